abbrev rX6_lives : Room := { frames := 1, cells := 0, slots := 0, locals := 25 }
set_option maxHeartbeats 4000000 in
set_option maxRecDepth 100000 in
theorem mX6_lives (l : Launch) (D : va_G) (h : Nat → Nat) (cI cJ : ClassId) (t0 : Nat) (hh : xdis 53 h) (S : SX) (L : LX) (v1 : Int32) (v2 : Int32) (post : Int32 → SX → Prop) (hw : kX6_lives S L v1 v2 post) : Met l yX6_lives wsX6_lives rX6_lives (xPre D (wX h cI cJ) (xE D h cI cJ t0) S L [.ref (h 0), .int v1, .int v2]) (va_Qi (fun (r : Int32) (u : SX × LX) => post r u.1 ∧ u.2 = L) (xB D (wX h cI cJ)) (xA 53 h)) 0 0 (xA 53 h) := by
  refine Met.ofW (cc := cX6_lives) (maxL := 4) (ret := (some .int)) (by decide) rfl ?_
  intro p e s m args below meth c s₁ B hml hv
  obtain ⟨hargs, hP, hE⟩ := hv
  have hx := B.exec
  have hb := B.bytes
  have hr := B.returns
  have hlocks := B.notSynchronized
  have hts := atoms_spec (ws := wsX6_lives) B.pre
  have hown : s.vm.findClass RX6 = some m.cls := findClass_of_methodNamed B.named
  have hS : va_S (xA 53 h) s.heap s.heap [] := va_S.rf
  have hD : ∀ (S : SX) (L : LX), va_D (xA 53 h) (wX h cI cJ S L) := fun S L => wX_D hh cI cJ S L
  have hK := hE.1
  have hst : xSt (xA 53 h) (xE D h cI cJ t0) := xE_st D h cI cJ t0
  have f0 := hts (.constantLong RX6 54 (5)) (by decide +kernel)
  have f1 := hts (.constantLong RX6 60 (400)) (by decide +kernel)
  have f2 := hts (.fieldLink RX6 10 "BookOfWills" "world" "LBookOfWills$World;") (by decide +kernel)
  have inX6 : ∀ w ∈ u_ws RX6 TX6 8, w ∈ wsX6_lives := fun w hw9 => List.mem_cons_of_mem _ (List.mem_append_left _ (List.mem_append_right _ hw9))
  have f4 := hts (.fieldLink RX6 62 "BookOfWills$World" "lives" "[I") (by decide +kernel)
  have inX5 : ∀ w ∈ u_ws RX5 TX5 10, w ∈ wsX6_lives := fun w hw9 => List.mem_cons_of_mem _ (List.mem_append_right _ hw9)
  have hl := lv_entry ([.ref (h 0), .int v1, .int v2]) (n := 4) (Nat.le_of_ble_eq_true rfl)
  have hen : entryFrame m args 4 = F0 m 0 ((lg_sl ([.ref (h 0), .int v1, .int v2]) ++ List.replicate (4 - (lg_sl ([.ref (h 0), .int v1, .int v2])).length) Slot.unset).toArray) [] := by rw [hargs]; exact lg_entry_eq m _ _
  rw [hen]
  generalize (lg_sl ([.ref (h 0), .int v1, .int v2]) ++ List.replicate (4 - (lg_sl ([.ref (h 0), .int v1, .int v2])).length) Slot.unset).toArray = ls at hl ⊢
  have hl : lv_has ls 4 [(0, .ref (h 0)), (1, .int v1), (2, .int v2)] := hl
  change W p l e rX6_lives s m args below meth c s.heap [] 0 0 (MQ below (va_Qi (fun (r : Int32) (u : SX × LX) => post r u.1 ∧ u.2 = L) (xB D (wX h cI cJ)) (xA 53 h)) args s 0 0 (xA 53 h)) (F0 m 0 ls [])
  have hret : ∀ (r : Int32) (S1 : SX) (H : Heap) (locs : List Loc) (ls : Array Slot) (pc : Nat), va_P D vwCl (wX h cI cJ S1 L) H → va_S (xA 53 h) s.heap H locs → post r S1 → decode cX6_lives pc = .ok (.ireturn, 1) → W p l e rX6_lives s m args below meth c H locs 0 0 (MQ below (va_Qi (fun (r : Int32) (u : SX × LX) => post r u.1 ∧ u.2 = L) (xB D (wX h cI cJ)) (xA 53 h)) args s 0 0 (xA 53 h)) (F0 m pc ls [.int r]) := fun r S1 H locs ls pc hP hS hw hd => W.iret hx hb hr (fun t ht hW => ⟨⟨r, (S1, L), rfl, ⟨hw, rfl⟩, show va_P D vwCl (wX h cI cJ S1 L) t.heap by rw [ht]; exact hP⟩, hS.F ht⟩) hS.2.2 hd
  generalize MQ below (va_Qi (fun (r : Int32) (u : SX × LX) => post r u.1 ∧ u.2 = L) (xB D (wX h cI cJ)) (xA 53 h)) args s 0 0 (xA 53 h) = Q at hret ⊢
  unfold kX6_lives at hw
  refine lv_iload_n hx hb dX6_lives_0 rfl (lv_at hl 1 rfl) ?_
  refine lv_i2l hx hb dX6_lives_1 rfl ?_
  refine lv_lconst (v := (0 : Int64)) hx hb dX6_lives_2 (by decide) ?_
  refine lv_ldc2 (v := (5 : Int64)) hx hb hown (f0) dX6_lives_3 ?_
  refine xSi0 (As := [.long v1.toInt64, .long (0 : Int64), .long (5 : Int64)]) (rest := []) hst hE hP hS ⟨hx, hb, hml, hown, hts⟩ (mX6_isWithin l D h cI cJ t0 hh S L v1.toInt64 (0 : Int64) (5 : Int64) _ hw) (va_cwS 3 hts gX6_lives_X6_isWithin rfl rfl rfl (by decide +kernel) ⟨Nat.le_of_ble_eq_true rfl, Nat.le_of_ble_eq_true rfl⟩) rfl hl.1 rfl (Nat.le_of_ble_eq_true rfl) dX6_lives_6 ⟨Nat.zero_le _, Nat.zero_le _⟩ (fun r6 H locs hw hP hS => ?_)
  refine lv_if_eq (tgt := 24) hx hb dX6_lives_9 (by decide) (fun hc => ?_) (fun hc => ?_)
  · replace hw := And.left hw hc
    refine lv_iconst (v := (-1 : Int32)) hx hb dX6_lives_24 (by decide) ?_
    exact hret _ _ _ _ _ _ hP hS hw dX6_lives_25
  · replace hw := And.right hw hc
    refine lv_iload_n hx hb dX6_lives_12 rfl (lv_at hl 2 rfl) ?_
    refine lv_i2l hx hb dX6_lives_13 rfl ?_
    refine lv_lconst (v := (1 : Int64)) hx hb dX6_lives_14 (by decide) ?_
    refine lv_ldc2 (v := (400 : Int64)) hx hb hown (f1) dX6_lives_15 ?_
    refine xSi0 (As := [.long v2.toInt64, .long (1 : Int64), .long (400 : Int64)]) (rest := []) hst hE hP hS ⟨hx, hb, hml, hown, hts⟩ (mX6_isWithin l D h cI cJ t0 hh S L v2.toInt64 (1 : Int64) (400 : Int64) _ hw) (va_cwS 3 hts gX6_lives_X6_isWithin rfl rfl rfl (by decide +kernel) ⟨Nat.le_of_ble_eq_true rfl, Nat.le_of_ble_eq_true rfl⟩) rfl hl.1 rfl (Nat.le_of_ble_eq_true rfl) dX6_lives_18 ⟨Nat.zero_le _, Nat.zero_le _⟩ (fun r18 H locs hw hP hS => ?_)
    refine lv_if_ne (tgt := 26) hx hb dX6_lives_21 (by decide) (fun hc => ?_) (fun hc => ?_)
    · replace hw := And.right hw hc
      refine lv_aload_n hx hb dX6_lives_26 rfl (lv_at hl 0 rfl) ?_
      refine va_get (D := D) (ci := 6) (v := .ref (h 1)) (C := RX6) (T := TX6) (N := 8) hx hb hts inX6 hown hK hP 0 wX_0 rfl 0 (by decide) f2 (fun _ h9 => h9) rfl dX6_lives_27 ?_
      refine va_get (D := D) (ci := 5) (v := .ref (h 2)) (C := RX5) (T := TX5) (N := 10) hx hb hts inX5 hown hK hP 1 wX_1 rfl 0 (by decide) f4 (fun _ h9 => h9) rfl dX6_lives_30 ?_
      refine lv_iload_n hx hb dX6_lives_33 rfl (lv_at hl 1 rfl) ?_
      obtain ⟨hi, hw⟩ := hw
      refine va_iald hx hb hK hP 2 0 wX_2 rfl hi dX6_lives_34 ?_
      refine lv_istore_n (lv' := [(3, .int (S 2 v1.toNatClampNeg)), (0, .ref (h 0)), (1, .int v1), (2, .int v2)]) hx hb dX6_lives_35 rfl hl (by decide) rfl (fun ls hl => ?_)
      refine lv_aload_n hx hb dX6_lives_36 rfl (lv_at hl 1 rfl) ?_
      refine va_get (D := D) (ci := 6) (v := .ref (h 1)) (C := RX6) (T := TX6) (N := 8) hx hb hts inX6 hown hK hP 0 wX_0 rfl 0 (by decide) f2 (fun _ h9 => h9) rfl dX6_lives_37 ?_
      refine va_get (D := D) (ci := 5) (v := .ref (h 2)) (C := RX5) (T := TX5) (N := 10) hx hb hts inX5 hown hK hP 1 wX_1 rfl 0 (by decide) f4 (fun _ h9 => h9) rfl dX6_lives_40 ?_
      refine lv_iload_n hx hb dX6_lives_43 rfl (lv_at hl 2 rfl) ?_
      refine lv_iload_n hx hb dX6_lives_44 rfl (lv_at hl 3 rfl) ?_
      obtain ⟨hi, hw⟩ := hw
      refine x_iast (ws2 := wX h cI cJ (xu S 2 v1.toNatClampNeg v2) L) hx hb hK hP (hD _ _) hS 2 0 wX_2 rfl hi dX6_lives_45 (wX_u2 _ _) (fun H locs hP hS => ?_)
      refine lv_iload_n hx hb dX6_lives_46 rfl (lv_at hl 0 rfl) ?_
      exact hret _ _ _ _ _ _ hP hS hw dX6_lives_47
    · replace hw := And.left hw hc
      refine lv_iconst (v := (-1 : Int32)) hx hb dX6_lives_24 (by decide) ?_
      exact hret _ _ _ _ _ _ hP hS hw dX6_lives_25
abbrev rX6_set : Room := { frames := 1, cells := 0, slots := 0, locals := 25 }
set_option maxHeartbeats 4000000 in
set_option maxRecDepth 100000 in
theorem mX6_set (l : Launch) (D : va_G) (h : Nat → Nat) (cI cJ : ClassId) (t0 : Nat) (hh : xdis 53 h) (S : SX) (L : LX) (v1 : Int32) (v2 : Int32) (post : Int32 → SX → Prop) (hw : kX6_set S L v1 v2 post) : Met l yX6_set wsX6_set rX6_set (xPre D (wX h cI cJ) (xE D h cI cJ t0) S L [.ref (h 0), .int v1, .int v2]) (va_Qi (fun (r : Int32) (u : SX × LX) => post r u.1 ∧ u.2 = L) (xB D (wX h cI cJ)) (xA 53 h)) 0 0 (xA 53 h) := by
  refine Met.ofW (cc := cX6_set) (maxL := 4) (ret := (some .int)) (by decide) rfl ?_
  intro p e s m args below meth c s₁ B hml hv
  obtain ⟨hargs, hP, hE⟩ := hv
  have hx := B.exec
  have hb := B.bytes
  have hr := B.returns
  have hlocks := B.notSynchronized
  have hts := atoms_spec (ws := wsX6_set) B.pre
  have hown : s.vm.findClass RX6 = some m.cls := findClass_of_methodNamed B.named
  have hS : va_S (xA 53 h) s.heap s.heap [] := va_S.rf
  have hD : ∀ (S : SX) (L : LX), va_D (xA 53 h) (wX h cI cJ S L) := fun S L => wX_D hh cI cJ S L
  have hK := hE.1
  have hst : xSt (xA 53 h) (xE D h cI cJ t0) := xE_st D h cI cJ t0
  have f0 := hts (.constantLong RX6 72 (100)) (by decide +kernel)
  have f1 := hts (.fieldLink RX6 10 "BookOfWills" "world" "LBookOfWills$World;") (by decide +kernel)
  have inX6 : ∀ w ∈ u_ws RX6 TX6 8, w ∈ wsX6_set := fun w hw9 => List.mem_cons_of_mem _ (List.mem_append_left _ (List.mem_append_right _ hw9))
  have f3 := hts (.fieldLink RX6 74 "BookOfWills$World" "more" "I") (by decide +kernel)
  have inX5 : ∀ w ∈ u_ws RX5 TX5 10, w ∈ wsX6_set := fun w hw9 => List.mem_cons_of_mem _ (List.mem_append_right _ hw9)
  have f5 := hts (.constantLong RX6 66 (99999)) (by decide +kernel)
  have f6 := hts (.fieldLink RX6 68 "BookOfWills$World" "riches" "I") (by decide +kernel)
  have hl := lv_entry ([.ref (h 0), .int v1, .int v2]) (n := 4) (Nat.le_of_ble_eq_true rfl)
  have hen : entryFrame m args 4 = F0 m 0 ((lg_sl ([.ref (h 0), .int v1, .int v2]) ++ List.replicate (4 - (lg_sl ([.ref (h 0), .int v1, .int v2])).length) Slot.unset).toArray) [] := by rw [hargs]; exact lg_entry_eq m _ _
  rw [hen]
  generalize (lg_sl ([.ref (h 0), .int v1, .int v2]) ++ List.replicate (4 - (lg_sl ([.ref (h 0), .int v1, .int v2])).length) Slot.unset).toArray = ls at hl ⊢
  have hl : lv_has ls 4 [(0, .ref (h 0)), (1, .int v1), (2, .int v2)] := hl
  change W p l e rX6_set s m args below meth c s.heap [] 0 0 (MQ below (va_Qi (fun (r : Int32) (u : SX × LX) => post r u.1 ∧ u.2 = L) (xB D (wX h cI cJ)) (xA 53 h)) args s 0 0 (xA 53 h)) (F0 m 0 ls [])
  have hret : ∀ (r : Int32) (S1 : SX) (H : Heap) (locs : List Loc) (ls : Array Slot) (pc : Nat), va_P D vwCl (wX h cI cJ S1 L) H → va_S (xA 53 h) s.heap H locs → post r S1 → decode cX6_set pc = .ok (.ireturn, 1) → W p l e rX6_set s m args below meth c H locs 0 0 (MQ below (va_Qi (fun (r : Int32) (u : SX × LX) => post r u.1 ∧ u.2 = L) (xB D (wX h cI cJ)) (xA 53 h)) args s 0 0 (xA 53 h)) (F0 m pc ls [.int r]) := fun r S1 H locs ls pc hP hS hw hd => W.iret hx hb hr (fun t ht hW => ⟨⟨r, (S1, L), rfl, ⟨hw, rfl⟩, show va_P D vwCl (wX h cI cJ S1 L) t.heap by rw [ht]; exact hP⟩, hS.F ht⟩) hS.2.2 hd
  generalize MQ below (va_Qi (fun (r : Int32) (u : SX × LX) => post r u.1 ∧ u.2 = L) (xB D (wX h cI cJ)) (xA 53 h)) args s 0 0 (xA 53 h) = Q at hret ⊢
  have b34 : ∀ (S : SX) (H : Heap) (locs : List Loc) (ls : Array Slot), lv_has ls 4 [(0, .ref (h 0)), (1, .int v1), (2, .int v2)] → va_P D vwCl (wX h cI cJ S L) H → va_S (xA 53 h) s.heap H locs → kX6_set_b34 L v1 v2 post S → W p l e rX6_set s m args below meth c H locs 0 0 Q (F0 m 34 ls []) := by
    intro S H locs ls hl hP hS hw
    unfold kX6_set_b34 at hw
    refine lv_iload_n hx hb dX6_set_34 rfl (lv_at hl 1 rfl) ?_
    refine lv_iconst (v := (1 : Int32)) hx hb dX6_set_35 (by decide) ?_
    refine lv_icmp_ne (tgt := 69) hx hb dX6_set_36 (by decide) (fun hc => ?_) (fun hc => ?_)
    · replace hw := And.right hw hc
      refine lv_iconst (v := (-1 : Int32)) hx hb dX6_set_69 (by decide) ?_
      exact hret _ _ _ _ _ _ hP hS hw dX6_set_70
    · replace hw := And.left hw hc
      refine lv_iload_n hx hb dX6_set_39 rfl (lv_at hl 2 rfl) ?_
      refine lv_i2l hx hb dX6_set_40 rfl ?_
      refine lv_lconst (v := (0 : Int64)) hx hb dX6_set_41 (by decide) ?_
      refine lv_ldc2 (v := (100 : Int64)) hx hb hown (f0) dX6_set_42 ?_
      refine xSi0 (As := [.long v2.toInt64, .long (0 : Int64), .long (100 : Int64)]) (rest := []) hst hE hP hS ⟨hx, hb, hml, hown, hts⟩ (mX6_isWithin l D h cI cJ t0 hh S L v2.toInt64 (0 : Int64) (100 : Int64) _ hw) (va_cwS 3 hts gX6_set_X6_isWithin rfl rfl rfl (by decide +kernel) ⟨Nat.le_of_ble_eq_true rfl, Nat.le_of_ble_eq_true rfl⟩) rfl hl.1 rfl (Nat.le_of_ble_eq_true rfl) dX6_set_45 ⟨Nat.zero_le _, Nat.zero_le _⟩ (fun r45 H locs hw hP hS => ?_)
      refine lv_if_eq (tgt := 69) hx hb dX6_set_48 (by decide) (fun hc => ?_) (fun hc => ?_)
      · replace hw := And.left hw hc
        refine lv_iconst (v := (-1 : Int32)) hx hb dX6_set_69 (by decide) ?_
        exact hret _ _ _ _ _ _ hP hS hw dX6_set_70
      · replace hw := And.right hw hc
        refine lv_aload_n hx hb dX6_set_51 rfl (lv_at hl 0 rfl) ?_
        refine va_get (D := D) (ci := 6) (v := .ref (h 1)) (C := RX6) (T := TX6) (N := 8) hx hb hts inX6 hown hK hP 0 wX_0 rfl 0 (by decide) f1 (fun _ h9 => h9) rfl dX6_set_52 ?_
        refine va_get (D := D) (ci := 5) (v := .int (S 1 1)) (C := RX5) (T := TX5) (N := 10) hx hb hts inX5 hown hK hP 1 wX_1 rfl 2 (by decide) f3 (fun _ h9 => h9) rfl dX6_set_55 ?_
        refine lv_istore_n (lv' := [(3, .int (S 1 1)), (0, .ref (h 0)), (1, .int v1), (2, .int v2)]) hx hb dX6_set_58 rfl hl (by decide) rfl (fun ls hl => ?_)
        refine lv_aload_n hx hb dX6_set_59 rfl (lv_at hl 1 rfl) ?_
        refine va_get (D := D) (ci := 6) (v := .ref (h 1)) (C := RX6) (T := TX6) (N := 8) hx hb hts inX6 hown hK hP 0 wX_0 rfl 0 (by decide) f1 (fun _ h9 => h9) rfl dX6_set_60 ?_
        refine lv_iload_n hx hb dX6_set_63 rfl (lv_at hl 3 rfl) ?_
        refine x_put (D := D) (ci := 5) (v := .int v2) (ty := .int) (C := RX5) (T := TX5) (N := 10) (ws2 := wX h cI cJ (xu S 1 1 v2) L) hx hb hts inX5 tyX5 tyX5_ok nmX5 hown hK hP (hD _ _) hS 1 wX_1 rfl 2 (by decide) f3 (fun _ h9 => h9) rfl (by decide +kernel) rfl rfl (Nat.le_of_ble_eq_true rfl) dX6_set_64 (wX_p1_1 _) (fun H locs hP hS => ?_)
        refine lv_iload_n hx hb dX6_set_67 rfl (lv_at hl 0 rfl) ?_
        exact hret _ _ _ _ _ _ hP hS hw dX6_set_68
  unfold kX6_set at hw
  refine lv_iload_n hx hb dX6_set_0 rfl (lv_at hl 1 rfl) ?_
  refine lv_if_ne (tgt := 34) hx hb dX6_set_1 (by decide) (fun hc => ?_) (fun hc => ?_)
  · replace hw := And.right hw hc
    exact b34 S _ _ _ (lv_sub hl [0, 1, 2] rfl) hP hS hw
  · replace hw := And.left hw hc
    refine lv_iload_n hx hb dX6_set_4 rfl (lv_at hl 2 rfl) ?_
    refine lv_i2l hx hb dX6_set_5 rfl ?_
    refine lv_lconst (v := (0 : Int64)) hx hb dX6_set_6 (by decide) ?_
    refine lv_ldc2 (v := (99999 : Int64)) hx hb hown (f5) dX6_set_7 ?_
    refine xSi0 (As := [.long v2.toInt64, .long (0 : Int64), .long (99999 : Int64)]) (rest := []) hst hE hP hS ⟨hx, hb, hml, hown, hts⟩ (mX6_isWithin l D h cI cJ t0 hh S L v2.toInt64 (0 : Int64) (99999 : Int64) _ hw) (va_cwS 3 hts gX6_set_X6_isWithin rfl rfl rfl (by decide +kernel) ⟨Nat.le_of_ble_eq_true rfl, Nat.le_of_ble_eq_true rfl⟩) rfl hl.1 rfl (Nat.le_of_ble_eq_true rfl) dX6_set_10 ⟨Nat.zero_le _, Nat.zero_le _⟩ (fun r10 H locs hw hP hS => ?_)
    refine lv_if_eq (tgt := 34) hx hb dX6_set_13 (by decide) (fun hc => ?_) (fun hc => ?_)
    · replace hw := And.left hw hc
      exact b34 S _ _ _ (lv_sub hl [0, 1, 2] rfl) hP hS hw
    · replace hw := And.right hw hc
      refine lv_aload_n hx hb dX6_set_16 rfl (lv_at hl 0 rfl) ?_
      refine va_get (D := D) (ci := 6) (v := .ref (h 1)) (C := RX6) (T := TX6) (N := 8) hx hb hts inX6 hown hK hP 0 wX_0 rfl 0 (by decide) f1 (fun _ h9 => h9) rfl dX6_set_17 ?_
      refine va_get (D := D) (ci := 5) (v := .int (S 1 0)) (C := RX5) (T := TX5) (N := 10) hx hb hts inX5 hown hK hP 1 wX_1 rfl 1 (by decide) f6 (fun _ h9 => h9) rfl dX6_set_20 ?_
      refine lv_istore_n (lv' := [(3, .int (S 1 0)), (0, .ref (h 0)), (1, .int v1), (2, .int v2)]) hx hb dX6_set_23 rfl hl (by decide) rfl (fun ls hl => ?_)
      refine lv_aload_n hx hb dX6_set_24 rfl (lv_at hl 1 rfl) ?_
      refine va_get (D := D) (ci := 6) (v := .ref (h 1)) (C := RX6) (T := TX6) (N := 8) hx hb hts inX6 hown hK hP 0 wX_0 rfl 0 (by decide) f1 (fun _ h9 => h9) rfl dX6_set_25 ?_
      refine lv_iload_n hx hb dX6_set_28 rfl (lv_at hl 3 rfl) ?_
      refine x_put (D := D) (ci := 5) (v := .int v2) (ty := .int) (C := RX5) (T := TX5) (N := 10) (ws2 := wX h cI cJ (xu S 1 0 v2) L) hx hb hts inX5 tyX5 tyX5_ok nmX5 hown hK hP (hD _ _) hS 1 wX_1 rfl 1 (by decide) f6 (fun _ h9 => h9) rfl (by decide +kernel) rfl rfl (Nat.le_of_ble_eq_true rfl) dX6_set_29 (wX_p1_0 _) (fun H locs hP hS => ?_)
      refine lv_iload_n hx hb dX6_set_32 rfl (lv_at hl 0 rfl) ?_
      exact hret _ _ _ _ _ _ hP hS hw dX6_set_33
abbrev rX6_isYear : Room := { frames := 1, cells := 0, slots := 0, locals := 25 }
set_option maxHeartbeats 4000000 in
set_option maxRecDepth 100000 in
theorem mX6_isYear (l : Launch) (D : va_G) (h : Nat → Nat) (cI cJ : ClassId) (t0 : Nat) (hh : xdis 53 h) (S : SX) (L : LX) (v0 : Int32) (post : Int32 → Prop) (hw : kX6_isYear S L v0 post) : Met l yX6_isYear wsX6_isYear rX6_isYear (xPre D (wX h cI cJ) (xE D h cI cJ t0) S L [.int v0]) (va_Qi (fun (r : Int32) (u : SX × LX) => post r ∧ u.1 = S ∧ u.2 = L) (xB D (wX h cI cJ)) (xA 53 h)) 0 0 (xA 53 h) := by
  refine Met.ofW (cc := cX6_isYear) (maxL := 1) (ret := (some .boolean)) (by decide) rfl ?_
  intro p e s m args below meth c s₁ B hml hv
  obtain ⟨hargs, hP, hE⟩ := hv
  have hx := B.exec
  have hb := B.bytes
  have hr := B.returns
  have hlocks := B.notSynchronized
  have hts := atoms_spec (ws := wsX6_isYear) B.pre
  have hown : s.vm.findClass RX6 = some m.cls := findClass_of_methodNamed B.named
  have hS : va_S (xA 53 h) s.heap s.heap [] := va_S.rf
  have hD : ∀ (S : SX) (L : LX), va_D (xA 53 h) (wX h cI cJ S L) := fun S L => wX_D hh cI cJ S L
  have hK := hE.1
  have hst : xSt (xA 53 h) (xE D h cI cJ t0) := xE_st D h cI cJ t0
  have f0 := hts (.constantLong RX6 360 (7)) (by decide +kernel)
  have hl := lv_entry ([.int v0]) (n := 1) (Nat.le_of_ble_eq_true rfl)
  have hen : entryFrame m args 1 = F0 m 0 ((lg_sl ([.int v0]) ++ List.replicate (1 - (lg_sl ([.int v0])).length) Slot.unset).toArray) [] := by rw [hargs]; exact lg_entry_eq m _ _
  rw [hen]
  generalize (lg_sl ([.int v0]) ++ List.replicate (1 - (lg_sl ([.int v0])).length) Slot.unset).toArray = ls at hl ⊢
  have hl : lv_has ls 1 [(0, .int v0)] := hl
  change W p l e rX6_isYear s m args below meth c s.heap [] 0 0 (MQ below (va_Qi (fun (r : Int32) (u : SX × LX) => post r ∧ u.1 = S ∧ u.2 = L) (xB D (wX h cI cJ)) (xA 53 h)) args s 0 0 (xA 53 h)) (F0 m 0 ls [])
  have hret : ∀ (r : Int32) (H : Heap) (locs : List Loc) (ls : Array Slot) (pc : Nat), va_P D vwCl (wX h cI cJ S L) H → va_S (xA 53 h) s.heap H locs → post r → narrow .boolean (.int r) = .int r → decode cX6_isYear pc = .ok (.ireturn, 1) → W p l e rX6_isYear s m args below meth c H locs 0 0 (MQ below (va_Qi (fun (r : Int32) (u : SX × LX) => post r ∧ u.1 = S ∧ u.2 = L) (xB D (wX h cI cJ)) (xA 53 h)) args s 0 0 (xA 53 h)) (F0 m pc ls [.int r]) := fun r H locs ls pc hP hS hw hna hd => W.zret hx hb hr hna (fun t ht hW => ⟨⟨r, (S, L), rfl, ⟨hw, rfl, rfl⟩, show va_P D vwCl (wX h cI cJ S L) t.heap by rw [ht]; exact hP⟩, hS.F ht⟩) hS.2.2 hd
  generalize MQ below (va_Qi (fun (r : Int32) (u : SX × LX) => post r ∧ u.1 = S ∧ u.2 = L) (xB D (wX h cI cJ)) (xA 53 h)) args s 0 0 (xA 53 h) = Q at hret ⊢
  unfold kX6_isYear at hw
  refine lv_iload_n hx hb dX6_isYear_0 rfl (lv_at hl 0 rfl) ?_
  refine lv_i2l hx hb dX6_isYear_1 rfl ?_
  refine lv_lconst (v := (0 : Int64)) hx hb dX6_isYear_2 (by decide) ?_
  refine lv_ldc2 (v := (7 : Int64)) hx hb hown (f0) dX6_isYear_3 ?_
  refine xSi0 (As := [.long v0.toInt64, .long (0 : Int64), .long (7 : Int64)]) (rest := []) hst hE hP hS ⟨hx, hb, hml, hown, hts⟩ (mX6_isWithin l D h cI cJ t0 hh S L v0.toInt64 (0 : Int64) (7 : Int64) _ hw) (va_cwS 3 hts gX6_isYear_X6_isWithin rfl rfl rfl (by decide +kernel) ⟨Nat.le_of_ble_eq_true rfl, Nat.le_of_ble_eq_true rfl⟩) rfl hl.1 rfl (Nat.le_of_ble_eq_true rfl) dX6_isYear_6 ⟨Nat.zero_le _, Nat.zero_le _⟩ (fun r6 H locs hw hP hS => ?_)
  exact hret _ _ _ _ _ hP hS hw.2 (xb_n hw.1) dX6_isYear_9
abbrev rX6_will : Room := { frames := 2, cells := 0, slots := 0, locals := 46 }
set_option maxHeartbeats 4000000 in
set_option maxRecDepth 100000 in
theorem mX6_will (l : Launch) (D : va_G) (h : Nat → Nat) (cI cJ : ClassId) (t0 : Nat) (hh : xdis 53 h) (S : SX) (L : LX) (v1 : Int32) (v2 : Int32) (v3 : Int32) (v4 : Int32) (post : Int32 → SX → Prop) (hw : kX6_will S L v1 v2 v3 v4 post) : Met l yX6_will wsX6_will rX6_will (xPre D (wX h cI cJ) (xE D h cI cJ t0) S L [.ref (h 0), .int v1, .int v2, .int v3, .int v4]) (va_Qi (fun (r : Int32) (u : SX × LX) => post r u.1 ∧ u.2 = L) (xB D (wX h cI cJ)) (xA 53 h)) 0 0 (xA 53 h) := by
  refine Met.ofW (cc := cX6_will) (maxL := 5) (ret := (some .int)) (by decide) rfl ?_
  intro p e s m args below meth c s₁ B hml hv
  obtain ⟨hargs, hP, hE⟩ := hv
  have hx := B.exec
  have hb := B.bytes
  have hr := B.returns
  have hlocks := B.notSynchronized
  have hts := atoms_spec (ws := wsX6_will) B.pre
  have hown : s.vm.findClass RX6 = some m.cls := findClass_of_methodNamed B.named
  have hS : va_S (xA 53 h) s.heap s.heap [] := va_S.rf
  have hD : ∀ (S : SX) (L : LX), va_D (xA 53 h) (wX h cI cJ S L) := fun S L => wX_D hh cI cJ S L
  have hK := hE.1
  have hst : xSt (xA 53 h) (xE D h cI cJ t0) := xE_st D h cI cJ t0
  have f0 := hts (.constantLong RX6 54 (5)) (by decide +kernel)
  have f1 := hts (.constantLong RX6 81 (9999)) (by decide +kernel)
  have f2 := hts (.fieldLink RX6 10 "BookOfWills" "world" "LBookOfWills$World;") (by decide +kernel)
  have inX6 : ∀ w ∈ u_ws RX6 TX6 8, w ∈ wsX6_will := fun w hw9 => List.mem_cons_of_mem _ (List.mem_append_left _ (List.mem_append_left _ (List.mem_append_right _ hw9)))
  have f4 := hts (.fieldLink RX6 83 "BookOfWills$World" "wills" "LBookOfWills$Wills;") (by decide +kernel)
  have inX5 : ∀ w ∈ u_ws RX5 TX5 10, w ∈ wsX6_will := fun w hw9 => List.mem_cons_of_mem _ (List.mem_append_left _ (List.mem_append_right _ hw9))
  have f6 := hts (.fieldLink RX6 93 "BookOfWills$Wills" "size" "I") (by decide +kernel)
  have inX4 : ∀ w ∈ u_ws RX4 TX4 5, w ∈ wsX6_will := fun w hw9 => List.mem_cons_of_mem _ (List.mem_append_right _ hw9)
  have hl := lv_entry ([.ref (h 0), .int v1, .int v2, .int v3, .int v4]) (n := 5) (Nat.le_of_ble_eq_true rfl)
  have hen : entryFrame m args 5 = F0 m 0 ((lg_sl ([.ref (h 0), .int v1, .int v2, .int v3, .int v4]) ++ List.replicate (5 - (lg_sl ([.ref (h 0), .int v1, .int v2, .int v3, .int v4])).length) Slot.unset).toArray) [] := by rw [hargs]; exact lg_entry_eq m _ _
  rw [hen]
  generalize (lg_sl ([.ref (h 0), .int v1, .int v2, .int v3, .int v4]) ++ List.replicate (5 - (lg_sl ([.ref (h 0), .int v1, .int v2, .int v3, .int v4])).length) Slot.unset).toArray = ls at hl ⊢
  have hl : lv_has ls 5 [(0, .ref (h 0)), (1, .int v1), (2, .int v2), (3, .int v3), (4, .int v4)] := hl
  change W p l e rX6_will s m args below meth c s.heap [] 0 0 (MQ below (va_Qi (fun (r : Int32) (u : SX × LX) => post r u.1 ∧ u.2 = L) (xB D (wX h cI cJ)) (xA 53 h)) args s 0 0 (xA 53 h)) (F0 m 0 ls [])
  have hret : ∀ (r : Int32) (S1 : SX) (H : Heap) (locs : List Loc) (ls : Array Slot) (pc : Nat), va_P D vwCl (wX h cI cJ S1 L) H → va_S (xA 53 h) s.heap H locs → post r S1 → decode cX6_will pc = .ok (.ireturn, 1) → W p l e rX6_will s m args below meth c H locs 0 0 (MQ below (va_Qi (fun (r : Int32) (u : SX × LX) => post r u.1 ∧ u.2 = L) (xB D (wX h cI cJ)) (xA 53 h)) args s 0 0 (xA 53 h)) (F0 m pc ls [.int r]) := fun r S1 H locs ls pc hP hS hw hd => W.iret hx hb hr (fun t ht hW => ⟨⟨r, (S1, L), rfl, ⟨hw, rfl⟩, show va_P D vwCl (wX h cI cJ S1 L) t.heap by rw [ht]; exact hP⟩, hS.F ht⟩) hS.2.2 hd
  generalize MQ below (va_Qi (fun (r : Int32) (u : SX × LX) => post r u.1 ∧ u.2 = L) (xB D (wX h cI cJ)) (xA 53 h)) args s 0 0 (xA 53 h) = Q at hret ⊢
  unfold kX6_will at hw
  refine lv_iload_n hx hb dX6_will_0 rfl (lv_at hl 1 rfl) ?_
  refine xSi0 (As := [.int v1]) (rest := []) hst hE hP hS ⟨hx, hb, hml, hown, hts⟩ (mX6_isYear l D h cI cJ t0 hh S L v1 _ hw) (va_cwS 1 hts gX6_will_X6_isYear rfl rfl rfl (by decide +kernel) ⟨Nat.le_of_ble_eq_true rfl, Nat.le_of_ble_eq_true rfl⟩) rfl hl.1 rfl (Nat.le_of_ble_eq_true rfl) dX6_will_1 ⟨Nat.zero_le _, Nat.zero_le _⟩ (fun r1 H locs hw hP hS => ?_)
  refine lv_if_eq (tgt := 42) hx hb dX6_will_4 (by decide) (fun hc => ?_) (fun hc => ?_)
  · replace hw := And.left hw hc
    refine lv_iconst (v := (-1 : Int32)) hx hb dX6_will_42 (by decide) ?_
    exact hret _ _ _ _ _ _ hP hS hw dX6_will_43
  · replace hw := And.right hw hc
    refine lv_iload_n hx hb dX6_will_7 rfl (lv_at hl 2 rfl) ?_
    refine lv_i2l hx hb dX6_will_8 rfl ?_
    refine lv_lconst (v := (0 : Int64)) hx hb dX6_will_9 (by decide) ?_
    refine lv_ldc2 (v := (5 : Int64)) hx hb hown (f0) dX6_will_10 ?_
    refine xSi0 (As := [.long v2.toInt64, .long (0 : Int64), .long (5 : Int64)]) (rest := []) hst hE hP hS ⟨hx, hb, hml, hown, hts⟩ (mX6_isWithin l D h cI cJ t0 hh S L v2.toInt64 (0 : Int64) (5 : Int64) _ hw) (va_cwS 3 hts gX6_will_X6_isWithin rfl rfl rfl (by decide +kernel) ⟨Nat.le_of_ble_eq_true rfl, Nat.le_of_ble_eq_true rfl⟩) rfl hl.1 rfl (Nat.le_of_ble_eq_true rfl) dX6_will_13 ⟨Nat.zero_le _, Nat.zero_le _⟩ (fun r13 H locs hw hP hS => ?_)
    refine lv_if_eq (tgt := 42) hx hb dX6_will_16 (by decide) (fun hc => ?_) (fun hc => ?_)
    · replace hw := And.left hw hc
      refine lv_iconst (v := (-1 : Int32)) hx hb dX6_will_42 (by decide) ?_
      exact hret _ _ _ _ _ _ hP hS hw dX6_will_43
    · replace hw := And.right hw hc
      refine lv_iload_n hx hb dX6_will_19 rfl (lv_at hl 3 rfl) ?_
      refine lv_i2l hx hb dX6_will_20 rfl ?_
      refine lv_lconst (v := (0 : Int64)) hx hb dX6_will_21 (by decide) ?_
      refine lv_lconst (v := (1 : Int64)) hx hb dX6_will_22 (by decide) ?_
      refine xSi0 (As := [.long v3.toInt64, .long (0 : Int64), .long (1 : Int64)]) (rest := []) hst hE hP hS ⟨hx, hb, hml, hown, hts⟩ (mX6_isWithin l D h cI cJ t0 hh S L v3.toInt64 (0 : Int64) (1 : Int64) _ hw) (va_cwS 3 hts gX6_will_X6_isWithin rfl rfl rfl (by decide +kernel) ⟨Nat.le_of_ble_eq_true rfl, Nat.le_of_ble_eq_true rfl⟩) rfl hl.1 rfl (Nat.le_of_ble_eq_true rfl) dX6_will_23 ⟨Nat.zero_le _, Nat.zero_le _⟩ (fun r23 H locs hw hP hS => ?_)
      refine lv_if_eq (tgt := 42) hx hb dX6_will_26 (by decide) (fun hc => ?_) (fun hc => ?_)
      · replace hw := And.left hw hc
        refine lv_iconst (v := (-1 : Int32)) hx hb dX6_will_42 (by decide) ?_
        exact hret _ _ _ _ _ _ hP hS hw dX6_will_43
      · replace hw := And.right hw hc
        refine lv_iload hx hb dX6_will_29 (lv_at hl 4 rfl) ?_
        refine lv_i2l hx hb dX6_will_31 rfl ?_
        refine lv_lconst (v := (0 : Int64)) hx hb dX6_will_32 (by decide) ?_
        refine lv_ldc2 (v := (9999 : Int64)) hx hb hown (f1) dX6_will_33 ?_
        refine xSi0 (As := [.long v4.toInt64, .long (0 : Int64), .long (9999 : Int64)]) (rest := []) hst hE hP hS ⟨hx, hb, hml, hown, hts⟩ (mX6_isWithin l D h cI cJ t0 hh S L v4.toInt64 (0 : Int64) (9999 : Int64) _ hw) (va_cwS 3 hts gX6_will_X6_isWithin rfl rfl rfl (by decide +kernel) ⟨Nat.le_of_ble_eq_true rfl, Nat.le_of_ble_eq_true rfl⟩) rfl hl.1 rfl (Nat.le_of_ble_eq_true rfl) dX6_will_36 ⟨Nat.zero_le _, Nat.zero_le _⟩ (fun r36 H locs hw hP hS => ?_)
        refine lv_if_ne (tgt := 44) hx hb dX6_will_39 (by decide) (fun hc => ?_) (fun hc => ?_)
        · replace hw := And.right hw hc
          refine lv_aload_n hx hb dX6_will_44 rfl (lv_at hl 0 rfl) ?_
          refine va_get (D := D) (ci := 6) (v := .ref (h 1)) (C := RX6) (T := TX6) (N := 8) hx hb hts inX6 hown hK hP 0 wX_0 rfl 0 (by decide) f2 (fun _ h9 => h9) rfl dX6_will_45 ?_
          refine va_get (D := D) (ci := 5) (v := .ref (h 8)) (C := RX5) (T := TX5) (N := 10) hx hb hts inX5 hown hK hP 1 wX_1 rfl 4 (by decide) f4 (fun _ h9 => h9) rfl dX6_will_48 ?_
          refine lv_iconst (v := (1 : Int32)) hx hb dX6_will_51 (by decide) ?_
          refine xVi0 (As := [.int (1 : Int32)]) (rest := []) hst hE hP hS ⟨hx, hb, hml, hown, hts⟩ (va_recv hK hP (ci := 4) (q := (RX4, TX4, 5)) rfl wX_8) (mX4_hasRoomFor_8 l D h cI cJ t0 hh S L (1 : Int32) _ hw) (cwV 1 hts gX6_will_X4_hasRoomFor rfl rfl rfl (by decide +kernel) ⟨Nat.le_of_ble_eq_true rfl, Nat.le_of_ble_eq_true rfl⟩) rfl hl.1 rfl (Nat.le_of_ble_eq_true rfl) dX6_will_52 ⟨Nat.zero_le _, Nat.zero_le _⟩ (fun r52 H locs hw hP hS => ?_)
          refine lv_if_ne (tgt := 61) hx hb dX6_will_55 (by decide) (fun hc => ?_) (fun hc => ?_)
          · replace hw := And.right hw hc
            refine lv_aload_n hx hb dX6_will_61 rfl (lv_at hl 0 rfl) ?_
            refine va_get (D := D) (ci := 6) (v := .ref (h 1)) (C := RX6) (T := TX6) (N := 8) hx hb hts inX6 hown hK hP 0 wX_0 rfl 0 (by decide) f2 (fun _ h9 => h9) rfl dX6_will_62 ?_
            refine va_get (D := D) (ci := 5) (v := .ref (h 8)) (C := RX5) (T := TX5) (N := 10) hx hb hts inX5 hown hK hP 1 wX_1 rfl 4 (by decide) f4 (fun _ h9 => h9) rfl dX6_will_65 ?_
            refine lv_iload_n hx hb dX6_will_68 rfl (lv_at hl 1 rfl) ?_
            refine lv_iload_n hx hb dX6_will_69 rfl (lv_at hl 2 rfl) ?_
            refine lv_iload_n hx hb dX6_will_70 rfl (lv_at hl 3 rfl) ?_
            refine lv_iload hx hb dX6_will_71 (lv_at hl 4 rfl) ?_
            refine xVv1 (As := [.int v1, .int v2, .int v3, .int v4]) (rest := []) hst hE hP hS ⟨hx, hb, hml, hown, hts⟩ (va_recv hK hP (ci := 4) (q := (RX4, TX4, 5)) rfl wX_8) (mX4_add_8 l D h cI cJ t0 hh S L v1 v2 v3 v4 _ hw) (cwV 4 hts gX6_will_X4_add rfl rfl rfl (by decide +kernel) ⟨Nat.le_of_ble_eq_true rfl, Nat.le_of_ble_eq_true rfl⟩) rfl hl.1 rfl (Nat.le_of_ble_eq_true rfl) dX6_will_73 ⟨Nat.zero_le _, Nat.zero_le _⟩ (fun S73 H locs hw hP hS => ?_)
            refine lv_aload_n hx hb dX6_will_76 rfl (lv_at hl 0 rfl) ?_
            refine va_get (D := D) (ci := 6) (v := .ref (h 1)) (C := RX6) (T := TX6) (N := 8) hx hb hts inX6 hown hK hP 0 wX_0 rfl 0 (by decide) f2 (fun _ h9 => h9) rfl dX6_will_77 ?_
            refine va_get (D := D) (ci := 5) (v := .ref (h 8)) (C := RX5) (T := TX5) (N := 10) hx hb hts inX5 hown hK hP 1 wX_1 rfl 4 (by decide) f4 (fun _ h9 => h9) rfl dX6_will_80 ?_
            refine va_get (D := D) (ci := 4) (v := .int (S73 8 0)) (C := RX4) (T := TX4) (N := 5) hx hb hts inX4 hown hK hP 8 wX_8 rfl 0 (by decide) f6 (fun _ h9 => h9) rfl dX6_will_83 ?_
            refine lv_iconst (v := (1 : Int32)) hx hb dX6_will_86 (by decide) ?_
            refine lv_isub hx hb dX6_will_87 ?_
            exact hret _ _ _ _ _ _ hP hS hw dX6_will_88
          · replace hw := And.left hw hc
            refine lv_bipush (v := (-3 : Int32)) hx hb dX6_will_58 (by decide) ?_
            exact hret _ _ _ _ _ _ hP hS hw dX6_will_60
        · replace hw := And.left hw hc
          refine lv_iconst (v := (-1 : Int32)) hx hb dX6_will_42 (by decide) ?_
          exact hret _ _ _ _ _ _ hP hS hw dX6_will_43
abbrev rX6_had : Room := { frames := 1, cells := 0, slots := 0, locals := 25 }
set_option maxHeartbeats 4000000 in
set_option maxRecDepth 100000 in
theorem mX6_had (l : Launch) (D : va_G) (h : Nat → Nat) (cI cJ : ClassId) (t0 : Nat) (hh : xdis 53 h) (S : SX) (L : LX) (v1 : Int32) (v2 : Int32) (v3 : Int32) (post : Int32 → SX → Prop) (hw : kX6_had S L v1 v2 v3 post) : Met l yX6_had wsX6_had rX6_had (xPre D (wX h cI cJ) (xE D h cI cJ t0) S L [.ref (h 0), .int v1, .int v2, .int v3]) (va_Qi (fun (r : Int32) (u : SX × LX) => post r u.1 ∧ u.2 = L) (xB D (wX h cI cJ)) (xA 53 h)) 0 0 (xA 53 h) := by
  refine Met.ofW (cc := cX6_had) (maxL := 6) (ret := (some .int)) (by decide) rfl ?_
  intro p e s m args below meth c s₁ B hml hv
  obtain ⟨hargs, hP, hE⟩ := hv
  have hx := B.exec
  have hb := B.bytes
  have hr := B.returns
  have hlocks := B.notSynchronized
  have hts := atoms_spec (ws := wsX6_had) B.pre
  have hown : s.vm.findClass RX6 = some m.cls := findClass_of_methodNamed B.named
  have hS : va_S (xA 53 h) s.heap s.heap [] := va_S.rf
  have hD : ∀ (S : SX) (L : LX), va_D (xA 53 h) (wX h cI cJ S L) := fun S L => wX_D hh cI cJ S L
  have hK := hE.1
  have hst : xSt (xA 53 h) (xE D h cI cJ t0) := xE_st D h cI cJ t0
  have f0 := hts (.fieldLink RX6 10 "BookOfWills" "world" "LBookOfWills$World;") (by decide +kernel)
  have inX6 : ∀ w ∈ u_ws RX6 TX6 8, w ∈ wsX6_had := fun w hw9 => List.mem_cons_of_mem _ (List.mem_append_left _ (List.mem_append_left _ (List.mem_append_right _ hw9)))
  have f2 := hts (.fieldLink RX6 83 "BookOfWills$World" "wills" "LBookOfWills$Wills;") (by decide +kernel)
  have inX5 : ∀ w ∈ u_ws RX5 TX5 10, w ∈ wsX6_had := fun w hw9 => List.mem_cons_of_mem _ (List.mem_append_left _ (List.mem_append_right _ hw9))
  have f4 := hts (.constantLong RX6 99 (3)) (by decide +kernel)
  have f5 := hts (.constantLong RX6 81 (9999)) (by decide +kernel)
  have f6 := hts (.fieldLink RX6 101 "BookOfWills$Wills" "had" "[I") (by decide +kernel)
  have inX4 : ∀ w ∈ u_ws RX4 TX4 5, w ∈ wsX6_had := fun w hw9 => List.mem_cons_of_mem _ (List.mem_append_right _ hw9)
  have hl := lv_entry ([.ref (h 0), .int v1, .int v2, .int v3]) (n := 6) (Nat.le_of_ble_eq_true rfl)
  have hen : entryFrame m args 6 = F0 m 0 ((lg_sl ([.ref (h 0), .int v1, .int v2, .int v3]) ++ List.replicate (6 - (lg_sl ([.ref (h 0), .int v1, .int v2, .int v3])).length) Slot.unset).toArray) [] := by rw [hargs]; exact lg_entry_eq m _ _
  rw [hen]
  generalize (lg_sl ([.ref (h 0), .int v1, .int v2, .int v3]) ++ List.replicate (6 - (lg_sl ([.ref (h 0), .int v1, .int v2, .int v3])).length) Slot.unset).toArray = ls at hl ⊢
  have hl : lv_has ls 6 [(0, .ref (h 0)), (1, .int v1), (2, .int v2), (3, .int v3)] := hl
  change W p l e rX6_had s m args below meth c s.heap [] 0 0 (MQ below (va_Qi (fun (r : Int32) (u : SX × LX) => post r u.1 ∧ u.2 = L) (xB D (wX h cI cJ)) (xA 53 h)) args s 0 0 (xA 53 h)) (F0 m 0 ls [])
  have hret : ∀ (r : Int32) (S1 : SX) (H : Heap) (locs : List Loc) (ls : Array Slot) (pc : Nat), va_P D vwCl (wX h cI cJ S1 L) H → va_S (xA 53 h) s.heap H locs → post r S1 → decode cX6_had pc = .ok (.ireturn, 1) → W p l e rX6_had s m args below meth c H locs 0 0 (MQ below (va_Qi (fun (r : Int32) (u : SX × LX) => post r u.1 ∧ u.2 = L) (xB D (wX h cI cJ)) (xA 53 h)) args s 0 0 (xA 53 h)) (F0 m pc ls [.int r]) := fun r S1 H locs ls pc hP hS hw hd => W.iret hx hb hr (fun t ht hW => ⟨⟨r, (S1, L), rfl, ⟨hw, rfl⟩, show va_P D vwCl (wX h cI cJ S1 L) t.heap by rw [ht]; exact hP⟩, hS.F ht⟩) hS.2.2 hd
  generalize MQ below (va_Qi (fun (r : Int32) (u : SX × LX) => post r u.1 ∧ u.2 = L) (xB D (wX h cI cJ)) (xA 53 h)) args s 0 0 (xA 53 h) = Q at hret ⊢
  unfold kX6_had at hw
  refine lv_aload_n hx hb dX6_had_0 rfl (lv_at hl 0 rfl) ?_
  refine va_get (D := D) (ci := 6) (v := .ref (h 1)) (C := RX6) (T := TX6) (N := 8) hx hb hts inX6 hown hK hP 0 wX_0 rfl 0 (by decide) f0 (fun _ h9 => h9) rfl dX6_had_1 ?_
  refine va_get (D := D) (ci := 5) (v := .ref (h 8)) (C := RX5) (T := TX5) (N := 10) hx hb hts inX5 hown hK hP 1 wX_1 rfl 4 (by decide) f2 (fun _ h9 => h9) rfl dX6_had_4 ?_
  refine lv_iload_n hx hb dX6_had_7 rfl (lv_at hl 1 rfl) ?_
  refine xVi0 (As := [.int v1]) (rest := []) hst hE hP hS ⟨hx, hb, hml, hown, hts⟩ (va_recv hK hP (ci := 4) (q := (RX4, TX4, 5)) rfl wX_8) (mX4_has l D h cI cJ t0 hh S L v1 _ hw) (cwV 1 hts gX6_had_X4_has rfl rfl rfl (by decide +kernel) ⟨Nat.le_of_ble_eq_true rfl, Nat.le_of_ble_eq_true rfl⟩) rfl hl.1 rfl (Nat.le_of_ble_eq_true rfl) dX6_had_8 ⟨Nat.zero_le _, Nat.zero_le _⟩ (fun r8 H locs hw hP hS => ?_)
  refine lv_if_eq (tgt := 38) hx hb dX6_had_11 (by decide) (fun hc => ?_) (fun hc => ?_)
  · replace hw := And.left hw hc
    refine lv_iconst (v := (-1 : Int32)) hx hb dX6_had_38 (by decide) ?_
    exact hret _ _ _ _ _ _ hP hS hw dX6_had_39
  · replace hw := And.right hw hc
    refine lv_iload_n hx hb dX6_had_14 rfl (lv_at hl 2 rfl) ?_
    refine lv_i2l hx hb dX6_had_15 rfl ?_
    refine lv_lconst (v := (0 : Int64)) hx hb dX6_had_16 (by decide) ?_
    refine lv_ldc2 (v := (3 : Int64)) hx hb hown (f4) dX6_had_17 ?_
    refine xSi0 (As := [.long v2.toInt64, .long (0 : Int64), .long (3 : Int64)]) (rest := []) hst hE hP hS ⟨hx, hb, hml, hown, hts⟩ (mX6_isWithin l D h cI cJ t0 hh S L v2.toInt64 (0 : Int64) (3 : Int64) _ hw) (va_cwS 3 hts gX6_had_X6_isWithin rfl rfl rfl (by decide +kernel) ⟨Nat.le_of_ble_eq_true rfl, Nat.le_of_ble_eq_true rfl⟩) rfl hl.1 rfl (Nat.le_of_ble_eq_true rfl) dX6_had_20 ⟨Nat.zero_le _, Nat.zero_le _⟩ (fun r20 H locs hw hP hS => ?_)
    refine lv_if_eq (tgt := 38) hx hb dX6_had_23 (by decide) (fun hc => ?_) (fun hc => ?_)
    · replace hw := And.left hw hc
      refine lv_iconst (v := (-1 : Int32)) hx hb dX6_had_38 (by decide) ?_
      exact hret _ _ _ _ _ _ hP hS hw dX6_had_39
    · replace hw := And.right hw hc
      refine lv_iload_n hx hb dX6_had_26 rfl (lv_at hl 3 rfl) ?_
      refine lv_i2l hx hb dX6_had_27 rfl ?_
      refine lv_lconst (v := (0 : Int64)) hx hb dX6_had_28 (by decide) ?_
      refine lv_ldc2 (v := (9999 : Int64)) hx hb hown (f5) dX6_had_29 ?_
      refine xSi0 (As := [.long v3.toInt64, .long (0 : Int64), .long (9999 : Int64)]) (rest := []) hst hE hP hS ⟨hx, hb, hml, hown, hts⟩ (mX6_isWithin l D h cI cJ t0 hh S L v3.toInt64 (0 : Int64) (9999 : Int64) _ hw) (va_cwS 3 hts gX6_had_X6_isWithin rfl rfl rfl (by decide +kernel) ⟨Nat.le_of_ble_eq_true rfl, Nat.le_of_ble_eq_true rfl⟩) rfl hl.1 rfl (Nat.le_of_ble_eq_true rfl) dX6_had_32 ⟨Nat.zero_le _, Nat.zero_le _⟩ (fun r32 H locs hw hP hS => ?_)
      refine lv_if_ne (tgt := 40) hx hb dX6_had_35 (by decide) (fun hc => ?_) (fun hc => ?_)
      · replace hw := And.right hw hc
        refine lv_iload_n hx hb dX6_had_40 rfl (lv_at hl 1 rfl) ?_
        refine lv_iconst (v := (4 : Int32)) hx hb dX6_had_41 (by decide) ?_
        refine lv_imul hx hb dX6_had_42 ?_
        refine lv_iload_n hx hb dX6_had_43 rfl (lv_at hl 2 rfl) ?_
        refine lv_iadd hx hb dX6_had_44 ?_
        refine lv_istore (lv' := [(4, .int ((v1 * (4 : Int32)) + v2)), (0, .ref (h 0)), (1, .int v1), (2, .int v2), (3, .int v3)]) hx hb dX6_had_45 hl (by decide) rfl (fun ls hl => ?_)
        refine lv_aload_n hx hb dX6_had_47 rfl (lv_at hl 1 rfl) ?_
        refine va_get (D := D) (ci := 6) (v := .ref (h 1)) (C := RX6) (T := TX6) (N := 8) hx hb hts inX6 hown hK hP 0 wX_0 rfl 0 (by decide) f0 (fun _ h9 => h9) rfl dX6_had_48 ?_
        refine va_get (D := D) (ci := 5) (v := .ref (h 8)) (C := RX5) (T := TX5) (N := 10) hx hb hts inX5 hown hK hP 1 wX_1 rfl 4 (by decide) f2 (fun _ h9 => h9) rfl dX6_had_51 ?_
        refine va_get (D := D) (ci := 4) (v := .ref (h 12)) (C := RX4) (T := TX4) (N := 5) hx hb hts inX4 hown hK hP 8 wX_8 rfl 4 (by decide) f6 (fun _ h9 => h9) rfl dX6_had_54 ?_
        refine lv_iload hx hb dX6_had_57 (lv_at hl 0 rfl) ?_
        obtain ⟨hi, hw⟩ := hw
        refine va_iald hx hb hK hP 12 0 wX_12 rfl hi dX6_had_59 ?_
        refine lv_istore (lv' := [(5, .int (S 12 ((v1 * (4 : Int32)) + v2).toNatClampNeg)), (4, .int ((v1 * (4 : Int32)) + v2)), (0, .ref (h 0)), (1, .int v1), (2, .int v2), (3, .int v3)]) hx hb dX6_had_60 hl (by decide) rfl (fun ls hl => ?_)
        refine lv_aload_n hx hb dX6_had_62 rfl (lv_at hl 2 rfl) ?_
        refine va_get (D := D) (ci := 6) (v := .ref (h 1)) (C := RX6) (T := TX6) (N := 8) hx hb hts inX6 hown hK hP 0 wX_0 rfl 0 (by decide) f0 (fun _ h9 => h9) rfl dX6_had_63 ?_
        refine va_get (D := D) (ci := 5) (v := .ref (h 8)) (C := RX5) (T := TX5) (N := 10) hx hb hts inX5 hown hK hP 1 wX_1 rfl 4 (by decide) f2 (fun _ h9 => h9) rfl dX6_had_66 ?_
        refine va_get (D := D) (ci := 4) (v := .ref (h 12)) (C := RX4) (T := TX4) (N := 5) hx hb hts inX4 hown hK hP 8 wX_8 rfl 4 (by decide) f6 (fun _ h9 => h9) rfl dX6_had_69 ?_
        refine lv_iload hx hb dX6_had_72 (lv_at hl 1 rfl) ?_
        refine lv_iload_n hx hb dX6_had_74 rfl (lv_at hl 5 rfl) ?_
        obtain ⟨hi, hw⟩ := hw
        refine x_iast (ws2 := wX h cI cJ (xu S 12 ((v1 * (4 : Int32)) + v2).toNatClampNeg v3) L) hx hb hK hP (hD _ _) hS 12 0 wX_12 rfl hi dX6_had_75 (wX_u12 _ _) (fun H locs hP hS => ?_)
        refine lv_iload hx hb dX6_had_76 (lv_at hl 0 rfl) ?_
        exact hret _ _ _ _ _ _ hP hS hw dX6_had_78
      · replace hw := And.left hw hc
        refine lv_iconst (v := (-1 : Int32)) hx hb dX6_had_38 (by decide) ?_
        exact hret _ _ _ _ _ _ hP hS hw dX6_had_39
abbrev rX6_told : Room := { frames := 4, cells := 0, slots := 0, locals := 94 }
set_option maxHeartbeats 4000000 in
set_option maxRecDepth 100000 in
theorem mX6_told (l : Launch) (D : va_G) (h : Nat → Nat) (cI cJ : ClassId) (t0 : Nat) (hh : xdis 53 h) (S : SX) (L : LX) (v1 : Int32) (v2 : Int32) (post : Int32 → Prop) (hw : kX6_told S L v1 v2 post) : Met l yX6_told wsX6_told rX6_told (xPre D (wX h cI cJ) (xE D h cI cJ t0) S L [.ref (h 0), .int v1, .int v2]) (va_Qi (fun (r : Int32) (u : SX × LX) => post r ∧ u.1 = S ∧ u.2 = L) (xB D (wX h cI cJ)) (xA 53 h)) 0 0 (xA 53 h) := by
  refine Met.ofW (cc := cX6_told) (maxL := 4) (ret := (some .int)) (by decide) rfl ?_
  intro p e s m args below meth c s₁ B hml hv
  obtain ⟨hargs, hP, hE⟩ := hv
  have hx := B.exec
  have hb := B.bytes
  have hr := B.returns
  have hlocks := B.notSynchronized
  have hts := atoms_spec (ws := wsX6_told) B.pre
  have hown : s.vm.findClass RX6 = some m.cls := findClass_of_methodNamed B.named
  have hS : va_S (xA 53 h) s.heap s.heap [] := va_S.rf
  have hD : ∀ (S : SX) (L : LX), va_D (xA 53 h) (wX h cI cJ S L) := fun S L => wX_D hh cI cJ S L
  have hK := hE.1
  have hst : xSt (xA 53 h) (xE D h cI cJ t0) := xE_st D h cI cJ t0
  have f0 := hts (.fieldLink RX6 10 "BookOfWills" "world" "LBookOfWills$World;") (by decide +kernel)
  have inX6 : ∀ w ∈ u_ws RX6 TX6 8, w ∈ wsX6_told := fun w hw9 => List.mem_cons_of_mem _ (List.mem_append_left _ (List.mem_append_left _ (List.mem_append_left _ (List.mem_append_right _ hw9))))
  have f2 := hts (.fieldLink RX6 83 "BookOfWills$World" "wills" "LBookOfWills$Wills;") (by decide +kernel)
  have inX5 : ∀ w ∈ u_ws RX5 TX5 10, w ∈ wsX6_told := fun w hw9 => List.mem_cons_of_mem _ (List.mem_append_left _ (List.mem_append_left _ (List.mem_append_right _ hw9)))
  have f4 := hts (.fieldLink RX6 104 "BookOfWills$Wills" "year" "[I") (by decide +kernel)
  have inX4 : ∀ w ∈ u_ws RX4 TX4 5, w ∈ wsX6_told := fun w hw9 => List.mem_cons_of_mem _ (List.mem_append_left _ (List.mem_append_right _ hw9))
  have f6 := hts (.fieldLink RX6 107 "BookOfWills$Wills" "age" "[I") (by decide +kernel)
  have f7 := hts (.fieldLink RX6 110 "BookOfWills$Wills" "sex" "[I") (by decide +kernel)
  have hl := lv_entry ([.ref (h 0), .int v1, .int v2]) (n := 4) (Nat.le_of_ble_eq_true rfl)
  have hen : entryFrame m args 4 = F0 m 0 ((lg_sl ([.ref (h 0), .int v1, .int v2]) ++ List.replicate (4 - (lg_sl ([.ref (h 0), .int v1, .int v2])).length) Slot.unset).toArray) [] := by rw [hargs]; exact lg_entry_eq m _ _
  rw [hen]
  generalize (lg_sl ([.ref (h 0), .int v1, .int v2]) ++ List.replicate (4 - (lg_sl ([.ref (h 0), .int v1, .int v2])).length) Slot.unset).toArray = ls at hl ⊢
  have hl : lv_has ls 4 [(0, .ref (h 0)), (1, .int v1), (2, .int v2)] := hl
  change W p l e rX6_told s m args below meth c s.heap [] 0 0 (MQ below (va_Qi (fun (r : Int32) (u : SX × LX) => post r ∧ u.1 = S ∧ u.2 = L) (xB D (wX h cI cJ)) (xA 53 h)) args s 0 0 (xA 53 h)) (F0 m 0 ls [])
  have hret : ∀ (r : Int32) (H : Heap) (locs : List Loc) (ls : Array Slot) (pc : Nat), va_P D vwCl (wX h cI cJ S L) H → va_S (xA 53 h) s.heap H locs → post r → decode cX6_told pc = .ok (.ireturn, 1) → W p l e rX6_told s m args below meth c H locs 0 0 (MQ below (va_Qi (fun (r : Int32) (u : SX × LX) => post r ∧ u.1 = S ∧ u.2 = L) (xB D (wX h cI cJ)) (xA 53 h)) args s 0 0 (xA 53 h)) (F0 m pc ls [.int r]) := fun r H locs ls pc hP hS hw hd => W.iret hx hb hr (fun t ht hW => ⟨⟨r, (S, L), rfl, ⟨hw, rfl, rfl⟩, show va_P D vwCl (wX h cI cJ S L) t.heap by rw [ht]; exact hP⟩, hS.F ht⟩) hS.2.2 hd
  generalize MQ below (va_Qi (fun (r : Int32) (u : SX × LX) => post r ∧ u.1 = S ∧ u.2 = L) (xB D (wX h cI cJ)) (xA 53 h)) args s 0 0 (xA 53 h) = Q at hret ⊢
  unfold kX6_told at hw
  refine lv_aload_n hx hb dX6_told_0 rfl (lv_at hl 0 rfl) ?_
  refine va_get (D := D) (ci := 6) (v := .ref (h 1)) (C := RX6) (T := TX6) (N := 8) hx hb hts inX6 hown hK hP 0 wX_0 rfl 0 (by decide) f0 (fun _ h9 => h9) rfl dX6_told_1 ?_
  refine va_get (D := D) (ci := 5) (v := .ref (h 8)) (C := RX5) (T := TX5) (N := 10) hx hb hts inX5 hown hK hP 1 wX_1 rfl 4 (by decide) f2 (fun _ h9 => h9) rfl dX6_told_4 ?_
  refine lv_iload_n hx hb dX6_told_7 rfl (lv_at hl 1 rfl) ?_
  refine xVi0 (As := [.int v1]) (rest := []) hst hE hP hS ⟨hx, hb, hml, hown, hts⟩ (va_recv hK hP (ci := 4) (q := (RX4, TX4, 5)) rfl wX_8) (mX4_has l D h cI cJ t0 hh S L v1 _ hw) (cwV 1 hts gX6_told_X4_has rfl rfl rfl (by decide +kernel) ⟨Nat.le_of_ble_eq_true rfl, Nat.le_of_ble_eq_true rfl⟩) rfl hl.1 rfl (Nat.le_of_ble_eq_true rfl) dX6_told_8 ⟨Nat.zero_le _, Nat.zero_le _⟩ (fun r8 H locs hw hP hS => ?_)
  refine lv_if_ne (tgt := 16) hx hb dX6_told_11 (by decide) (fun hc => ?_) (fun hc => ?_)
  · replace hw := And.right hw hc
    refine lv_aload_n hx hb dX6_told_16 rfl (lv_at hl 0 rfl) ?_
    refine va_get (D := D) (ci := 6) (v := .ref (h 1)) (C := RX6) (T := TX6) (N := 8) hx hb hts inX6 hown hK hP 0 wX_0 rfl 0 (by decide) f0 (fun _ h9 => h9) rfl dX6_told_17 ?_
    refine va_get (D := D) (ci := 5) (v := .ref (h 8)) (C := RX5) (T := TX5) (N := 10) hx hb hts inX5 hown hK hP 1 wX_1 rfl 4 (by decide) f2 (fun _ h9 => h9) rfl dX6_told_20 ?_
    refine va_get (D := D) (ci := 4) (v := .ref (h 9)) (C := RX4) (T := TX4) (N := 5) hx hb hts inX4 hown hK hP 8 wX_8 rfl 1 (by decide) f4 (fun _ h9 => h9) rfl dX6_told_23 ?_
    refine lv_iload_n hx hb dX6_told_26 rfl (lv_at hl 1 rfl) ?_
    obtain ⟨hi, hw⟩ := hw
    refine va_iald hx hb hK hP 9 0 wX_9 rfl hi dX6_told_27 ?_
    refine lv_istore_n (lv' := [(3, .int (S 9 v1.toNatClampNeg)), (0, .ref (h 0)), (1, .int v1), (2, .int v2)]) hx hb dX6_told_28 rfl hl (by decide) rfl (fun ls hl => ?_)
    refine lv_iload_n hx hb dX6_told_29 rfl (lv_at hl 3 rfl) ?_
    by_cases hc0 : v2 = (0 : Int32)
    · replace hw := And.left (hw) hc0
      refine lv_tableIn (off := 46) (tgt := 76) hx hb dX6_told_30 (by rw [hc0]; decide) (by rw [hc0]; decide) (by rw [hc0]; decide) (by decide) ?_
      refine lv_iload_n hx hb dX6_told_76 rfl (lv_at hl 0 rfl) ?_
      exact hret _ _ _ _ _ hP hS hw dX6_told_77
    by_cases hc1 : v2 = (1 : Int32)
    · replace hw := And.left (And.right (hw)) hc1
      refine lv_tableIn (off := 48) (tgt := 78) hx hb dX6_told_30 (by rw [hc1]; decide) (by rw [hc1]; decide) (by rw [hc1]; decide) (by decide) ?_
      refine lv_aload_n hx hb dX6_told_78 rfl (lv_at hl 1 rfl) ?_
      refine va_get (D := D) (ci := 6) (v := .ref (h 1)) (C := RX6) (T := TX6) (N := 8) hx hb hts inX6 hown hK hP 0 wX_0 rfl 0 (by decide) f0 (fun _ h9 => h9) rfl dX6_told_79 ?_
      refine va_get (D := D) (ci := 5) (v := .ref (h 8)) (C := RX5) (T := TX5) (N := 10) hx hb hts inX5 hown hK hP 1 wX_1 rfl 4 (by decide) f2 (fun _ h9 => h9) rfl dX6_told_82 ?_
      refine va_get (D := D) (ci := 4) (v := .ref (h 10)) (C := RX4) (T := TX4) (N := 5) hx hb hts inX4 hown hK hP 8 wX_8 rfl 2 (by decide) f6 (fun _ h9 => h9) rfl dX6_told_85 ?_
      refine lv_iload_n hx hb dX6_told_88 rfl (lv_at hl 2 rfl) ?_
      obtain ⟨hi, hw⟩ := hw
      refine va_iald hx hb hK hP 10 0 wX_10 rfl hi dX6_told_89 ?_
      exact hret _ _ _ _ _ hP hS hw dX6_told_90
    by_cases hc2 : v2 = (2 : Int32)
    · replace hw := And.left (And.right (And.right (hw))) hc2
      refine lv_tableIn (off := 61) (tgt := 91) hx hb dX6_told_30 (by rw [hc2]; decide) (by rw [hc2]; decide) (by rw [hc2]; decide) (by decide) ?_
      refine lv_aload_n hx hb dX6_told_91 rfl (lv_at hl 1 rfl) ?_
      refine va_get (D := D) (ci := 6) (v := .ref (h 1)) (C := RX6) (T := TX6) (N := 8) hx hb hts inX6 hown hK hP 0 wX_0 rfl 0 (by decide) f0 (fun _ h9 => h9) rfl dX6_told_92 ?_
      refine va_get (D := D) (ci := 5) (v := .ref (h 8)) (C := RX5) (T := TX5) (N := 10) hx hb hts inX5 hown hK hP 1 wX_1 rfl 4 (by decide) f2 (fun _ h9 => h9) rfl dX6_told_95 ?_
      refine va_get (D := D) (ci := 4) (v := .ref (h 11)) (C := RX4) (T := TX4) (N := 5) hx hb hts inX4 hown hK hP 8 wX_8 rfl 3 (by decide) f7 (fun _ h9 => h9) rfl dX6_told_98 ?_
      refine lv_iload_n hx hb dX6_told_101 rfl (lv_at hl 2 rfl) ?_
      obtain ⟨hi, hw⟩ := hw
      refine va_iald hx hb hK hP 11 0 wX_11 rfl hi dX6_told_102 ?_
      exact hret _ _ _ _ _ hP hS hw dX6_told_103
    by_cases hc3 : v2 = (3 : Int32)
    · replace hw := And.left (And.right (And.right (And.right (hw)))) hc3
      refine lv_tableIn (off := 74) (tgt := 104) hx hb dX6_told_30 (by rw [hc3]; decide) (by rw [hc3]; decide) (by rw [hc3]; decide) (by decide) ?_
      refine lv_aload_n hx hb dX6_told_104 rfl (lv_at hl 1 rfl) ?_
      refine va_get (D := D) (ci := 6) (v := .ref (h 1)) (C := RX6) (T := TX6) (N := 8) hx hb hts inX6 hown hK hP 0 wX_0 rfl 0 (by decide) f0 (fun _ h9 => h9) rfl dX6_told_105 ?_
      refine lv_iload_n hx hb dX6_told_108 rfl (lv_at hl 2 rfl) ?_
      refine lv_iload_n hx hb dX6_told_109 rfl (lv_at hl 0 rfl) ?_
      refine xVi0 (As := [.int v1, .int (S 9 v1.toNatClampNeg)]) (rest := []) hst hE hP hS ⟨hx, hb, hml, hown, hts⟩ (va_recv hK hP (ci := 5) (q := (RX5, TX5, 10)) rfl wX_1) (mX5_seen l D h cI cJ t0 hh S L v1 (S 9 v1.toNatClampNeg) _ hw) (cwV 2 hts gX6_told_X5_seen rfl rfl rfl (by decide +kernel) ⟨Nat.le_of_ble_eq_true rfl, Nat.le_of_ble_eq_true rfl⟩) rfl hl.1 rfl (Nat.le_of_ble_eq_true rfl) dX6_told_110 ⟨Nat.zero_le _, Nat.zero_le _⟩ (fun r110 H locs hw hP hS => ?_)
      exact hret _ _ _ _ _ hP hS hw dX6_told_113
    by_cases hc4 : v2 = (4 : Int32)
    · replace hw := And.left (And.right (And.right (And.right (And.right (hw))))) hc4
      refine lv_tableIn (off := 84) (tgt := 114) hx hb dX6_told_30 (by rw [hc4]; decide) (by rw [hc4]; decide) (by rw [hc4]; decide) (by decide) ?_
      refine lv_aload_n hx hb dX6_told_114 rfl (lv_at hl 1 rfl) ?_
      refine va_get (D := D) (ci := 6) (v := .ref (h 1)) (C := RX6) (T := TX6) (N := 8) hx hb hts inX6 hown hK hP 0 wX_0 rfl 0 (by decide) f0 (fun _ h9 => h9) rfl dX6_told_115 ?_
      refine lv_iload_n hx hb dX6_told_118 rfl (lv_at hl 2 rfl) ?_
      refine lv_iload_n hx hb dX6_told_119 rfl (lv_at hl 0 rfl) ?_
      refine xVi0 (As := [.int v1, .int (S 9 v1.toNatClampNeg)]) (rest := []) hst hE hP hS ⟨hx, hb, hml, hown, hts⟩ (va_recv hK hP (ci := 5) (q := (RX5, TX5, 10)) rfl wX_1) (mX5_sworn l D h cI cJ t0 hh S L v1 (S 9 v1.toNatClampNeg) _ hw) (cwV 2 hts gX6_told_X5_sworn rfl rfl rfl (by decide +kernel) ⟨Nat.le_of_ble_eq_true rfl, Nat.le_of_ble_eq_true rfl⟩) rfl hl.1 rfl (Nat.le_of_ble_eq_true rfl) dX6_told_120 ⟨Nat.zero_le _, Nat.zero_le _⟩ (fun r120 H locs hw hP hS => ?_)
      exact hret _ _ _ _ _ hP hS hw dX6_told_123
    by_cases hc5 : v2 = (5 : Int32)
    · replace hw := And.left (And.right (And.right (And.right (And.right (And.right (hw)))))) hc5
      refine lv_tableIn (off := 94) (tgt := 124) hx hb dX6_told_30 (by rw [hc5]; decide) (by rw [hc5]; decide) (by rw [hc5]; decide) (by decide) ?_
      refine lv_aload_n hx hb dX6_told_124 rfl (lv_at hl 1 rfl) ?_
      refine va_get (D := D) (ci := 6) (v := .ref (h 1)) (C := RX6) (T := TX6) (N := 8) hx hb hts inX6 hown hK hP 0 wX_0 rfl 0 (by decide) f0 (fun _ h9 => h9) rfl dX6_told_125 ?_
      refine lv_iload_n hx hb dX6_told_128 rfl (lv_at hl 2 rfl) ?_
      refine lv_iload_n hx hb dX6_told_129 rfl (lv_at hl 0 rfl) ?_
      refine xVi0 (As := [.int v1, .int (S 9 v1.toNatClampNeg)]) (rest := []) hst hE hP hS ⟨hx, hb, hml, hown, hts⟩ (va_recv hK hP (ci := 5) (q := (RX5, TX5, 10)) rfl wX_1) (mX5_isInBook l D h cI cJ t0 hh S L v1 (S 9 v1.toNatClampNeg) _ hw) (cwV 2 hts gX6_told_X5_isInBook rfl rfl rfl (by decide +kernel) ⟨Nat.le_of_ble_eq_true rfl, Nat.le_of_ble_eq_true rfl⟩) rfl hl.1 rfl (Nat.le_of_ble_eq_true rfl) dX6_told_130 ⟨Nat.zero_le _, Nat.zero_le _⟩ (fun r130 H locs hw hP hS => ?_)
      refine lv_if_eq (tgt := 140) hx hb dX6_told_133 (by decide) (fun hc => ?_) (fun hc => ?_)
      · replace hw := And.left hw hc
        refine lv_iconst (v := (0 : Int32)) hx hb dX6_told_140 (by decide) ?_
        exact hret _ _ _ _ _ hP hS hw dX6_told_141
      · replace hw := And.right hw hc
        refine lv_iconst (v := (1 : Int32)) hx hb dX6_told_136 (by decide) ?_
        refine lv_goto (tgt := 141) hx hb dX6_told_137 (by decide) ?_
        exact hret _ _ _ _ _ hP hS hw dX6_told_141
    by_cases hc6 : v2 = (6 : Int32)
    · replace hw := And.left (And.right (And.right (And.right (And.right (And.right (And.right (hw))))))) hc6
      refine lv_tableIn (off := 112) (tgt := 142) hx hb dX6_told_30 (by rw [hc6]; decide) (by rw [hc6]; decide) (by rw [hc6]; decide) (by decide) ?_
      refine lv_aload_n hx hb dX6_told_142 rfl (lv_at hl 1 rfl) ?_
      refine va_get (D := D) (ci := 6) (v := .ref (h 1)) (C := RX6) (T := TX6) (N := 8) hx hb hts inX6 hown hK hP 0 wX_0 rfl 0 (by decide) f0 (fun _ h9 => h9) rfl dX6_told_143 ?_
      refine lv_iload_n hx hb dX6_told_146 rfl (lv_at hl 2 rfl) ?_
      refine lv_iload_n hx hb dX6_told_147 rfl (lv_at hl 0 rfl) ?_
      refine xVi0 (As := [.int v1, .int (S 9 v1.toNatClampNeg)]) (rest := []) hst hE hP hS ⟨hx, hb, hml, hown, hts⟩ (va_recv hK hP (ci := 5) (q := (RX5, TX5, 10)) rfl wX_1) (mX5_weight l D h cI cJ t0 hh S L v1 (S 9 v1.toNatClampNeg) _ hw) (cwV 2 hts gX6_told_X5_weight rfl rfl rfl (by decide +kernel) ⟨Nat.le_of_ble_eq_true rfl, Nat.le_of_ble_eq_true rfl⟩) rfl hl.1 rfl (Nat.le_of_ble_eq_true rfl) dX6_told_148 ⟨Nat.zero_le _, Nat.zero_le _⟩ (fun r148 H locs hw hP hS => ?_)
      exact hret _ _ _ _ _ hP hS hw dX6_told_151
    by_cases hc7 : v2 = (7 : Int32)
    · replace hw := And.left (And.right (And.right (And.right (And.right (And.right (And.right (And.right (hw)))))))) hc7
      refine lv_tableIn (off := 122) (tgt := 152) hx hb dX6_told_30 (by rw [hc7]; decide) (by rw [hc7]; decide) (by rw [hc7]; decide) (by decide) ?_
      refine lv_aload_n hx hb dX6_told_152 rfl (lv_at hl 1 rfl) ?_
      refine va_get (D := D) (ci := 6) (v := .ref (h 1)) (C := RX6) (T := TX6) (N := 8) hx hb hts inX6 hown hK hP 0 wX_0 rfl 0 (by decide) f0 (fun _ h9 => h9) rfl dX6_told_153 ?_
      refine lv_iload_n hx hb dX6_told_156 rfl (lv_at hl 2 rfl) ?_
      refine xVi0 (As := [.int v1]) (rest := []) hst hE hP hS ⟨hx, hb, hml, hown, hts⟩ (va_recv hK hP (ci := 5) (q := (RX5, TX5, 10)) rfl wX_1) (mX5_kind l D h cI cJ t0 hh S L v1 _ hw) (cwV 1 hts gX6_told_X5_kind rfl rfl rfl (by decide +kernel) ⟨Nat.le_of_ble_eq_true rfl, Nat.le_of_ble_eq_true rfl⟩) rfl hl.1 rfl (Nat.le_of_ble_eq_true rfl) dX6_told_157 ⟨Nat.zero_le _, Nat.zero_le _⟩ (fun r157 H locs hw hP hS => ?_)
      exact hret _ _ _ _ _ hP hS hw dX6_told_160
    replace hw := And.right (And.right (And.right (And.right (And.right (And.right (And.right (And.right (hw)))))))) hc0 hc1 hc2 hc3 hc4 hc5 hc6 hc7
    refine lv_tableOut (tgt := 161) hx hb dX6_told_30 (x_out v2 (fun k h1 h2 => ?_)) (by decide) ?_
    · rcases (show k = 0 ∨ k = 1 ∨ k = 2 ∨ k = 3 ∨ k = 4 ∨ k = 5 ∨ k = 6 ∨ k = 7 by omega) with rfl | rfl | rfl | rfl | rfl | rfl | rfl | rfl
      · exact hc0
      · exact hc1
      · exact hc2
      · exact hc3
      · exact hc4
      · exact hc5
      · exact hc6
      · exact hc7
    refine lv_iconst (v := (-1 : Int32)) hx hb dX6_told_161 (by decide) ?_
    exact hret _ _ _ _ _ hP hS hw dX6_told_162
  · replace hw := And.left hw hc
    refine lv_iconst (v := (-1 : Int32)) hx hb dX6_told_14 (by decide) ?_
    exact hret _ _ _ _ _ hP hS hw dX6_told_15
abbrev rX6_burn : Room := { frames := 3, cells := 0, slots := 0, locals := 77 }
set_option maxHeartbeats 4000000 in
set_option maxRecDepth 100000 in
theorem mX6_burn (l : Launch) (D : va_G) (h : Nat → Nat) (cI cJ : ClassId) (t0 : Nat) (hh : xdis 53 h) (S : SX) (L : LX) (v1 : Int32) (post : Int32 → SX → Prop) (hw : kX6_burn S L v1 post) : Met l yX6_burn wsX6_burn rX6_burn (xPre D (wX h cI cJ) (xE D h cI cJ t0) S L [.ref (h 0), .int v1]) (va_Qi (fun (r : Int32) (u : SX × LX) => post r u.1 ∧ u.2 = L) (xB D (wX h cI cJ)) (xA 53 h)) 0 0 (xA 53 h) := by
  refine Met.ofW (cc := cX6_burn) (maxL := 2) (ret := (some .int)) (by decide) rfl ?_
  intro p e s m args below meth c s₁ B hml hv
  obtain ⟨hargs, hP, hE⟩ := hv
  have hx := B.exec
  have hb := B.bytes
  have hr := B.returns
  have hlocks := B.notSynchronized
  have hts := atoms_spec (ws := wsX6_burn) B.pre
  have hown : s.vm.findClass RX6 = some m.cls := findClass_of_methodNamed B.named
  have hS : va_S (xA 53 h) s.heap s.heap [] := va_S.rf
  have hD : ∀ (S : SX) (L : LX), va_D (xA 53 h) (wX h cI cJ S L) := fun S L => wX_D hh cI cJ S L
  have hK := hE.1
  have hst : xSt (xA 53 h) (xE D h cI cJ t0) := xE_st D h cI cJ t0
  have f0 := hts (.fieldLink RX6 10 "BookOfWills" "world" "LBookOfWills$World;") (by decide +kernel)
  have inX6 : ∀ w ∈ u_ws RX6 TX6 8, w ∈ wsX6_burn := fun w hw9 => List.mem_cons_of_mem _ (List.mem_append_left _ (List.mem_append_left _ (List.mem_append_right _ hw9)))
  have f2 := hts (.fieldLink RX6 83 "BookOfWills$World" "wills" "LBookOfWills$Wills;") (by decide +kernel)
  have inX5 : ∀ w ∈ u_ws RX5 TX5 10, w ∈ wsX6_burn := fun w hw9 => List.mem_cons_of_mem _ (List.mem_append_left _ (List.mem_append_right _ hw9))
  have f4 := hts (.fieldLink RX6 93 "BookOfWills$Wills" "size" "I") (by decide +kernel)
  have inX4 : ∀ w ∈ u_ws RX4 TX4 5, w ∈ wsX6_burn := fun w hw9 => List.mem_cons_of_mem _ (List.mem_append_right _ hw9)
  have hl := lv_entry ([.ref (h 0), .int v1]) (n := 2) (Nat.le_of_ble_eq_true rfl)
  have hen : entryFrame m args 2 = F0 m 0 ((lg_sl ([.ref (h 0), .int v1]) ++ List.replicate (2 - (lg_sl ([.ref (h 0), .int v1])).length) Slot.unset).toArray) [] := by rw [hargs]; exact lg_entry_eq m _ _
  rw [hen]
  generalize (lg_sl ([.ref (h 0), .int v1]) ++ List.replicate (2 - (lg_sl ([.ref (h 0), .int v1])).length) Slot.unset).toArray = ls at hl ⊢
  have hl : lv_has ls 2 [(0, .ref (h 0)), (1, .int v1)] := hl
  change W p l e rX6_burn s m args below meth c s.heap [] 0 0 (MQ below (va_Qi (fun (r : Int32) (u : SX × LX) => post r u.1 ∧ u.2 = L) (xB D (wX h cI cJ)) (xA 53 h)) args s 0 0 (xA 53 h)) (F0 m 0 ls [])
  have hret : ∀ (r : Int32) (S1 : SX) (H : Heap) (locs : List Loc) (ls : Array Slot) (pc : Nat), va_P D vwCl (wX h cI cJ S1 L) H → va_S (xA 53 h) s.heap H locs → post r S1 → decode cX6_burn pc = .ok (.ireturn, 1) → W p l e rX6_burn s m args below meth c H locs 0 0 (MQ below (va_Qi (fun (r : Int32) (u : SX × LX) => post r u.1 ∧ u.2 = L) (xB D (wX h cI cJ)) (xA 53 h)) args s 0 0 (xA 53 h)) (F0 m pc ls [.int r]) := fun r S1 H locs ls pc hP hS hw hd => W.iret hx hb hr (fun t ht hW => ⟨⟨r, (S1, L), rfl, ⟨hw, rfl⟩, show va_P D vwCl (wX h cI cJ S1 L) t.heap by rw [ht]; exact hP⟩, hS.F ht⟩) hS.2.2 hd
  generalize MQ below (va_Qi (fun (r : Int32) (u : SX × LX) => post r u.1 ∧ u.2 = L) (xB D (wX h cI cJ)) (xA 53 h)) args s 0 0 (xA 53 h) = Q at hret ⊢
  unfold kX6_burn at hw
  refine lv_aload_n hx hb dX6_burn_0 rfl (lv_at hl 0 rfl) ?_
  refine va_get (D := D) (ci := 6) (v := .ref (h 1)) (C := RX6) (T := TX6) (N := 8) hx hb hts inX6 hown hK hP 0 wX_0 rfl 0 (by decide) f0 (fun _ h9 => h9) rfl dX6_burn_1 ?_
  refine va_get (D := D) (ci := 5) (v := .ref (h 8)) (C := RX5) (T := TX5) (N := 10) hx hb hts inX5 hown hK hP 1 wX_1 rfl 4 (by decide) f2 (fun _ h9 => h9) rfl dX6_burn_4 ?_
  refine lv_iload_n hx hb dX6_burn_7 rfl (lv_at hl 1 rfl) ?_
  refine xVi0 (As := [.int v1]) (rest := []) hst hE hP hS ⟨hx, hb, hml, hown, hts⟩ (va_recv hK hP (ci := 4) (q := (RX4, TX4, 5)) rfl wX_8) (mX4_has l D h cI cJ t0 hh S L v1 _ hw) (cwV 1 hts gX6_burn_X4_has rfl rfl rfl (by decide +kernel) ⟨Nat.le_of_ble_eq_true rfl, Nat.le_of_ble_eq_true rfl⟩) rfl hl.1 rfl (Nat.le_of_ble_eq_true rfl) dX6_burn_8 ⟨Nat.zero_le _, Nat.zero_le _⟩ (fun r8 H locs hw hP hS => ?_)
  refine lv_if_ne (tgt := 16) hx hb dX6_burn_11 (by decide) (fun hc => ?_) (fun hc => ?_)
  · replace hw := And.right hw hc
    refine lv_aload_n hx hb dX6_burn_16 rfl (lv_at hl 0 rfl) ?_
    refine va_get (D := D) (ci := 6) (v := .ref (h 1)) (C := RX6) (T := TX6) (N := 8) hx hb hts inX6 hown hK hP 0 wX_0 rfl 0 (by decide) f0 (fun _ h9 => h9) rfl dX6_burn_17 ?_
    refine va_get (D := D) (ci := 5) (v := .ref (h 8)) (C := RX5) (T := TX5) (N := 10) hx hb hts inX5 hown hK hP 1 wX_1 rfl 4 (by decide) f2 (fun _ h9 => h9) rfl dX6_burn_20 ?_
    refine lv_iload_n hx hb dX6_burn_23 rfl (lv_at hl 1 rfl) ?_
    refine xVv1 (As := [.int v1]) (rest := []) hst hE hP hS ⟨hx, hb, hml, hown, hts⟩ (va_recv hK hP (ci := 4) (q := (RX4, TX4, 5)) rfl wX_8) (mX4_removeOne l D h cI cJ t0 hh S L v1 _ hw) (cwV 1 hts gX6_burn_X4_removeOne rfl rfl rfl (by decide +kernel) ⟨Nat.le_of_ble_eq_true rfl, Nat.le_of_ble_eq_true rfl⟩) rfl hl.1 rfl (Nat.le_of_ble_eq_true rfl) dX6_burn_24 ⟨Nat.zero_le _, Nat.zero_le _⟩ (fun S24 H locs hw hP hS => ?_)
    refine lv_aload_n hx hb dX6_burn_27 rfl (lv_at hl 0 rfl) ?_
    refine va_get (D := D) (ci := 6) (v := .ref (h 1)) (C := RX6) (T := TX6) (N := 8) hx hb hts inX6 hown hK hP 0 wX_0 rfl 0 (by decide) f0 (fun _ h9 => h9) rfl dX6_burn_28 ?_
    refine va_get (D := D) (ci := 5) (v := .ref (h 8)) (C := RX5) (T := TX5) (N := 10) hx hb hts inX5 hown hK hP 1 wX_1 rfl 4 (by decide) f2 (fun _ h9 => h9) rfl dX6_burn_31 ?_
    refine va_get (D := D) (ci := 4) (v := .int (S24 8 0)) (C := RX4) (T := TX4) (N := 5) hx hb hts inX4 hown hK hP 8 wX_8 rfl 0 (by decide) f4 (fun _ h9 => h9) rfl dX6_burn_34 ?_
    exact hret _ _ _ _ _ _ hP hS hw dX6_burn_37
  · replace hw := And.left hw hc
    refine lv_iconst (v := (-1 : Int32)) hx hb dX6_burn_14 (by decide) ?_
    exact hret _ _ _ _ _ _ hP hS hw dX6_burn_15
abbrev rX6_byteOf : Room := { frames := 0, cells := 0, slots := 0, locals := 0 }
set_option maxHeartbeats 4000000 in
set_option maxRecDepth 100000 in
theorem mX6_byteOf (l : Launch) (D : va_G) (h : Nat → Nat) (cI cJ : ClassId) (t0 : Nat) (hh : xdis 53 h) (S : SX) (L : LX) (v0 : Int64) (v2 : Int32) (post : Int32 → Prop) (hw : kX6_byteOf S L v0 v2 post) : Met l yX6_byteOf wsX6_byteOf rX6_byteOf (xPre D (wX h cI cJ) (xE D h cI cJ t0) S L [.long v0, .int v2]) (va_Qi (fun (r : Int32) (u : SX × LX) => post r ∧ u.1 = S ∧ u.2 = L) (xB D (wX h cI cJ)) (xA 53 h)) 0 0 (xA 53 h) := by
  refine Met.ofW (cc := cX6_byteOf) (maxL := 3) (ret := (some .int)) (by decide) rfl ?_
  intro p e s m args below meth c s₁ B hml hv
  obtain ⟨hargs, hP, hE⟩ := hv
  have hx := B.exec
  have hb := B.bytes
  have hr := B.returns
  have hlocks := B.notSynchronized
  have hts := atoms_spec (ws := wsX6_byteOf) B.pre
  have hown : s.vm.findClass RX6 = some m.cls := findClass_of_methodNamed B.named
  have hS : va_S (xA 53 h) s.heap s.heap [] := va_S.rf
  have hD : ∀ (S : SX) (L : LX), va_D (xA 53 h) (wX h cI cJ S L) := fun S L => wX_D hh cI cJ S L
  have hK := hE.1
  have hst : xSt (xA 53 h) (xE D h cI cJ t0) := xE_st D h cI cJ t0
  have f0 := hts (.constantLong RX6 291 (255)) (by decide +kernel)
  have hl := lv_entry ([.long v0, .int v2]) (n := 3) (Nat.le_of_ble_eq_true rfl)
  have hen : entryFrame m args 3 = F0 m 0 ((lg_sl ([.long v0, .int v2]) ++ List.replicate (3 - (lg_sl ([.long v0, .int v2])).length) Slot.unset).toArray) [] := by rw [hargs]; exact lg_entry_eq m _ _
  rw [hen]
  generalize (lg_sl ([.long v0, .int v2]) ++ List.replicate (3 - (lg_sl ([.long v0, .int v2])).length) Slot.unset).toArray = ls at hl ⊢
  have hl : lv_has ls 3 [(0, .long v0), (2, .int v2)] := hl
  change W p l e rX6_byteOf s m args below meth c s.heap [] 0 0 (MQ below (va_Qi (fun (r : Int32) (u : SX × LX) => post r ∧ u.1 = S ∧ u.2 = L) (xB D (wX h cI cJ)) (xA 53 h)) args s 0 0 (xA 53 h)) (F0 m 0 ls [])
  have hret : ∀ (r : Int32) (H : Heap) (locs : List Loc) (ls : Array Slot) (pc : Nat), va_P D vwCl (wX h cI cJ S L) H → va_S (xA 53 h) s.heap H locs → post r → decode cX6_byteOf pc = .ok (.ireturn, 1) → W p l e rX6_byteOf s m args below meth c H locs 0 0 (MQ below (va_Qi (fun (r : Int32) (u : SX × LX) => post r ∧ u.1 = S ∧ u.2 = L) (xB D (wX h cI cJ)) (xA 53 h)) args s 0 0 (xA 53 h)) (F0 m pc ls [.int r]) := fun r H locs ls pc hP hS hw hd => W.iret hx hb hr (fun t ht hW => ⟨⟨r, (S, L), rfl, ⟨hw, rfl, rfl⟩, show va_P D vwCl (wX h cI cJ S L) t.heap by rw [ht]; exact hP⟩, hS.F ht⟩) hS.2.2 hd
  generalize MQ below (va_Qi (fun (r : Int32) (u : SX × LX) => post r ∧ u.1 = S ∧ u.2 = L) (xB D (wX h cI cJ)) (xA 53 h)) args s 0 0 (xA 53 h) = Q at hret ⊢
  unfold kX6_byteOf at hw
  refine lv_lload_n hx hb dX6_byteOf_0 rfl (lv_at hl 0 rfl) ?_
  refine lv_bipush (v := (8 : Int32)) hx hb dX6_byteOf_1 (by decide) ?_
  refine lv_iload_n hx hb dX6_byteOf_3 rfl (lv_at hl 1 rfl) ?_
  refine lv_imul hx hb dX6_byteOf_4 ?_
  refine lv_lushr hx hb dX6_byteOf_5 rfl ?_
  refine lv_ldc2 (v := (255 : Int64)) hx hb hown (f0) dX6_byteOf_6 ?_
  refine lv_land hx hb dX6_byteOf_9 ?_
  refine lv_l2i hx hb dX6_byteOf_10 rfl ?_
  exact hret _ _ _ _ _ hP hS hw dX6_byteOf_11
abbrev rX6_type : Room := { frames := 2, cells := 0, slots := 0, locals := 42 }
set_option maxHeartbeats 4000000 in
set_option maxRecDepth 100000 in
theorem mX6_type (l : Launch) (D : va_G) (h : Nat → Nat) (cI cJ : ClassId) (t0 : Nat) (hh : xdis 53 h) (S : SX) (L : LX) (v1 : Int64) (v3 : Int32) (post : Int32 → SX → Prop) (hw : kX6_type S L v1 v3 post) : Met l yX6_type wsX6_type rX6_type (xPre D (wX h cI cJ) (xE D h cI cJ t0) S L [.ref (h 0), .long v1, .int v3]) (va_Qi (fun (r : Int32) (u : SX × LX) => post r u.1 ∧ u.2 = L) (xB D (wX h cI cJ)) (xA 53 h)) 0 0 (xA 53 h) := by
  refine Met.ofW (cc := cX6_type) (maxL := 5) (ret := (some .int)) (by decide) rfl ?_
  intro p e s m args below meth c s₁ B hml hv
  obtain ⟨hargs, hP, hE⟩ := hv
  have hx := B.exec
  have hb := B.bytes
  have hr := B.returns
  have hlocks := B.notSynchronized
  have hts := atoms_spec (ws := wsX6_type) B.pre
  have hown : s.vm.findClass RX6 = some m.cls := findClass_of_methodNamed B.named
  have hS : va_S (xA 53 h) s.heap s.heap [] := va_S.rf
  have hD : ∀ (S : SX) (L : LX), va_D (xA 53 h) (wX h cI cJ S L) := fun S L => wX_D hh cI cJ S L
  have hK := hE.1
  have hst : xSt (xA 53 h) (xE D h cI cJ t0) := xE_st D h cI cJ t0
  have f0 := hts (.fieldLink RX6 29 "BookOfWills" "tape" "LBookOfWills$Tape;") (by decide +kernel)
  have inX6 : ∀ w ∈ u_ws RX6 TX6 8, w ∈ wsX6_type := fun w hw9 => List.mem_cons_of_mem _ (List.mem_append_left _ (List.mem_append_right _ hw9))
  have f2 := hts (.fieldLink RX6 148 "BookOfWills$Tape" "size" "I") (by decide +kernel)
  have inX3 : ∀ w ∈ u_ws RX3 TX3 3, w ∈ wsX6_type := fun w hw9 => List.mem_cons_of_mem _ (List.mem_append_right _ hw9)
  have f4 := hts (.constantLong RX6 141 (32)) (by decide +kernel)
  have f5 := hts (.constantLong RX6 143 (126)) (by decide +kernel)
  have f6 := hts (.constantLong RX6 135 (8)) (by decide +kernel)
  have hl := lv_entry ([.ref (h 0), .long v1, .int v3]) (n := 5) (Nat.le_of_ble_eq_true rfl)
  have hen : entryFrame m args 5 = F0 m 0 ((lg_sl ([.ref (h 0), .long v1, .int v3]) ++ List.replicate (5 - (lg_sl ([.ref (h 0), .long v1, .int v3])).length) Slot.unset).toArray) [] := by rw [hargs]; exact lg_entry_eq m _ _
  rw [hen]
  generalize (lg_sl ([.ref (h 0), .long v1, .int v3]) ++ List.replicate (5 - (lg_sl ([.ref (h 0), .long v1, .int v3])).length) Slot.unset).toArray = ls at hl ⊢
  have hl : lv_has ls 5 [(0, .ref (h 0)), (1, .long v1), (3, .int v3)] := hl
  change W p l e rX6_type s m args below meth c s.heap [] 0 0 (MQ below (va_Qi (fun (r : Int32) (u : SX × LX) => post r u.1 ∧ u.2 = L) (xB D (wX h cI cJ)) (xA 53 h)) args s 0 0 (xA 53 h)) (F0 m 0 ls [])
  have hret : ∀ (r : Int32) (S1 : SX) (H : Heap) (locs : List Loc) (ls : Array Slot) (pc : Nat), va_P D vwCl (wX h cI cJ S1 L) H → va_S (xA 53 h) s.heap H locs → post r S1 → decode cX6_type pc = .ok (.ireturn, 1) → W p l e rX6_type s m args below meth c H locs 0 0 (MQ below (va_Qi (fun (r : Int32) (u : SX × LX) => post r u.1 ∧ u.2 = L) (xB D (wX h cI cJ)) (xA 53 h)) args s 0 0 (xA 53 h)) (F0 m pc ls [.int r]) := fun r S1 H locs ls pc hP hS hw hd => W.iret hx hb hr (fun t ht hW => ⟨⟨r, (S1, L), rfl, ⟨hw, rfl⟩, show va_P D vwCl (wX h cI cJ S1 L) t.heap by rw [ht]; exact hP⟩, hS.F ht⟩) hS.2.2 hd
  generalize MQ below (va_Qi (fun (r : Int32) (u : SX × LX) => post r u.1 ∧ u.2 = L) (xB D (wX h cI cJ)) (xA 53 h)) args s 0 0 (xA 53 h) = Q at hret ⊢
  have b17 : ∀  (n17 : Nat) (v4 : Int32) (S : SX) (H : Heap) (locs : List Loc) (ls : Array Slot), lv_has ls 5 [(0, .ref (h 0)), (1, .long v1), (3, .int v3), (4, .int v4)] → va_P D vwCl (wX h cI cJ S L) H → va_S (xA 53 h) s.heap H locs → kX6_type_b17 L v1 v3 post n17 v4 S → W p l e rX6_type s m args below meth c H locs 0 0 Q (F0 m 17 ls []) := by
    intro n17
    induction n17 with
    | zero => intro v4 S H locs ls hl hP hS hw; exact absurd hw id
    | succ n17 i17 =>
      have b69 : ∀  (n69 : Nat) (v4 : Int32) (S : SX) (H : Heap) (locs : List Loc) (ls : Array Slot), lv_has ls 5 [(0, .ref (h 0)), (1, .long v1), (4, .int v4)] → va_P D vwCl (wX h cI cJ S L) H → va_S (xA 53 h) s.heap H locs → kX6_type_b69 L v1 v3 post n69 v4 S → W p l e rX6_type s m args below meth c H locs 0 0 Q (F0 m 69 ls []) := by
        intro n69
        induction n69 with
        | zero => intro v4 S H locs ls hl hP hS hw; exact absurd hw id
        | succ n69 i69 =>
          intro v4 S H locs ls hl hP hS hw
          unfold kX6_type_b69 at hw
          refine lv_iload hx hb dX6_type_69 (lv_at hl 2 rfl) ?_
          refine lv_if_lt (tgt := 93) hx hb dX6_type_71 (by decide) (fun hc => ?_) (fun hc => ?_)
          · replace hw := And.left hw hc
            refine lv_aload_n hx hb dX6_type_93 rfl (lv_at hl 0 rfl) ?_
            refine va_get (D := D) (ci := 6) (v := .ref (h 37)) (C := RX6) (T := TX6) (N := 8) hx hb hts inX6 hown hK hP 0 wX_0 rfl 4 (by decide) f0 (fun _ h9 => h9) rfl dX6_type_94 ?_
            refine va_get (D := D) (ci := 3) (v := .int (S 37 0)) (C := RX3) (T := TX3) (N := 3) hx hb hts inX3 hown hK hP 37 wX_37 rfl 0 (by decide) f2 (fun _ h9 => h9) rfl dX6_type_97 ?_
            exact hret _ _ _ _ _ _ hP hS hw dX6_type_100
          · replace hw := And.right hw hc
            refine lv_aload_n hx hb dX6_type_74 rfl (lv_at hl 0 rfl) ?_
            refine va_get (D := D) (ci := 6) (v := .ref (h 37)) (C := RX6) (T := TX6) (N := 8) hx hb hts inX6 hown hK hP 0 wX_0 rfl 4 (by decide) f0 (fun _ h9 => h9) rfl dX6_type_75 ?_
            refine lv_lload_n hx hb dX6_type_78 rfl (lv_at hl 1 rfl) ?_
            refine lv_iload hx hb dX6_type_79 (lv_at hl 2 rfl) ?_
            refine xSi0 (As := [.long v1, .int v4]) (rest := [.ref (h 37)]) hst hE hP hS ⟨hx, hb, hml, hown, hts⟩ (mX6_byteOf l D h cI cJ t0 hh S L v1 v4 _ hw) (va_cwS 2 hts gX6_type_X6_byteOf rfl rfl rfl (by decide +kernel) ⟨Nat.le_of_ble_eq_true rfl, Nat.le_of_ble_eq_true rfl⟩) rfl hl.1 rfl (Nat.le_of_ble_eq_true rfl) dX6_type_81 ⟨Nat.zero_le _, Nat.zero_le _⟩ (fun r81 H locs hw hP hS => ?_)
            refine xVv1 (As := [.int r81]) (rest := []) hst hE hP hS ⟨hx, hb, hml, hown, hts⟩ (va_recv hK hP (ci := 3) (q := (RX3, TX3, 3)) rfl wX_37) (mX3_add l D h cI cJ t0 hh S L r81 _ hw) (cwV 1 hts gX6_type_X3_add rfl rfl rfl (by decide +kernel) ⟨Nat.le_of_ble_eq_true rfl, Nat.le_of_ble_eq_true rfl⟩) rfl hl.1 rfl (Nat.le_of_ble_eq_true rfl) dX6_type_84 ⟨Nat.zero_le _, Nat.zero_le _⟩ (fun S84 H locs hw hP hS => ?_)
            refine lv_iinc (v := v4 + (-1 : Int32)) (lv' := [(4, .int (v4 + (-1 : Int32))), (0, .ref (h 0)), (1, .long v1)]) hx hb dX6_type_87 hl (k := 2) rfl rfl (by decide) rfl (fun ls hl => ?_)
            refine lv_goto (tgt := 69) hx hb dX6_type_90 (by decide) ?_
            exact i69 (v4 + (-1 : Int32)) S84 _ _ _ (lv_sub hl [1, 2, 0] rfl) hP hS hw
      intro v4 S H locs ls hl hP hS hw
      unfold kX6_type_b17 at hw
      refine lv_iload hx hb dX6_type_17 (lv_at hl 3 rfl) ?_
      refine lv_iload_n hx hb dX6_type_19 rfl (lv_at hl 2 rfl) ?_
      refine lv_icmp_ge (tgt := 50) hx hb dX6_type_20 (by decide) (fun hc => ?_) (fun hc => ?_)
      · replace hw := And.left hw hc
        refine lv_aload_n hx hb dX6_type_50 rfl (lv_at hl 0 rfl) ?_
        refine va_get (D := D) (ci := 6) (v := .ref (h 37)) (C := RX6) (T := TX6) (N := 8) hx hb hts inX6 hown hK hP 0 wX_0 rfl 4 (by decide) f0 (fun _ h9 => h9) rfl dX6_type_51 ?_
        refine lv_iload_n hx hb dX6_type_54 rfl (lv_at hl 2 rfl) ?_
        refine xVi0 (As := [.int v3]) (rest := []) hst hE hP hS ⟨hx, hb, hml, hown, hts⟩ (va_recv hK hP (ci := 3) (q := (RX3, TX3, 3)) rfl wX_37) (mX3_hasRoomFor l D h cI cJ t0 hh S L v3 _ hw) (cwV 1 hts gX6_type_X3_hasRoomFor rfl rfl rfl (by decide +kernel) ⟨Nat.le_of_ble_eq_true rfl, Nat.le_of_ble_eq_true rfl⟩) rfl hl.1 rfl (Nat.le_of_ble_eq_true rfl) dX6_type_55 ⟨Nat.zero_le _, Nat.zero_le _⟩ (fun r55 H locs hw hP hS => ?_)
        refine lv_if_ne (tgt := 64) hx hb dX6_type_58 (by decide) (fun hc => ?_) (fun hc => ?_)
        · replace hw := And.right hw hc
          refine lv_iload_n hx hb dX6_type_64 rfl (lv_at hl 2 rfl) ?_
          refine lv_iconst (v := (1 : Int32)) hx hb dX6_type_65 (by decide) ?_
          refine lv_isub hx hb dX6_type_66 ?_
          refine lv_istore (lv' := [(4, .int (v3 - (1 : Int32))), (0, .ref (h 0)), (1, .long v1), (3, .int v3)]) hx hb dX6_type_67 hl (by decide) rfl (fun ls hl => ?_)
          obtain ⟨n69, hw⟩ := hw
          exact b69  n69 (v3 - (1 : Int32)) S _ _ _ (lv_sub hl [1, 2, 0] rfl) hP hS hw
        · replace hw := And.left hw hc
          refine lv_bipush (v := (-3 : Int32)) hx hb dX6_type_61 (by decide) ?_
          exact hret _ _ _ _ _ _ hP hS hw dX6_type_63
      · replace hw := And.right hw hc
        refine lv_lload_n hx hb dX6_type_23 rfl (lv_at hl 1 rfl) ?_
        refine lv_iload hx hb dX6_type_24 (lv_at hl 3 rfl) ?_
        refine xSi0 (As := [.long v1, .int v4]) (rest := []) hst hE hP hS ⟨hx, hb, hml, hown, hts⟩ (mX6_byteOf l D h cI cJ t0 hh S L v1 v4 _ hw) (va_cwS 2 hts gX6_type_X6_byteOf rfl rfl rfl (by decide +kernel) ⟨Nat.le_of_ble_eq_true rfl, Nat.le_of_ble_eq_true rfl⟩) rfl hl.1 rfl (Nat.le_of_ble_eq_true rfl) dX6_type_26 ⟨Nat.zero_le _, Nat.zero_le _⟩ (fun r26 H locs hw hP hS => ?_)
        refine lv_i2l hx hb dX6_type_29 rfl ?_
        refine lv_ldc2 (v := (32 : Int64)) hx hb hown (f4) dX6_type_30 ?_
        refine lv_ldc2 (v := (126 : Int64)) hx hb hown (f5) dX6_type_33 ?_
        refine xSi0 (As := [.long r26.toInt64, .long (32 : Int64), .long (126 : Int64)]) (rest := []) hst hE hP hS ⟨hx, hb, hml, hown, hts⟩ (mX6_isWithin l D h cI cJ t0 hh S L r26.toInt64 (32 : Int64) (126 : Int64) _ hw) (va_cwS 3 hts gX6_type_X6_isWithin rfl rfl rfl (by decide +kernel) ⟨Nat.le_of_ble_eq_true rfl, Nat.le_of_ble_eq_true rfl⟩) rfl hl.1 rfl (Nat.le_of_ble_eq_true rfl) dX6_type_36 ⟨Nat.zero_le _, Nat.zero_le _⟩ (fun r36 H locs hw hP hS => ?_)
        refine lv_if_ne (tgt := 44) hx hb dX6_type_39 (by decide) (fun hc => ?_) (fun hc => ?_)
        · replace hw := And.right hw hc
          refine lv_iinc (v := v4 + (1 : Int32)) (lv' := [(4, .int (v4 + (1 : Int32))), (0, .ref (h 0)), (1, .long v1), (3, .int v3)]) hx hb dX6_type_44 hl (k := 3) rfl rfl (by decide) rfl (fun ls hl => ?_)
          refine lv_goto (tgt := 17) hx hb dX6_type_47 (by decide) ?_
          exact i17 (v4 + (1 : Int32)) S _ _ _ (lv_sub hl [1, 2, 3, 0] rfl) hP hS hw
        · replace hw := And.left hw hc
          refine lv_iconst (v := (-1 : Int32)) hx hb dX6_type_42 (by decide) ?_
          exact hret _ _ _ _ _ _ hP hS hw dX6_type_43
  unfold kX6_type at hw
  refine lv_iload_n hx hb dX6_type_0 rfl (lv_at hl 2 rfl) ?_
  refine lv_i2l hx hb dX6_type_1 rfl ?_
  refine lv_lconst (v := (1 : Int64)) hx hb dX6_type_2 (by decide) ?_
  refine lv_ldc2 (v := (8 : Int64)) hx hb hown (f6) dX6_type_3 ?_
  refine xSi0 (As := [.long v3.toInt64, .long (1 : Int64), .long (8 : Int64)]) (rest := []) hst hE hP hS ⟨hx, hb, hml, hown, hts⟩ (mX6_isWithin l D h cI cJ t0 hh S L v3.toInt64 (1 : Int64) (8 : Int64) _ hw) (va_cwS 3 hts gX6_type_X6_isWithin rfl rfl rfl (by decide +kernel) ⟨Nat.le_of_ble_eq_true rfl, Nat.le_of_ble_eq_true rfl⟩) rfl hl.1 rfl (Nat.le_of_ble_eq_true rfl) dX6_type_6 ⟨Nat.zero_le _, Nat.zero_le _⟩ (fun r6 H locs hw hP hS => ?_)
  refine lv_if_ne (tgt := 14) hx hb dX6_type_9 (by decide) (fun hc => ?_) (fun hc => ?_)
  · replace hw := And.right hw hc
    refine lv_iconst (v := (0 : Int32)) hx hb dX6_type_14 (by decide) ?_
    refine lv_istore (lv' := [(4, .int (0 : Int32)), (0, .ref (h 0)), (1, .long v1), (3, .int v3)]) hx hb dX6_type_15 hl (by decide) rfl (fun ls hl => ?_)
    obtain ⟨n17, hw⟩ := hw
    exact b17  n17 (0 : Int32) S _ _ _ (lv_sub hl [1, 2, 3, 0] rfl) hP hS hw
  · replace hw := And.left hw hc
    refine lv_iconst (v := (-1 : Int32)) hx hb dX6_type_12 (by decide) ?_
    exact hret _ _ _ _ _ _ hP hS hw dX6_type_13
abbrev rX6_rules : Room := { frames := 5, cells := 0, slots := 0, locals := 126 }
set_option maxHeartbeats 4000000 in
set_option maxRecDepth 100000 in
theorem mX6_rules (l : Launch) (D : va_G) (h : Nat → Nat) (cI cJ : ClassId) (t0 : Nat) (hh : xdis 53 h) (S : SX) (L : LX) (post : Int32 → SX → Prop) (hw : kX6_rules S L  post) : Met l yX6_rules wsX6_rules rX6_rules (xPre D (wX h cI cJ) (xE D h cI cJ t0) S L [.ref (h 0)]) (va_Qi (fun (r : Int32) (u : SX × LX) => post r u.1 ∧ u.2 = L) (xB D (wX h cI cJ)) (xA 53 h)) 0 0 (xA 53 h) := by
  refine Met.ofW (cc := cX6_rules) (maxL := 2) (ret := (some .int)) (by decide) rfl ?_
  intro p e s m args below meth c s₁ B hml hv
  obtain ⟨hargs, hP, hE⟩ := hv
  have hx := B.exec
  have hb := B.bytes
  have hr := B.returns
  have hlocks := B.notSynchronized
  have hts := atoms_spec (ws := wsX6_rules) B.pre
  have hown : s.vm.findClass RX6 = some m.cls := findClass_of_methodNamed B.named
  have hS : va_S (xA 53 h) s.heap s.heap [] := va_S.rf
  have hD : ∀ (S : SX) (L : LX), va_D (xA 53 h) (wX h cI cJ S L) := fun S L => wX_D hh cI cJ S L
  have hK := hE.1
  have hst : xSt (xA 53 h) (xE D h cI cJ t0) := xE_st D h cI cJ t0
  have f0 := hts (.fieldLink RX6 36 "BookOfWills" "newLaws" "LBookOfWills$Laws;") (by decide +kernel)
  have inX6 : ∀ w ∈ u_ws RX6 TX6 8, w ∈ wsX6_rules := fun w hw9 => List.mem_cons_of_mem _ (List.mem_append_left _ (List.mem_append_left _ (List.mem_append_left _ (List.mem_append_right _ hw9))))
  have f2 := hts (.fieldLink RX6 10 "BookOfWills" "world" "LBookOfWills$World;") (by decide +kernel)
  have f3 := hts (.fieldLink RX6 149 "BookOfWills$World" "laws" "LBookOfWills$Laws;") (by decide +kernel)
  have inX5 : ∀ w ∈ u_ws RX5 TX5 10, w ∈ wsX6_rules := fun w hw9 => List.mem_cons_of_mem _ (List.mem_append_left _ (List.mem_append_left _ (List.mem_append_right _ hw9)))
  have f5 := hts (.fieldLink RX6 29 "BookOfWills" "tape" "LBookOfWills$Tape;") (by decide +kernel)
  have hl := lv_entry ([.ref (h 0)]) (n := 2) (Nat.le_of_ble_eq_true rfl)
  have hen : entryFrame m args 2 = F0 m 0 ((lg_sl ([.ref (h 0)]) ++ List.replicate (2 - (lg_sl ([.ref (h 0)])).length) Slot.unset).toArray) [] := by rw [hargs]; exact lg_entry_eq m _ _
  rw [hen]
  generalize (lg_sl ([.ref (h 0)]) ++ List.replicate (2 - (lg_sl ([.ref (h 0)])).length) Slot.unset).toArray = ls at hl ⊢
  have hl : lv_has ls 2 [(0, .ref (h 0))] := hl
  change W p l e rX6_rules s m args below meth c s.heap [] 0 0 (MQ below (va_Qi (fun (r : Int32) (u : SX × LX) => post r u.1 ∧ u.2 = L) (xB D (wX h cI cJ)) (xA 53 h)) args s 0 0 (xA 53 h)) (F0 m 0 ls [])
  have hret : ∀ (r : Int32) (S1 : SX) (H : Heap) (locs : List Loc) (ls : Array Slot) (pc : Nat), va_P D vwCl (wX h cI cJ S1 L) H → va_S (xA 53 h) s.heap H locs → post r S1 → decode cX6_rules pc = .ok (.ireturn, 1) → W p l e rX6_rules s m args below meth c H locs 0 0 (MQ below (va_Qi (fun (r : Int32) (u : SX × LX) => post r u.1 ∧ u.2 = L) (xB D (wX h cI cJ)) (xA 53 h)) args s 0 0 (xA 53 h)) (F0 m pc ls [.int r]) := fun r S1 H locs ls pc hP hS hw hd => W.iret hx hb hr (fun t ht hW => ⟨⟨r, (S1, L), rfl, ⟨hw, rfl⟩, show va_P D vwCl (wX h cI cJ S1 L) t.heap by rw [ht]; exact hP⟩, hS.F ht⟩) hS.2.2 hd
  generalize MQ below (va_Qi (fun (r : Int32) (u : SX × LX) => post r u.1 ∧ u.2 = L) (xB D (wX h cI cJ)) (xA 53 h)) args s 0 0 (xA 53 h) = Q at hret ⊢
  unfold kX6_rules at hw
  refine lv_aload_n hx hb dX6_rules_0 rfl (lv_at hl 0 rfl) ?_
  refine va_get (D := D) (ci := 6) (v := .ref (h 39)) (C := RX6) (T := TX6) (N := 8) hx hb hts inX6 hown hK hP 0 wX_0 rfl 5 (by decide) f0 (fun _ h9 => h9) rfl dX6_rules_1 ?_
  refine lv_aload_n hx hb dX6_rules_4 rfl (lv_at hl 0 rfl) ?_
  refine va_get (D := D) (ci := 6) (v := .ref (h 1)) (C := RX6) (T := TX6) (N := 8) hx hb hts inX6 hown hK hP 0 wX_0 rfl 0 (by decide) f2 (fun _ h9 => h9) rfl dX6_rules_5 ?_
  refine va_get (D := D) (ci := 5) (v := .ref (h 3)) (C := RX5) (T := TX5) (N := 10) hx hb hts inX5 hown hK hP 1 wX_1 rfl 3 (by decide) f3 (fun _ h9 => h9) rfl dX6_rules_8 ?_
  refine xVv1 (As := [.ref (h 3)]) (rest := []) hst hE hP hS ⟨hx, hb, hml, hown, hts⟩ (va_recv hK hP (ci := 0) (q := (RX0, TX0, 4)) rfl wX_39) (mX0_takeFrom_39_3 l D h cI cJ t0 hh S L  _ hw) (cwV 1 hts gX6_rules_X0_takeFrom rfl rfl rfl (by decide +kernel) ⟨Nat.le_of_ble_eq_true rfl, Nat.le_of_ble_eq_true rfl⟩) rfl hl.1 rfl (Nat.le_of_ble_eq_true rfl) dX6_rules_11 ⟨Nat.zero_le _, Nat.zero_le _⟩ (fun S11 H locs hw hP hS => ?_)
  refine lv_aload_n hx hb dX6_rules_14 rfl (lv_at hl 0 rfl) ?_
  refine va_get (D := D) (ci := 6) (v := .ref (h 37)) (C := RX6) (T := TX6) (N := 8) hx hb hts inX6 hown hK hP 0 wX_0 rfl 4 (by decide) f5 (fun _ h9 => h9) rfl dX6_rules_15 ?_
  refine lv_aload_n hx hb dX6_rules_18 rfl (lv_at hl 0 rfl) ?_
  refine va_get (D := D) (ci := 6) (v := .ref (h 39)) (C := RX6) (T := TX6) (N := 8) hx hb hts inX6 hown hK hP 0 wX_0 rfl 5 (by decide) f0 (fun _ h9 => h9) rfl dX6_rules_19 ?_
  refine xVi1 (As := [.ref (h 39)]) (rest := []) hst hE hP hS ⟨hx, hb, hml, hown, hts⟩ (va_recv hK hP (ci := 3) (q := (RX3, TX3, 3)) rfl wX_37) (mX3_readLaws l D h cI cJ t0 hh S11 L  _ hw) (cwV 1 hts gX6_rules_X3_readLaws rfl rfl rfl (by decide +kernel) ⟨Nat.le_of_ble_eq_true rfl, Nat.le_of_ble_eq_true rfl⟩) rfl hl.1 rfl (Nat.le_of_ble_eq_true rfl) dX6_rules_22 ⟨Nat.zero_le _, Nat.zero_le _⟩ (fun r22 S22 H locs hw hP hS => ?_)
  refine lv_istore_n (lv' := [(1, .int r22), (0, .ref (h 0))]) hx hb dX6_rules_25 rfl hl (by decide) rfl (fun ls hl => ?_)
  refine lv_aload_n hx hb dX6_rules_26 rfl (lv_at hl 1 rfl) ?_
  refine va_get (D := D) (ci := 6) (v := .ref (h 37)) (C := RX6) (T := TX6) (N := 8) hx hb hts inX6 hown hK hP 0 wX_0 rfl 4 (by decide) f5 (fun _ h9 => h9) rfl dX6_rules_27 ?_
  refine xVv1 (As := []) (rest := []) hst hE hP hS ⟨hx, hb, hml, hown, hts⟩ (va_recv hK hP (ci := 3) (q := (RX3, TX3, 3)) rfl wX_37) (mX3_clear l D h cI cJ t0 hh S22 L  _ hw) (cwV 0 hts gX6_rules_X3_clear rfl rfl rfl (by decide +kernel) ⟨Nat.le_of_ble_eq_true rfl, Nat.le_of_ble_eq_true rfl⟩) rfl hl.1 rfl (Nat.le_of_ble_eq_true rfl) dX6_rules_30 ⟨Nat.zero_le _, Nat.zero_le _⟩ (fun S30 H locs hw hP hS => ?_)
  refine lv_iload_n hx hb dX6_rules_33 rfl (lv_at hl 0 rfl) ?_
  refine lv_if_le (tgt := 51) hx hb dX6_rules_34 (by decide) (fun hc => ?_) (fun hc => ?_)
  · replace hw := And.left hw hc
    refine lv_iload_n hx hb dX6_rules_51 rfl (lv_at hl 0 rfl) ?_
    exact hret _ _ _ _ _ _ hP hS hw dX6_rules_52
  · replace hw := And.right hw hc
    refine lv_aload_n hx hb dX6_rules_37 rfl (lv_at hl 1 rfl) ?_
    refine va_get (D := D) (ci := 6) (v := .ref (h 1)) (C := RX6) (T := TX6) (N := 8) hx hb hts inX6 hown hK hP 0 wX_0 rfl 0 (by decide) f2 (fun _ h9 => h9) rfl dX6_rules_38 ?_
    refine va_get (D := D) (ci := 5) (v := .ref (h 3)) (C := RX5) (T := TX5) (N := 10) hx hb hts inX5 hown hK hP 1 wX_1 rfl 3 (by decide) f3 (fun _ h9 => h9) rfl dX6_rules_41 ?_
    refine lv_aload_n hx hb dX6_rules_44 rfl (lv_at hl 1 rfl) ?_
    refine va_get (D := D) (ci := 6) (v := .ref (h 39)) (C := RX6) (T := TX6) (N := 8) hx hb hts inX6 hown hK hP 0 wX_0 rfl 5 (by decide) f0 (fun _ h9 => h9) rfl dX6_rules_45 ?_
    refine xVv1 (As := [.ref (h 39)]) (rest := []) hst hE hP hS ⟨hx, hb, hml, hown, hts⟩ (va_recv hK hP (ci := 0) (q := (RX0, TX0, 4)) rfl wX_3) (mX0_takeFrom_3_39 l D h cI cJ t0 hh S30 L  _ hw) (cwV 1 hts gX6_rules_X0_takeFrom rfl rfl rfl (by decide +kernel) ⟨Nat.le_of_ble_eq_true rfl, Nat.le_of_ble_eq_true rfl⟩) rfl hl.1 rfl (Nat.le_of_ble_eq_true rfl) dX6_rules_48 ⟨Nat.zero_le _, Nat.zero_le _⟩ (fun S48 H locs hw hP hS => ?_)
    refine lv_iload_n hx hb dX6_rules_51 rfl (lv_at hl 0 rfl) ?_
    exact hret _ _ _ _ _ _ hP hS hw dX6_rules_52
abbrev rX6_rule : Room := { frames := 2, cells := 0, slots := 0, locals := 45 }
set_option maxHeartbeats 4000000 in
set_option maxRecDepth 100000 in
theorem mX6_rule (l : Launch) (D : va_G) (h : Nat → Nat) (cI cJ : ClassId) (t0 : Nat) (hh : xdis 53 h) (S : SX) (L : LX) (v1 : Int32) (v2 : Int32) (post : Int32 → Prop) (hw : kX6_rule S L v1 v2 post) : Met l yX6_rule wsX6_rule rX6_rule (xPre D (wX h cI cJ) (xE D h cI cJ t0) S L [.ref (h 0), .int v1, .int v2]) (va_Qi (fun (r : Int32) (u : SX × LX) => post r ∧ u.1 = S ∧ u.2 = L) (xB D (wX h cI cJ)) (xA 53 h)) 0 0 (xA 53 h) := by
  refine Met.ofW (cc := cX6_rule) (maxL := 3) (ret := (some .int)) (by decide) rfl ?_
  intro p e s m args below meth c s₁ B hml hv
  obtain ⟨hargs, hP, hE⟩ := hv
  have hx := B.exec
  have hb := B.bytes
  have hr := B.returns
  have hlocks := B.notSynchronized
  have hts := atoms_spec (ws := wsX6_rule) B.pre
  have hown : s.vm.findClass RX6 = some m.cls := findClass_of_methodNamed B.named
  have hS : va_S (xA 53 h) s.heap s.heap [] := va_S.rf
  have hD : ∀ (S : SX) (L : LX), va_D (xA 53 h) (wX h cI cJ S L) := fun S L => wX_D hh cI cJ S L
  have hK := hE.1
  have hst : xSt (xA 53 h) (xE D h cI cJ t0) := xE_st D h cI cJ t0
  have f0 := hts (.fieldLink RX6 10 "BookOfWills" "world" "LBookOfWills$World;") (by decide +kernel)
  have inX6 : ∀ w ∈ u_ws RX6 TX6 8, w ∈ wsX6_rule := fun w hw9 => List.mem_cons_of_mem _ (List.mem_append_left _ (List.mem_append_left _ (List.mem_append_right _ hw9)))
  have f2 := hts (.fieldLink RX6 149 "BookOfWills$World" "laws" "LBookOfWills$Laws;") (by decide +kernel)
  have inX5 : ∀ w ∈ u_ws RX5 TX5 10, w ∈ wsX6_rule := fun w hw9 => List.mem_cons_of_mem _ (List.mem_append_left _ (List.mem_append_right _ hw9))
  have f4 := hts (.fieldLink RX6 163 "BookOfWills$Laws" "floor" "[I") (by decide +kernel)
  have inX0 : ∀ w ∈ u_ws RX0 TX0 4, w ∈ wsX6_rule := fun w hw9 => List.mem_cons_of_mem _ (List.mem_append_right _ hw9)
  have f6 := hts (.fieldLink RX6 166 "BookOfWills$Laws" "line" "[I") (by decide +kernel)
  have f7 := hts (.fieldLink RX6 169 "BookOfWills$Laws" "keen" "[I") (by decide +kernel)
  have f8 := hts (.fieldLink RX6 172 "BookOfWills$Laws" "marks" "[I") (by decide +kernel)
  have hl := lv_entry ([.ref (h 0), .int v1, .int v2]) (n := 3) (Nat.le_of_ble_eq_true rfl)
  have hen : entryFrame m args 3 = F0 m 0 ((lg_sl ([.ref (h 0), .int v1, .int v2]) ++ List.replicate (3 - (lg_sl ([.ref (h 0), .int v1, .int v2])).length) Slot.unset).toArray) [] := by rw [hargs]; exact lg_entry_eq m _ _
  rw [hen]
  generalize (lg_sl ([.ref (h 0), .int v1, .int v2]) ++ List.replicate (3 - (lg_sl ([.ref (h 0), .int v1, .int v2])).length) Slot.unset).toArray = ls at hl ⊢
  have hl : lv_has ls 3 [(0, .ref (h 0)), (1, .int v1), (2, .int v2)] := hl
  change W p l e rX6_rule s m args below meth c s.heap [] 0 0 (MQ below (va_Qi (fun (r : Int32) (u : SX × LX) => post r ∧ u.1 = S ∧ u.2 = L) (xB D (wX h cI cJ)) (xA 53 h)) args s 0 0 (xA 53 h)) (F0 m 0 ls [])
  have hret : ∀ (r : Int32) (H : Heap) (locs : List Loc) (ls : Array Slot) (pc : Nat), va_P D vwCl (wX h cI cJ S L) H → va_S (xA 53 h) s.heap H locs → post r → decode cX6_rule pc = .ok (.ireturn, 1) → W p l e rX6_rule s m args below meth c H locs 0 0 (MQ below (va_Qi (fun (r : Int32) (u : SX × LX) => post r ∧ u.1 = S ∧ u.2 = L) (xB D (wX h cI cJ)) (xA 53 h)) args s 0 0 (xA 53 h)) (F0 m pc ls [.int r]) := fun r H locs ls pc hP hS hw hd => W.iret hx hb hr (fun t ht hW => ⟨⟨r, (S, L), rfl, ⟨hw, rfl, rfl⟩, show va_P D vwCl (wX h cI cJ S L) t.heap by rw [ht]; exact hP⟩, hS.F ht⟩) hS.2.2 hd
  generalize MQ below (va_Qi (fun (r : Int32) (u : SX × LX) => post r ∧ u.1 = S ∧ u.2 = L) (xB D (wX h cI cJ)) (xA 53 h)) args s 0 0 (xA 53 h) = Q at hret ⊢
  unfold kX6_rule at hw
  refine lv_iload_n hx hb dX6_rule_0 rfl (lv_at hl 1 rfl) ?_
  refine xSi0 (As := [.int v1]) (rest := []) hst hE hP hS ⟨hx, hb, hml, hown, hts⟩ (mX6_isYear l D h cI cJ t0 hh S L v1 _ hw) (va_cwS 1 hts gX6_rule_X6_isYear rfl rfl rfl (by decide +kernel) ⟨Nat.le_of_ble_eq_true rfl, Nat.le_of_ble_eq_true rfl⟩) rfl hl.1 rfl (Nat.le_of_ble_eq_true rfl) dX6_rule_1 ⟨Nat.zero_le _, Nat.zero_le _⟩ (fun r1 H locs hw hP hS => ?_)
  refine lv_if_ne (tgt := 9) hx hb dX6_rule_4 (by decide) (fun hc => ?_) (fun hc => ?_)
  · replace hw := And.right hw hc
    refine lv_iload_n hx hb dX6_rule_9 rfl (lv_at hl 2 rfl) ?_
    by_cases hc0 : v2 = (0 : Int32)
    · replace hw := And.left (hw) hc0
      refine lv_tableIn (off := 30) (tgt := 40) hx hb dX6_rule_10 (by rw [hc0]; decide) (by rw [hc0]; decide) (by rw [hc0]; decide) (by decide) ?_
      refine lv_aload_n hx hb dX6_rule_40 rfl (lv_at hl 0 rfl) ?_
      refine va_get (D := D) (ci := 6) (v := .ref (h 1)) (C := RX6) (T := TX6) (N := 8) hx hb hts inX6 hown hK hP 0 wX_0 rfl 0 (by decide) f0 (fun _ h9 => h9) rfl dX6_rule_41 ?_
      refine va_get (D := D) (ci := 5) (v := .ref (h 3)) (C := RX5) (T := TX5) (N := 10) hx hb hts inX5 hown hK hP 1 wX_1 rfl 3 (by decide) f2 (fun _ h9 => h9) rfl dX6_rule_44 ?_
      refine va_get (D := D) (ci := 0) (v := .ref (h 4)) (C := RX0) (T := TX0) (N := 4) hx hb hts inX0 hown hK hP 3 wX_3 rfl 0 (by decide) f4 (fun _ h9 => h9) rfl dX6_rule_47 ?_
      refine lv_iload_n hx hb dX6_rule_50 rfl (lv_at hl 1 rfl) ?_
      obtain ⟨hi, hw⟩ := hw
      refine va_iald hx hb hK hP 4 0 wX_4 rfl hi dX6_rule_51 ?_
      exact hret _ _ _ _ _ hP hS hw dX6_rule_52
    by_cases hc1 : v2 = (1 : Int32)
    · replace hw := And.left (And.right (hw)) hc1
      refine lv_tableIn (off := 43) (tgt := 53) hx hb dX6_rule_10 (by rw [hc1]; decide) (by rw [hc1]; decide) (by rw [hc1]; decide) (by decide) ?_
      refine lv_aload_n hx hb dX6_rule_53 rfl (lv_at hl 0 rfl) ?_
      refine va_get (D := D) (ci := 6) (v := .ref (h 1)) (C := RX6) (T := TX6) (N := 8) hx hb hts inX6 hown hK hP 0 wX_0 rfl 0 (by decide) f0 (fun _ h9 => h9) rfl dX6_rule_54 ?_
      refine va_get (D := D) (ci := 5) (v := .ref (h 3)) (C := RX5) (T := TX5) (N := 10) hx hb hts inX5 hown hK hP 1 wX_1 rfl 3 (by decide) f2 (fun _ h9 => h9) rfl dX6_rule_57 ?_
      refine va_get (D := D) (ci := 0) (v := .ref (h 5)) (C := RX0) (T := TX0) (N := 4) hx hb hts inX0 hown hK hP 3 wX_3 rfl 1 (by decide) f6 (fun _ h9 => h9) rfl dX6_rule_60 ?_
      refine lv_iload_n hx hb dX6_rule_63 rfl (lv_at hl 1 rfl) ?_
      obtain ⟨hi, hw⟩ := hw
      refine va_iald hx hb hK hP 5 0 wX_5 rfl hi dX6_rule_64 ?_
      exact hret _ _ _ _ _ hP hS hw dX6_rule_65
    by_cases hc2 : v2 = (2 : Int32)
    · replace hw := And.left (And.right (And.right (hw))) hc2
      refine lv_tableIn (off := 56) (tgt := 66) hx hb dX6_rule_10 (by rw [hc2]; decide) (by rw [hc2]; decide) (by rw [hc2]; decide) (by decide) ?_
      refine lv_aload_n hx hb dX6_rule_66 rfl (lv_at hl 0 rfl) ?_
      refine va_get (D := D) (ci := 6) (v := .ref (h 1)) (C := RX6) (T := TX6) (N := 8) hx hb hts inX6 hown hK hP 0 wX_0 rfl 0 (by decide) f0 (fun _ h9 => h9) rfl dX6_rule_67 ?_
      refine va_get (D := D) (ci := 5) (v := .ref (h 3)) (C := RX5) (T := TX5) (N := 10) hx hb hts inX5 hown hK hP 1 wX_1 rfl 3 (by decide) f2 (fun _ h9 => h9) rfl dX6_rule_70 ?_
      refine va_get (D := D) (ci := 0) (v := .ref (h 6)) (C := RX0) (T := TX0) (N := 4) hx hb hts inX0 hown hK hP 3 wX_3 rfl 2 (by decide) f7 (fun _ h9 => h9) rfl dX6_rule_73 ?_
      refine lv_iload_n hx hb dX6_rule_76 rfl (lv_at hl 1 rfl) ?_
      obtain ⟨hi, hw⟩ := hw
      refine va_iald hx hb hK hP 6 0 wX_6 rfl hi dX6_rule_77 ?_
      exact hret _ _ _ _ _ hP hS hw dX6_rule_78
    by_cases hc3 : v2 = (3 : Int32)
    · replace hw := And.left (And.right (And.right (And.right (hw)))) hc3
      refine lv_tableIn (off := 69) (tgt := 79) hx hb dX6_rule_10 (by rw [hc3]; decide) (by rw [hc3]; decide) (by rw [hc3]; decide) (by decide) ?_
      refine lv_aload_n hx hb dX6_rule_79 rfl (lv_at hl 0 rfl) ?_
      refine va_get (D := D) (ci := 6) (v := .ref (h 1)) (C := RX6) (T := TX6) (N := 8) hx hb hts inX6 hown hK hP 0 wX_0 rfl 0 (by decide) f0 (fun _ h9 => h9) rfl dX6_rule_80 ?_
      refine va_get (D := D) (ci := 5) (v := .ref (h 3)) (C := RX5) (T := TX5) (N := 10) hx hb hts inX5 hown hK hP 1 wX_1 rfl 3 (by decide) f2 (fun _ h9 => h9) rfl dX6_rule_83 ?_
      refine va_get (D := D) (ci := 0) (v := .ref (h 7)) (C := RX0) (T := TX0) (N := 4) hx hb hts inX0 hown hK hP 3 wX_3 rfl 3 (by decide) f8 (fun _ h9 => h9) rfl dX6_rule_86 ?_
      refine lv_iload_n hx hb dX6_rule_89 rfl (lv_at hl 1 rfl) ?_
      obtain ⟨hi, hw⟩ := hw
      refine va_iald hx hb hK hP 7 0 wX_7 rfl hi dX6_rule_90 ?_
      exact hret _ _ _ _ _ hP hS hw dX6_rule_91
    replace hw := And.right (And.right (And.right (And.right (hw)))) hc0 hc1 hc2 hc3
    refine lv_tableOut (tgt := 92) hx hb dX6_rule_10 (x_out v2 (fun k h1 h2 => ?_)) (by decide) ?_
    · rcases (show k = 0 ∨ k = 1 ∨ k = 2 ∨ k = 3 by omega) with rfl | rfl | rfl | rfl
      · exact hc0
      · exact hc1
      · exact hc2
      · exact hc3
    refine lv_iconst (v := (-1 : Int32)) hx hb dX6_rule_92 (by decide) ?_
    exact hret _ _ _ _ _ hP hS hw dX6_rule_93
  · replace hw := And.left hw hc
    refine lv_iconst (v := (-1 : Int32)) hx hb dX6_rule_7 (by decide) ?_
    exact hret _ _ _ _ _ hP hS hw dX6_rule_8
abbrev rX6_wills : Room := { frames := 6, cells := 0, slots := 0, locals := 149 }
set_option maxHeartbeats 4000000 in
set_option maxRecDepth 100000 in
theorem mX6_wills (l : Launch) (D : va_G) (h : Nat → Nat) (cI cJ : ClassId) (t0 : Nat) (hh : xdis 53 h) (S : SX) (L : LX) (post : Int32 → SX → Prop) (hw : kX6_wills S L  post) : Met l yX6_wills wsX6_wills rX6_wills (xPre D (wX h cI cJ) (xE D h cI cJ t0) S L [.ref (h 0)]) (va_Qi (fun (r : Int32) (u : SX × LX) => post r u.1 ∧ u.2 = L) (xB D (wX h cI cJ)) (xA 53 h)) 0 0 (xA 53 h) := by
  refine Met.ofW (cc := cX6_wills) (maxL := 2) (ret := (some .int)) (by decide) rfl ?_
  intro p e s m args below meth c s₁ B hml hv
  obtain ⟨hargs, hP, hE⟩ := hv
  have hx := B.exec
  have hb := B.bytes
  have hr := B.returns
  have hlocks := B.notSynchronized
  have hts := atoms_spec (ws := wsX6_wills) B.pre
  have hown : s.vm.findClass RX6 = some m.cls := findClass_of_methodNamed B.named
  have hS : va_S (xA 53 h) s.heap s.heap [] := va_S.rf
  have hD : ∀ (S : SX) (L : LX), va_D (xA 53 h) (wX h cI cJ S L) := fun S L => wX_D hh cI cJ S L
  have hK := hE.1
  have hst : xSt (xA 53 h) (xE D h cI cJ t0) := xE_st D h cI cJ t0
  have f0 := hts (.fieldLink RX6 43 "BookOfWills" "newWills" "LBookOfWills$Wills;") (by decide +kernel)
  have inX6 : ∀ w ∈ u_ws RX6 TX6 8, w ∈ wsX6_wills := fun w hw9 => List.mem_cons_of_mem _ (List.mem_append_left _ (List.mem_append_left _ (List.mem_append_left _ (List.mem_append_right _ hw9))))
  have f2 := hts (.fieldLink RX6 93 "BookOfWills$Wills" "size" "I") (by decide +kernel)
  have inX4 : ∀ w ∈ u_ws RX4 TX4 5, w ∈ wsX6_wills := fun w hw9 => List.mem_cons_of_mem _ (List.mem_append_left _ (List.mem_append_left _ (List.mem_append_right _ hw9)))
  have f4 := hts (.fieldLink RX6 29 "BookOfWills" "tape" "LBookOfWills$Tape;") (by decide +kernel)
  have f5 := hts (.fieldLink RX6 10 "BookOfWills" "world" "LBookOfWills$World;") (by decide +kernel)
  have f6 := hts (.fieldLink RX6 83 "BookOfWills$World" "wills" "LBookOfWills$Wills;") (by decide +kernel)
  have inX5 : ∀ w ∈ u_ws RX5 TX5 10, w ∈ wsX6_wills := fun w hw9 => List.mem_cons_of_mem _ (List.mem_append_left _ (List.mem_append_right _ hw9))
  have hl := lv_entry ([.ref (h 0)]) (n := 2) (Nat.le_of_ble_eq_true rfl)
  have hen : entryFrame m args 2 = F0 m 0 ((lg_sl ([.ref (h 0)]) ++ List.replicate (2 - (lg_sl ([.ref (h 0)])).length) Slot.unset).toArray) [] := by rw [hargs]; exact lg_entry_eq m _ _
  rw [hen]
  generalize (lg_sl ([.ref (h 0)]) ++ List.replicate (2 - (lg_sl ([.ref (h 0)])).length) Slot.unset).toArray = ls at hl ⊢
  have hl : lv_has ls 2 [(0, .ref (h 0))] := hl
  change W p l e rX6_wills s m args below meth c s.heap [] 0 0 (MQ below (va_Qi (fun (r : Int32) (u : SX × LX) => post r u.1 ∧ u.2 = L) (xB D (wX h cI cJ)) (xA 53 h)) args s 0 0 (xA 53 h)) (F0 m 0 ls [])
  have hret : ∀ (r : Int32) (S1 : SX) (H : Heap) (locs : List Loc) (ls : Array Slot) (pc : Nat), va_P D vwCl (wX h cI cJ S1 L) H → va_S (xA 53 h) s.heap H locs → post r S1 → decode cX6_wills pc = .ok (.ireturn, 1) → W p l e rX6_wills s m args below meth c H locs 0 0 (MQ below (va_Qi (fun (r : Int32) (u : SX × LX) => post r u.1 ∧ u.2 = L) (xB D (wX h cI cJ)) (xA 53 h)) args s 0 0 (xA 53 h)) (F0 m pc ls [.int r]) := fun r S1 H locs ls pc hP hS hw hd => W.iret hx hb hr (fun t ht hW => ⟨⟨r, (S1, L), rfl, ⟨hw, rfl⟩, show va_P D vwCl (wX h cI cJ S1 L) t.heap by rw [ht]; exact hP⟩, hS.F ht⟩) hS.2.2 hd
  generalize MQ below (va_Qi (fun (r : Int32) (u : SX × LX) => post r u.1 ∧ u.2 = L) (xB D (wX h cI cJ)) (xA 53 h)) args s 0 0 (xA 53 h) = Q at hret ⊢
  unfold kX6_wills at hw
  refine lv_aload_n hx hb dX6_wills_0 rfl (lv_at hl 0 rfl) ?_
  refine va_get (D := D) (ci := 6) (v := .ref (h 44)) (C := RX6) (T := TX6) (N := 8) hx hb hts inX6 hown hK hP 0 wX_0 rfl 6 (by decide) f0 (fun _ h9 => h9) rfl dX6_wills_1 ?_
  refine lv_iconst (v := (0 : Int32)) hx hb dX6_wills_4 (by decide) ?_
  refine x_put (D := D) (ci := 4) (v := .int (0 : Int32)) (ty := .int) (C := RX4) (T := TX4) (N := 5) (ws2 := wX h cI cJ (xu S 44 0 (0 : Int32)) L) hx hb hts inX4 tyX4 tyX4_ok nmX4 hown hK hP (hD _ _) hS 44 wX_44 rfl 0 (by decide) f2 (fun _ h9 => h9) rfl (by decide +kernel) rfl rfl (Nat.le_of_ble_eq_true rfl) dX6_wills_5 (wX_p44_0 _) (fun H locs hP hS => ?_)
  refine lv_aload_n hx hb dX6_wills_8 rfl (lv_at hl 0 rfl) ?_
  refine va_get (D := D) (ci := 6) (v := .ref (h 37)) (C := RX6) (T := TX6) (N := 8) hx hb hts inX6 hown hK hP 0 wX_0 rfl 4 (by decide) f4 (fun _ h9 => h9) rfl dX6_wills_9 ?_
  refine lv_aload_n hx hb dX6_wills_12 rfl (lv_at hl 0 rfl) ?_
  refine va_get (D := D) (ci := 6) (v := .ref (h 44)) (C := RX6) (T := TX6) (N := 8) hx hb hts inX6 hown hK hP 0 wX_0 rfl 6 (by decide) f0 (fun _ h9 => h9) rfl dX6_wills_13 ?_
  refine xVi1 (As := [.ref (h 44)]) (rest := []) hst hE hP hS ⟨hx, hb, hml, hown, hts⟩ (va_recv hK hP (ci := 3) (q := (RX3, TX3, 3)) rfl wX_37) (mX3_readWills l D h cI cJ t0 hh (xu S 44 0 (0 : Int32)) L  _ hw) (cwV 1 hts gX6_wills_X3_readWills rfl rfl rfl (by decide +kernel) ⟨Nat.le_of_ble_eq_true rfl, Nat.le_of_ble_eq_true rfl⟩) rfl hl.1 rfl (Nat.le_of_ble_eq_true rfl) dX6_wills_16 ⟨Nat.zero_le _, Nat.zero_le _⟩ (fun r16 S16 H locs hw hP hS => ?_)
  refine lv_istore_n (lv' := [(1, .int r16), (0, .ref (h 0))]) hx hb dX6_wills_19 rfl hl (by decide) rfl (fun ls hl => ?_)
  refine lv_aload_n hx hb dX6_wills_20 rfl (lv_at hl 1 rfl) ?_
  refine va_get (D := D) (ci := 6) (v := .ref (h 37)) (C := RX6) (T := TX6) (N := 8) hx hb hts inX6 hown hK hP 0 wX_0 rfl 4 (by decide) f4 (fun _ h9 => h9) rfl dX6_wills_21 ?_
  refine xVv1 (As := []) (rest := []) hst hE hP hS ⟨hx, hb, hml, hown, hts⟩ (va_recv hK hP (ci := 3) (q := (RX3, TX3, 3)) rfl wX_37) (mX3_clear l D h cI cJ t0 hh S16 L  _ hw) (cwV 0 hts gX6_wills_X3_clear rfl rfl rfl (by decide +kernel) ⟨Nat.le_of_ble_eq_true rfl, Nat.le_of_ble_eq_true rfl⟩) rfl hl.1 rfl (Nat.le_of_ble_eq_true rfl) dX6_wills_24 ⟨Nat.zero_le _, Nat.zero_le _⟩ (fun S24 H locs hw hP hS => ?_)
  refine lv_iload_n hx hb dX6_wills_27 rfl (lv_at hl 0 rfl) ?_
  refine lv_if_gt (tgt := 33) hx hb dX6_wills_28 (by decide) (fun hc => ?_) (fun hc => ?_)
  · replace hw := And.left hw hc
    refine lv_aload_n hx hb dX6_wills_33 rfl (lv_at hl 1 rfl) ?_
    refine va_get (D := D) (ci := 6) (v := .ref (h 1)) (C := RX6) (T := TX6) (N := 8) hx hb hts inX6 hown hK hP 0 wX_0 rfl 0 (by decide) f5 (fun _ h9 => h9) rfl dX6_wills_34 ?_
    refine va_get (D := D) (ci := 5) (v := .ref (h 8)) (C := RX5) (T := TX5) (N := 10) hx hb hts inX5 hown hK hP 1 wX_1 rfl 4 (by decide) f6 (fun _ h9 => h9) rfl dX6_wills_37 ?_
    refine lv_aload_n hx hb dX6_wills_40 rfl (lv_at hl 1 rfl) ?_
    refine va_get (D := D) (ci := 6) (v := .ref (h 44)) (C := RX6) (T := TX6) (N := 8) hx hb hts inX6 hown hK hP 0 wX_0 rfl 6 (by decide) f0 (fun _ h9 => h9) rfl dX6_wills_41 ?_
    refine va_get (D := D) (ci := 4) (v := .int (S24 44 0)) (C := RX4) (T := TX4) (N := 5) hx hb hts inX4 hown hK hP 44 wX_44 rfl 0 (by decide) f2 (fun _ h9 => h9) rfl dX6_wills_44 ?_
    refine xVi0 (As := [.int (S24 44 0)]) (rest := []) hst hE hP hS ⟨hx, hb, hml, hown, hts⟩ (va_recv hK hP (ci := 4) (q := (RX4, TX4, 5)) rfl wX_8) (mX4_hasRoomFor_8 l D h cI cJ t0 hh S24 L (S24 44 0) _ hw) (cwV 1 hts gX6_wills_X4_hasRoomFor rfl rfl rfl (by decide +kernel) ⟨Nat.le_of_ble_eq_true rfl, Nat.le_of_ble_eq_true rfl⟩) rfl hl.1 rfl (Nat.le_of_ble_eq_true rfl) dX6_wills_47 ⟨Nat.zero_le _, Nat.zero_le _⟩ (fun r47 H locs hw hP hS => ?_)
    refine lv_if_ne (tgt := 56) hx hb dX6_wills_50 (by decide) (fun hc => ?_) (fun hc => ?_)
    · replace hw := And.right hw hc
      refine lv_aload_n hx hb dX6_wills_56 rfl (lv_at hl 1 rfl) ?_
      refine va_get (D := D) (ci := 6) (v := .ref (h 1)) (C := RX6) (T := TX6) (N := 8) hx hb hts inX6 hown hK hP 0 wX_0 rfl 0 (by decide) f5 (fun _ h9 => h9) rfl dX6_wills_57 ?_
      refine va_get (D := D) (ci := 5) (v := .ref (h 8)) (C := RX5) (T := TX5) (N := 10) hx hb hts inX5 hown hK hP 1 wX_1 rfl 4 (by decide) f6 (fun _ h9 => h9) rfl dX6_wills_60 ?_
      refine lv_aload_n hx hb dX6_wills_63 rfl (lv_at hl 1 rfl) ?_
      refine va_get (D := D) (ci := 6) (v := .ref (h 44)) (C := RX6) (T := TX6) (N := 8) hx hb hts inX6 hown hK hP 0 wX_0 rfl 6 (by decide) f0 (fun _ h9 => h9) rfl dX6_wills_64 ?_
      refine xVv1 (As := [.ref (h 44)]) (rest := []) hst hE hP hS ⟨hx, hb, hml, hown, hts⟩ (va_recv hK hP (ci := 4) (q := (RX4, TX4, 5)) rfl wX_8) (mX4_addAll l D h cI cJ t0 hh S24 L  _ hw) (cwV 1 hts gX6_wills_X4_addAll rfl rfl rfl (by decide +kernel) ⟨Nat.le_of_ble_eq_true rfl, Nat.le_of_ble_eq_true rfl⟩) rfl hl.1 rfl (Nat.le_of_ble_eq_true rfl) dX6_wills_67 ⟨Nat.zero_le _, Nat.zero_le _⟩ (fun S67 H locs hw hP hS => ?_)
      refine lv_iload_n hx hb dX6_wills_70 rfl (lv_at hl 0 rfl) ?_
      exact hret _ _ _ _ _ _ hP hS hw dX6_wills_71
    · replace hw := And.left hw hc
      refine lv_bipush (v := (-3 : Int32)) hx hb dX6_wills_53 (by decide) ?_
      exact hret _ _ _ _ _ _ hP hS hw dX6_wills_55
  · replace hw := And.right hw hc
    refine lv_iload_n hx hb dX6_wills_31 rfl (lv_at hl 0 rfl) ?_
    exact hret _ _ _ _ _ _ hP hS hw dX6_wills_32
abbrev rX6_draw : Room := { frames := 2, cells := 0, slots := 0, locals := 46 }
set_option maxHeartbeats 4000000 in
set_option maxRecDepth 100000 in
theorem mX6_draw (l : Launch) (D : va_G) (h : Nat → Nat) (cI cJ : ClassId) (t0 : Nat) (hh : xdis 53 h) (S : SX) (L : LX) (v1 : Int64) (v3 : Int32) (v4 : Int32) (post : Int32 → SX → Prop) (hw : kX6_draw S L v1 v3 v4 post) : Met l yX6_draw wsX6_draw rX6_draw (xPre D (wX h cI cJ) (xE D h cI cJ t0) S L [.ref (h 0), .long v1, .int v3, .int v4]) (va_Qi (fun (r : Int32) (u : SX × LX) => post r u.1 ∧ u.2 = L) (xB D (wX h cI cJ)) (xA 53 h)) 0 0 (xA 53 h) := by
  refine Met.ofW (cc := cX6_draw) (maxL := 11) (ret := (some .int)) (by decide) rfl ?_
  intro p e s m args below meth c s₁ B hml hv
  obtain ⟨hargs, hP, hE⟩ := hv
  have hx := B.exec
  have hb := B.bytes
  have hr := B.returns
  have hlocks := B.notSynchronized
  have hts := atoms_spec (ws := wsX6_draw) B.pre
  have hown : s.vm.findClass RX6 = some m.cls := findClass_of_methodNamed B.named
  have hS : va_S (xA 53 h) s.heap s.heap [] := va_S.rf
  have hD : ∀ (S : SX) (L : LX), va_D (xA 53 h) (wX h cI cJ S L) := fun S L => wX_D hh cI cJ S L
  have hK := hE.1
  have hst : xSt (xA 53 h) (xE D h cI cJ t0) := xE_st D h cI cJ t0
  have f0 := hts (.fieldLink RX6 10 "BookOfWills" "world" "LBookOfWills$World;") (by decide +kernel)
  have inX6 : ∀ w ∈ u_ws RX6 TX6 8, w ∈ wsX6_draw := fun w hw9 => List.mem_cons_of_mem _ (List.mem_append_left _ (List.mem_append_left _ (List.mem_append_right _ hw9)))
  have f2 := hts (.fieldLink RX6 83 "BookOfWills$World" "wills" "LBookOfWills$Wills;") (by decide +kernel)
  have inX5 : ∀ w ∈ u_ws RX5 TX5 10, w ∈ wsX6_draw := fun w hw9 => List.mem_cons_of_mem _ (List.mem_append_left _ (List.mem_append_right _ hw9))
  have f4 := hts (.fieldLink RX6 93 "BookOfWills$Wills" "size" "I") (by decide +kernel)
  have inX4 : ∀ w ∈ u_ws RX4 TX4 5, w ∈ wsX6_draw := fun w hw9 => List.mem_cons_of_mem _ (List.mem_append_right _ hw9)
  have f6 := hts (.constantLong RX6 185 (6364136223846793005)) (by decide +kernel)
  have f7 := hts (.constantLong RX6 187 (1442695040888963407)) (by decide +kernel)
  have f8 := hts (.constantLong RX6 189 (12)) (by decide +kernel)
  have f9 := hts (.constantLong RX6 191 (10000)) (by decide +kernel)
  have f10 := hts (.constantLong RX6 193 (6)) (by decide +kernel)
  have f11 := hts (.constantLong RX6 195 (2)) (by decide +kernel)
  have f12 := hts (.constantLong RX6 183 (24)) (by decide +kernel)
  have hl := lv_entry ([.ref (h 0), .long v1, .int v3, .int v4]) (n := 11) (Nat.le_of_ble_eq_true rfl)
  have hen : entryFrame m args 11 = F0 m 0 ((lg_sl ([.ref (h 0), .long v1, .int v3, .int v4]) ++ List.replicate (11 - (lg_sl ([.ref (h 0), .long v1, .int v3, .int v4])).length) Slot.unset).toArray) [] := by rw [hargs]; exact lg_entry_eq m _ _
  rw [hen]
  generalize (lg_sl ([.ref (h 0), .long v1, .int v3, .int v4]) ++ List.replicate (11 - (lg_sl ([.ref (h 0), .long v1, .int v3, .int v4])).length) Slot.unset).toArray = ls at hl ⊢
  have hl : lv_has ls 11 [(0, .ref (h 0)), (1, .long v1), (3, .int v3), (4, .int v4)] := hl
  change W p l e rX6_draw s m args below meth c s.heap [] 0 0 (MQ below (va_Qi (fun (r : Int32) (u : SX × LX) => post r u.1 ∧ u.2 = L) (xB D (wX h cI cJ)) (xA 53 h)) args s 0 0 (xA 53 h)) (F0 m 0 ls [])
  have hret : ∀ (r : Int32) (S1 : SX) (H : Heap) (locs : List Loc) (ls : Array Slot) (pc : Nat), va_P D vwCl (wX h cI cJ S1 L) H → va_S (xA 53 h) s.heap H locs → post r S1 → decode cX6_draw pc = .ok (.ireturn, 1) → W p l e rX6_draw s m args below meth c H locs 0 0 (MQ below (va_Qi (fun (r : Int32) (u : SX × LX) => post r u.1 ∧ u.2 = L) (xB D (wX h cI cJ)) (xA 53 h)) args s 0 0 (xA 53 h)) (F0 m pc ls [.int r]) := fun r S1 H locs ls pc hP hS hw hd => W.iret hx hb hr (fun t ht hW => ⟨⟨r, (S1, L), rfl, ⟨hw, rfl⟩, show va_P D vwCl (wX h cI cJ S1 L) t.heap by rw [ht]; exact hP⟩, hS.F ht⟩) hS.2.2 hd
  generalize MQ below (va_Qi (fun (r : Int32) (u : SX × LX) => post r u.1 ∧ u.2 = L) (xB D (wX h cI cJ)) (xA 53 h)) args s 0 0 (xA 53 h) = Q at hret ⊢
  have b46 : ∀  (n46 : Nat) (v5 : Int64) (v7 : Int32) (S : SX) (H : Heap) (locs : List Loc) (ls : Array Slot), lv_has ls 11 [(0, .ref (h 0)), (3, .int v3), (4, .int v4), (5, .long v5), (7, .int v7)] → va_P D vwCl (wX h cI cJ S L) H → va_S (xA 53 h) s.heap H locs → kX6_draw_b46 L v1 v3 v4 post n46 v5 v7 S → W p l e rX6_draw s m args below meth c H locs 0 0 Q (F0 m 46 ls []) := by
    intro n46
    induction n46 with
    | zero => intro v5 v7 S H locs ls hl hP hS hw; exact absurd hw id
    | succ n46 i46 =>
      intro v5 v7 S H locs ls hl hP hS hw
      unfold kX6_draw_b46 at hw
      refine lv_iload hx hb dX6_draw_46 (lv_at hl 4 rfl) ?_
      refine lv_iload hx hb dX6_draw_48 (lv_at hl 2 rfl) ?_
      refine lv_icmp_ge (tgt := 129) hx hb dX6_draw_50 (by decide) (fun hc => ?_) (fun hc => ?_)
      · replace hw := And.left hw hc
        refine lv_aload_n hx hb dX6_draw_129 rfl (lv_at hl 0 rfl) ?_
        refine va_get (D := D) (ci := 6) (v := .ref (h 1)) (C := RX6) (T := TX6) (N := 8) hx hb hts inX6 hown hK hP 0 wX_0 rfl 0 (by decide) f0 (fun _ h9 => h9) rfl dX6_draw_130 ?_
        refine va_get (D := D) (ci := 5) (v := .ref (h 8)) (C := RX5) (T := TX5) (N := 10) hx hb hts inX5 hown hK hP 1 wX_1 rfl 4 (by decide) f2 (fun _ h9 => h9) rfl dX6_draw_133 ?_
        refine va_get (D := D) (ci := 4) (v := .int (S 8 0)) (C := RX4) (T := TX4) (N := 5) hx hb hts inX4 hown hK hP 8 wX_8 rfl 0 (by decide) f4 (fun _ h9 => h9) rfl dX6_draw_136 ?_
        exact hret _ _ _ _ _ _ hP hS hw dX6_draw_139
      · replace hw := And.right hw hc
        refine lv_lload hx hb dX6_draw_53 (lv_at hl 3 rfl) ?_
        refine lv_ldc2 (v := (6364136223846793005 : Int64)) hx hb hown (f6) dX6_draw_55 ?_
        refine lv_lmul hx hb dX6_draw_58 ?_
        refine lv_ldc2 (v := (1442695040888963407 : Int64)) hx hb hown (f7) dX6_draw_59 ?_
        refine lv_ladd hx hb dX6_draw_62 ?_
        refine lv_lstore (lv' := [(5, .long ((v5 * (6364136223846793005 : Int64)) + (1442695040888963407 : Int64))), (0, .ref (h 0)), (3, .int v3), (4, .int v4), (7, .int v7)]) hx hb dX6_draw_63 hl (by decide) rfl (fun ls hl => ?_)
        refine lv_lload hx hb dX6_draw_65 (lv_at hl 0 rfl) ?_
        refine lv_bipush (v := (33 : Int32)) hx hb dX6_draw_67 (by decide) ?_
        refine lv_lushr hx hb dX6_draw_69 rfl ?_
        refine lv_lstore (lv' := [(8, .long ((((v5 * (6364136223846793005 : Int64)) + (1442695040888963407 : Int64)).toUInt64 >>> ((33 : Int32).toInt64.toUInt64 &&& Int64.toUInt64 63)).toInt64)), (5, .long ((v5 * (6364136223846793005 : Int64)) + (1442695040888963407 : Int64))), (0, .ref (h 0)), (3, .int v3), (4, .int v4), (7, .int v7)]) hx hb dX6_draw_70 hl (by decide) rfl (fun ls hl => ?_)
        refine lv_lload hx hb dX6_draw_72 (lv_at hl 0 rfl) ?_
        refine lv_ldc2 (v := (12 : Int64)) hx hb hown (f8) dX6_draw_74 ?_
        refine lv_ldiv hx hb dX6_draw_77 (by decide) ?_
        refine lv_ldc2 (v := (10000 : Int64)) hx hb hown (f9) dX6_draw_78 ?_
        refine lv_lrem hx hb dX6_draw_81 (by decide) ?_
        refine lv_l2i hx hb dX6_draw_82 rfl ?_
        refine lv_istore (lv' := [(10, .int (((((((v5 * (6364136223846793005 : Int64)) + (1442695040888963407 : Int64)).toUInt64 >>> ((33 : Int32).toInt64.toUInt64 &&& Int64.toUInt64 63)).toInt64) / (12 : Int64)) - (((((v5 * (6364136223846793005 : Int64)) + (1442695040888963407 : Int64)).toUInt64 >>> ((33 : Int32).toInt64.toUInt64 &&& Int64.toUInt64 63)).toInt64) / (12 : Int64)) / (10000 : Int64) * (10000 : Int64)).toInt32)), (8, .long ((((v5 * (6364136223846793005 : Int64)) + (1442695040888963407 : Int64)).toUInt64 >>> ((33 : Int32).toInt64.toUInt64 &&& Int64.toUInt64 63)).toInt64)), (5, .long ((v5 * (6364136223846793005 : Int64)) + (1442695040888963407 : Int64))), (0, .ref (h 0)), (3, .int v3), (4, .int v4), (7, .int v7)]) hx hb dX6_draw_83 hl (by decide) rfl (fun ls hl => ?_)
        refine lv_aload_n hx hb dX6_draw_85 rfl (lv_at hl 3 rfl) ?_
        refine va_get (D := D) (ci := 6) (v := .ref (h 1)) (C := RX6) (T := TX6) (N := 8) hx hb hts inX6 hown hK hP 0 wX_0 rfl 0 (by decide) f0 (fun _ h9 => h9) rfl dX6_draw_86 ?_
        refine va_get (D := D) (ci := 5) (v := .ref (h 8)) (C := RX5) (T := TX5) (N := 10) hx hb hts inX5 hown hK hP 1 wX_1 rfl 4 (by decide) f2 (fun _ h9 => h9) rfl dX6_draw_89 ?_
        refine lv_iload_n hx hb dX6_draw_92 rfl (lv_at hl 4 rfl) ?_
        refine lv_lload hx hb dX6_draw_93 (lv_at hl 1 rfl) ?_
        refine lv_ldc2 (v := (6 : Int64)) hx hb hown (f10) dX6_draw_95 ?_
        refine lv_lrem hx hb dX6_draw_98 (by decide) ?_
        refine lv_l2i hx hb dX6_draw_99 rfl ?_
        refine lv_lload hx hb dX6_draw_100 (lv_at hl 1 rfl) ?_
        refine lv_ldc2 (v := (6 : Int64)) hx hb hown (f10) dX6_draw_102 ?_
        refine lv_ldiv hx hb dX6_draw_105 (by decide) ?_
        refine lv_ldc2 (v := (2 : Int64)) hx hb hown (f11) dX6_draw_106 ?_
        refine lv_lrem hx hb dX6_draw_109 (by decide) ?_
        refine lv_l2i hx hb dX6_draw_110 rfl ?_
        refine lv_iload hx hb dX6_draw_111 (lv_at hl 0 rfl) ?_
        refine lv_iload hx hb dX6_draw_113 (lv_at hl 0 rfl) ?_
        refine lv_imul hx hb dX6_draw_115 ?_
        refine lv_sipush (v := (10000 : Int32)) hx hb dX6_draw_116 (by decide) ?_
        refine lv_idiv hx hb dX6_draw_119 (by decide) ?_
        refine xVv1 (As := [.int v3, .int ((((((v5 * (6364136223846793005 : Int64)) + (1442695040888963407 : Int64)).toUInt64 >>> ((33 : Int32).toInt64.toUInt64 &&& Int64.toUInt64 63)).toInt64) - ((((v5 * (6364136223846793005 : Int64)) + (1442695040888963407 : Int64)).toUInt64 >>> ((33 : Int32).toInt64.toUInt64 &&& Int64.toUInt64 63)).toInt64) / (6 : Int64) * (6 : Int64)).toInt32), .int (((((((v5 * (6364136223846793005 : Int64)) + (1442695040888963407 : Int64)).toUInt64 >>> ((33 : Int32).toInt64.toUInt64 &&& Int64.toUInt64 63)).toInt64) / (6 : Int64)) - (((((v5 * (6364136223846793005 : Int64)) + (1442695040888963407 : Int64)).toUInt64 >>> ((33 : Int32).toInt64.toUInt64 &&& Int64.toUInt64 63)).toInt64) / (6 : Int64)) / (2 : Int64) * (2 : Int64)).toInt32), .int (((((((((v5 * (6364136223846793005 : Int64)) + (1442695040888963407 : Int64)).toUInt64 >>> ((33 : Int32).toInt64.toUInt64 &&& Int64.toUInt64 63)).toInt64) / (12 : Int64)) - (((((v5 * (6364136223846793005 : Int64)) + (1442695040888963407 : Int64)).toUInt64 >>> ((33 : Int32).toInt64.toUInt64 &&& Int64.toUInt64 63)).toInt64) / (12 : Int64)) / (10000 : Int64) * (10000 : Int64)).toInt32) * (((((((v5 * (6364136223846793005 : Int64)) + (1442695040888963407 : Int64)).toUInt64 >>> ((33 : Int32).toInt64.toUInt64 &&& Int64.toUInt64 63)).toInt64) / (12 : Int64)) - (((((v5 * (6364136223846793005 : Int64)) + (1442695040888963407 : Int64)).toUInt64 >>> ((33 : Int32).toInt64.toUInt64 &&& Int64.toUInt64 63)).toInt64) / (12 : Int64)) / (10000 : Int64) * (10000 : Int64)).toInt32)) / (10000 : Int32))]) (rest := []) hst hE hP hS ⟨hx, hb, hml, hown, hts⟩ (va_recv hK hP (ci := 4) (q := (RX4, TX4, 5)) rfl wX_8) (mX4_add_8 l D h cI cJ t0 hh S L v3 ((((((v5 * (6364136223846793005 : Int64)) + (1442695040888963407 : Int64)).toUInt64 >>> ((33 : Int32).toInt64.toUInt64 &&& Int64.toUInt64 63)).toInt64) - ((((v5 * (6364136223846793005 : Int64)) + (1442695040888963407 : Int64)).toUInt64 >>> ((33 : Int32).toInt64.toUInt64 &&& Int64.toUInt64 63)).toInt64) / (6 : Int64) * (6 : Int64)).toInt32) (((((((v5 * (6364136223846793005 : Int64)) + (1442695040888963407 : Int64)).toUInt64 >>> ((33 : Int32).toInt64.toUInt64 &&& Int64.toUInt64 63)).toInt64) / (6 : Int64)) - (((((v5 * (6364136223846793005 : Int64)) + (1442695040888963407 : Int64)).toUInt64 >>> ((33 : Int32).toInt64.toUInt64 &&& Int64.toUInt64 63)).toInt64) / (6 : Int64)) / (2 : Int64) * (2 : Int64)).toInt32) (((((((((v5 * (6364136223846793005 : Int64)) + (1442695040888963407 : Int64)).toUInt64 >>> ((33 : Int32).toInt64.toUInt64 &&& Int64.toUInt64 63)).toInt64) / (12 : Int64)) - (((((v5 * (6364136223846793005 : Int64)) + (1442695040888963407 : Int64)).toUInt64 >>> ((33 : Int32).toInt64.toUInt64 &&& Int64.toUInt64 63)).toInt64) / (12 : Int64)) / (10000 : Int64) * (10000 : Int64)).toInt32) * (((((((v5 * (6364136223846793005 : Int64)) + (1442695040888963407 : Int64)).toUInt64 >>> ((33 : Int32).toInt64.toUInt64 &&& Int64.toUInt64 63)).toInt64) / (12 : Int64)) - (((((v5 * (6364136223846793005 : Int64)) + (1442695040888963407 : Int64)).toUInt64 >>> ((33 : Int32).toInt64.toUInt64 &&& Int64.toUInt64 63)).toInt64) / (12 : Int64)) / (10000 : Int64) * (10000 : Int64)).toInt32)) / (10000 : Int32)) _ hw) (cwV 4 hts gX6_draw_X4_add rfl rfl rfl (by decide +kernel) ⟨Nat.le_of_ble_eq_true rfl, Nat.le_of_ble_eq_true rfl⟩) rfl hl.1 rfl (Nat.le_of_ble_eq_true rfl) dX6_draw_120 ⟨Nat.zero_le _, Nat.zero_le _⟩ (fun S120 H locs hw hP hS => ?_)
        refine lv_iinc (v := v7 + (1 : Int32)) (lv' := [(7, .int (v7 + (1 : Int32))), (10, .int (((((((v5 * (6364136223846793005 : Int64)) + (1442695040888963407 : Int64)).toUInt64 >>> ((33 : Int32).toInt64.toUInt64 &&& Int64.toUInt64 63)).toInt64) / (12 : Int64)) - (((((v5 * (6364136223846793005 : Int64)) + (1442695040888963407 : Int64)).toUInt64 >>> ((33 : Int32).toInt64.toUInt64 &&& Int64.toUInt64 63)).toInt64) / (12 : Int64)) / (10000 : Int64) * (10000 : Int64)).toInt32)), (8, .long ((((v5 * (6364136223846793005 : Int64)) + (1442695040888963407 : Int64)).toUInt64 >>> ((33 : Int32).toInt64.toUInt64 &&& Int64.toUInt64 63)).toInt64)), (5, .long ((v5 * (6364136223846793005 : Int64)) + (1442695040888963407 : Int64))), (0, .ref (h 0)), (3, .int v3), (4, .int v4)]) hx hb dX6_draw_123 hl (k := 6) rfl rfl (by decide) rfl (fun ls hl => ?_)
        refine lv_goto (tgt := 46) hx hb dX6_draw_126 (by decide) ?_
        exact i46 ((v5 * (6364136223846793005 : Int64)) + (1442695040888963407 : Int64)) (v7 + (1 : Int32)) S120 _ _ _ (lv_sub hl [4, 5, 6, 3, 0] rfl) hP hS hw
  unfold kX6_draw at hw
  refine lv_iload_n hx hb dX6_draw_0 rfl (lv_at hl 2 rfl) ?_
  refine xSi0 (As := [.int v3]) (rest := []) hst hE hP hS ⟨hx, hb, hml, hown, hts⟩ (mX6_isYear l D h cI cJ t0 hh S L v3 _ hw) (va_cwS 1 hts gX6_draw_X6_isYear rfl rfl rfl (by decide +kernel) ⟨Nat.le_of_ble_eq_true rfl, Nat.le_of_ble_eq_true rfl⟩) rfl hl.1 rfl (Nat.le_of_ble_eq_true rfl) dX6_draw_1 ⟨Nat.zero_le _, Nat.zero_le _⟩ (fun r1 H locs hw hP hS => ?_)
  refine lv_if_eq (tgt := 20) hx hb dX6_draw_4 (by decide) (fun hc => ?_) (fun hc => ?_)
  · replace hw := And.left hw hc
    refine lv_iconst (v := (-1 : Int32)) hx hb dX6_draw_20 (by decide) ?_
    exact hret _ _ _ _ _ _ hP hS hw dX6_draw_21
  · replace hw := And.right hw hc
    refine lv_iload hx hb dX6_draw_7 (lv_at hl 3 rfl) ?_
    refine lv_i2l hx hb dX6_draw_9 rfl ?_
    refine lv_lconst (v := (1 : Int64)) hx hb dX6_draw_10 (by decide) ?_
    refine lv_ldc2 (v := (24 : Int64)) hx hb hown (f12) dX6_draw_11 ?_
    refine xSi0 (As := [.long v4.toInt64, .long (1 : Int64), .long (24 : Int64)]) (rest := []) hst hE hP hS ⟨hx, hb, hml, hown, hts⟩ (mX6_isWithin l D h cI cJ t0 hh S L v4.toInt64 (1 : Int64) (24 : Int64) _ hw) (va_cwS 3 hts gX6_draw_X6_isWithin rfl rfl rfl (by decide +kernel) ⟨Nat.le_of_ble_eq_true rfl, Nat.le_of_ble_eq_true rfl⟩) rfl hl.1 rfl (Nat.le_of_ble_eq_true rfl) dX6_draw_14 ⟨Nat.zero_le _, Nat.zero_le _⟩ (fun r14 H locs hw hP hS => ?_)
    refine lv_if_ne (tgt := 22) hx hb dX6_draw_17 (by decide) (fun hc => ?_) (fun hc => ?_)
    · replace hw := And.right hw hc
      refine lv_aload_n hx hb dX6_draw_22 rfl (lv_at hl 0 rfl) ?_
      refine va_get (D := D) (ci := 6) (v := .ref (h 1)) (C := RX6) (T := TX6) (N := 8) hx hb hts inX6 hown hK hP 0 wX_0 rfl 0 (by decide) f0 (fun _ h9 => h9) rfl dX6_draw_23 ?_
      refine va_get (D := D) (ci := 5) (v := .ref (h 8)) (C := RX5) (T := TX5) (N := 10) hx hb hts inX5 hown hK hP 1 wX_1 rfl 4 (by decide) f2 (fun _ h9 => h9) rfl dX6_draw_26 ?_
      refine lv_iload hx hb dX6_draw_29 (lv_at hl 3 rfl) ?_
      refine xVi0 (As := [.int v4]) (rest := []) hst hE hP hS ⟨hx, hb, hml, hown, hts⟩ (va_recv hK hP (ci := 4) (q := (RX4, TX4, 5)) rfl wX_8) (mX4_hasRoomFor_8 l D h cI cJ t0 hh S L v4 _ hw) (cwV 1 hts gX6_draw_X4_hasRoomFor rfl rfl rfl (by decide +kernel) ⟨Nat.le_of_ble_eq_true rfl, Nat.le_of_ble_eq_true rfl⟩) rfl hl.1 rfl (Nat.le_of_ble_eq_true rfl) dX6_draw_31 ⟨Nat.zero_le _, Nat.zero_le _⟩ (fun r31 H locs hw hP hS => ?_)
      refine lv_if_ne (tgt := 40) hx hb dX6_draw_34 (by decide) (fun hc => ?_) (fun hc => ?_)
      · replace hw := And.right hw hc
        refine lv_lload_n hx hb dX6_draw_40 rfl (lv_at hl 1 rfl) ?_
        refine lv_lstore (lv' := [(5, .long v1), (0, .ref (h 0)), (1, .long v1), (3, .int v3), (4, .int v4)]) hx hb dX6_draw_41 hl (by decide) rfl (fun ls hl => ?_)
        refine lv_iconst (v := (0 : Int32)) hx hb dX6_draw_43 (by decide) ?_
        refine lv_istore (lv' := [(7, .int (0 : Int32)), (5, .long v1), (0, .ref (h 0)), (1, .long v1), (3, .int v3), (4, .int v4)]) hx hb dX6_draw_44 hl (by decide) rfl (fun ls hl => ?_)
        obtain ⟨n46, hw⟩ := hw
        exact b46  n46 v1 (0 : Int32) S _ _ _ (lv_sub hl [2, 4, 5, 1, 0] rfl) hP hS hw
      · replace hw := And.left hw hc
        refine lv_bipush (v := (-3 : Int32)) hx hb dX6_draw_37 (by decide) ?_
        exact hret _ _ _ _ _ _ hP hS hw dX6_draw_39
    · replace hw := And.left hw hc
      refine lv_iconst (v := (-1 : Int32)) hx hb dX6_draw_20 (by decide) ?_
      exact hret _ _ _ _ _ _ hP hS hw dX6_draw_21
abbrev rX6_people : Room := { frames := 2, cells := 0, slots := 0, locals := 45 }
set_option maxHeartbeats 4000000 in
set_option maxRecDepth 100000 in
theorem mX6_people (l : Launch) (D : va_G) (h : Nat → Nat) (cI cJ : ClassId) (t0 : Nat) (hh : xdis 53 h) (S : SX) (L : LX) (v1 : Int32) (v2 : Int32) (v3 : Int32) (post : Int32 → SX → Prop) (hw : kX6_people S L v1 v2 v3 post) : Met l yX6_people wsX6_people rX6_people (xPre D (wX h cI cJ) (xE D h cI cJ t0) S L [.ref (h 0), .int v1, .int v2, .int v3]) (va_Qi (fun (r : Int32) (u : SX × LX) => post r u.1 ∧ u.2 = L) (xB D (wX h cI cJ)) (xA 53 h)) 0 0 (xA 53 h) := by
  refine Met.ofW (cc := cX6_people) (maxL := 5) (ret := (some .int)) (by decide) rfl ?_
  intro p e s m args below meth c s₁ B hml hv
  obtain ⟨hargs, hP, hE⟩ := hv
  have hx := B.exec
  have hb := B.bytes
  have hr := B.returns
  have hlocks := B.notSynchronized
  have hts := atoms_spec (ws := wsX6_people) B.pre
  have hown : s.vm.findClass RX6 = some m.cls := findClass_of_methodNamed B.named
  have hS : va_S (xA 53 h) s.heap s.heap [] := va_S.rf
  have hD : ∀ (S : SX) (L : LX), va_D (xA 53 h) (wX h cI cJ S L) := fun S L => wX_D hh cI cJ S L
  have hK := hE.1
  have hst : xSt (xA 53 h) (xE D h cI cJ t0) := xE_st D h cI cJ t0
  have f0 := hts (.constantLong RX6 202 (999)) (by decide +kernel)
  have f1 := hts (.fieldLink RX6 10 "BookOfWills" "world" "LBookOfWills$World;") (by decide +kernel)
  have inX6 : ∀ w ∈ u_ws RX6 TX6 8, w ∈ wsX6_people := fun w hw9 => List.mem_cons_of_mem _ (List.mem_append_left _ (List.mem_append_right _ hw9))
  have f3 := hts (.fieldLink RX6 204 "BookOfWills$World" "prices" "[I") (by decide +kernel)
  have inX5 : ∀ w ∈ u_ws RX5 TX5 10, w ∈ wsX6_people := fun w hw9 => List.mem_cons_of_mem _ (List.mem_append_right _ hw9)
  have f5 := hts (.constantLong RX6 197 (999999)) (by decide +kernel)
  have f6 := hts (.fieldLink RX6 199 "BookOfWills$World" "people" "[I") (by decide +kernel)
  have hl := lv_entry ([.ref (h 0), .int v1, .int v2, .int v3]) (n := 5) (Nat.le_of_ble_eq_true rfl)
  have hen : entryFrame m args 5 = F0 m 0 ((lg_sl ([.ref (h 0), .int v1, .int v2, .int v3]) ++ List.replicate (5 - (lg_sl ([.ref (h 0), .int v1, .int v2, .int v3])).length) Slot.unset).toArray) [] := by rw [hargs]; exact lg_entry_eq m _ _
  rw [hen]
  generalize (lg_sl ([.ref (h 0), .int v1, .int v2, .int v3]) ++ List.replicate (5 - (lg_sl ([.ref (h 0), .int v1, .int v2, .int v3])).length) Slot.unset).toArray = ls at hl ⊢
  have hl : lv_has ls 5 [(0, .ref (h 0)), (1, .int v1), (2, .int v2), (3, .int v3)] := hl
  change W p l e rX6_people s m args below meth c s.heap [] 0 0 (MQ below (va_Qi (fun (r : Int32) (u : SX × LX) => post r u.1 ∧ u.2 = L) (xB D (wX h cI cJ)) (xA 53 h)) args s 0 0 (xA 53 h)) (F0 m 0 ls [])
  have hret : ∀ (r : Int32) (S1 : SX) (H : Heap) (locs : List Loc) (ls : Array Slot) (pc : Nat), va_P D vwCl (wX h cI cJ S1 L) H → va_S (xA 53 h) s.heap H locs → post r S1 → decode cX6_people pc = .ok (.ireturn, 1) → W p l e rX6_people s m args below meth c H locs 0 0 (MQ below (va_Qi (fun (r : Int32) (u : SX × LX) => post r u.1 ∧ u.2 = L) (xB D (wX h cI cJ)) (xA 53 h)) args s 0 0 (xA 53 h)) (F0 m pc ls [.int r]) := fun r S1 H locs ls pc hP hS hw hd => W.iret hx hb hr (fun t ht hW => ⟨⟨r, (S1, L), rfl, ⟨hw, rfl⟩, show va_P D vwCl (wX h cI cJ S1 L) t.heap by rw [ht]; exact hP⟩, hS.F ht⟩) hS.2.2 hd
  generalize MQ below (va_Qi (fun (r : Int32) (u : SX × LX) => post r u.1 ∧ u.2 = L) (xB D (wX h cI cJ)) (xA 53 h)) args s 0 0 (xA 53 h) = Q at hret ⊢
  have b49 : ∀ (S : SX) (H : Heap) (locs : List Loc) (ls : Array Slot), lv_has ls 5 [(0, .ref (h 0)), (1, .int v1), (2, .int v2), (3, .int v3)] → va_P D vwCl (wX h cI cJ S L) H → va_S (xA 53 h) s.heap H locs → kX6_people_b49 L v1 v2 v3 post S → W p l e rX6_people s m args below meth c H locs 0 0 Q (F0 m 49 ls []) := by
    intro S H locs ls hl hP hS hw
    unfold kX6_people_b49 at hw
    refine lv_iload_n hx hb dX6_people_49 rfl (lv_at hl 2 rfl) ?_
    refine lv_iconst (v := (1 : Int32)) hx hb dX6_people_50 (by decide) ?_
    refine lv_icmp_ne (tgt := 90) hx hb dX6_people_51 (by decide) (fun hc => ?_) (fun hc => ?_)
    · replace hw := And.right hw hc
      refine lv_iconst (v := (-1 : Int32)) hx hb dX6_people_90 (by decide) ?_
      exact hret _ _ _ _ _ _ hP hS hw dX6_people_91
    · replace hw := And.left hw hc
      refine lv_iload_n hx hb dX6_people_54 rfl (lv_at hl 3 rfl) ?_
      refine lv_i2l hx hb dX6_people_55 rfl ?_
      refine lv_lconst (v := (1 : Int64)) hx hb dX6_people_56 (by decide) ?_
      refine lv_ldc2 (v := (999 : Int64)) hx hb hown (f0) dX6_people_57 ?_
      refine xSi0 (As := [.long v3.toInt64, .long (1 : Int64), .long (999 : Int64)]) (rest := []) hst hE hP hS ⟨hx, hb, hml, hown, hts⟩ (mX6_isWithin l D h cI cJ t0 hh S L v3.toInt64 (1 : Int64) (999 : Int64) _ hw) (va_cwS 3 hts gX6_people_X6_isWithin rfl rfl rfl (by decide +kernel) ⟨Nat.le_of_ble_eq_true rfl, Nat.le_of_ble_eq_true rfl⟩) rfl hl.1 rfl (Nat.le_of_ble_eq_true rfl) dX6_people_60 ⟨Nat.zero_le _, Nat.zero_le _⟩ (fun r60 H locs hw hP hS => ?_)
      refine lv_if_eq (tgt := 90) hx hb dX6_people_63 (by decide) (fun hc => ?_) (fun hc => ?_)
      · replace hw := And.left hw hc
        refine lv_iconst (v := (-1 : Int32)) hx hb dX6_people_90 (by decide) ?_
        exact hret _ _ _ _ _ _ hP hS hw dX6_people_91
      · replace hw := And.right hw hc
        refine lv_aload_n hx hb dX6_people_66 rfl (lv_at hl 0 rfl) ?_
        refine va_get (D := D) (ci := 6) (v := .ref (h 1)) (C := RX6) (T := TX6) (N := 8) hx hb hts inX6 hown hK hP 0 wX_0 rfl 0 (by decide) f1 (fun _ h9 => h9) rfl dX6_people_67 ?_
        refine va_get (D := D) (ci := 5) (v := .ref (h 14)) (C := RX5) (T := TX5) (N := 10) hx hb hts inX5 hown hK hP 1 wX_1 rfl 6 (by decide) f3 (fun _ h9 => h9) rfl dX6_people_70 ?_
        refine lv_iload_n hx hb dX6_people_73 rfl (lv_at hl 1 rfl) ?_
        obtain ⟨hi, hw⟩ := hw
        refine va_iald hx hb hK hP 14 0 wX_14 rfl hi dX6_people_74 ?_
        refine lv_istore (lv' := [(4, .int (S 14 v1.toNatClampNeg)), (0, .ref (h 0)), (1, .int v1), (2, .int v2), (3, .int v3)]) hx hb dX6_people_75 hl (by decide) rfl (fun ls hl => ?_)
        refine lv_aload_n hx hb dX6_people_77 rfl (lv_at hl 1 rfl) ?_
        refine va_get (D := D) (ci := 6) (v := .ref (h 1)) (C := RX6) (T := TX6) (N := 8) hx hb hts inX6 hown hK hP 0 wX_0 rfl 0 (by decide) f1 (fun _ h9 => h9) rfl dX6_people_78 ?_
        refine va_get (D := D) (ci := 5) (v := .ref (h 14)) (C := RX5) (T := TX5) (N := 10) hx hb hts inX5 hown hK hP 1 wX_1 rfl 6 (by decide) f3 (fun _ h9 => h9) rfl dX6_people_81 ?_
        refine lv_iload_n hx hb dX6_people_84 rfl (lv_at hl 2 rfl) ?_
        refine lv_iload_n hx hb dX6_people_85 rfl (lv_at hl 4 rfl) ?_
        obtain ⟨hi, hw⟩ := hw
        refine x_iast (ws2 := wX h cI cJ (xu S 14 v1.toNatClampNeg v3) L) hx hb hK hP (hD _ _) hS 14 0 wX_14 rfl hi dX6_people_86 (wX_u14 _ _) (fun H locs hP hS => ?_)
        refine lv_iload hx hb dX6_people_87 (lv_at hl 0 rfl) ?_
        exact hret _ _ _ _ _ _ hP hS hw dX6_people_89
  unfold kX6_people at hw
  refine lv_iload_n hx hb dX6_people_0 rfl (lv_at hl 1 rfl) ?_
  refine xSi0 (As := [.int v1]) (rest := []) hst hE hP hS ⟨hx, hb, hml, hown, hts⟩ (mX6_isYear l D h cI cJ t0 hh S L v1 _ hw) (va_cwS 1 hts gX6_people_X6_isYear rfl rfl rfl (by decide +kernel) ⟨Nat.le_of_ble_eq_true rfl, Nat.le_of_ble_eq_true rfl⟩) rfl hl.1 rfl (Nat.le_of_ble_eq_true rfl) dX6_people_1 ⟨Nat.zero_le _, Nat.zero_le _⟩ (fun r1 H locs hw hP hS => ?_)
  refine lv_if_ne (tgt := 9) hx hb dX6_people_4 (by decide) (fun hc => ?_) (fun hc => ?_)
  · replace hw := And.right hw hc
    refine lv_iload_n hx hb dX6_people_9 rfl (lv_at hl 2 rfl) ?_
    refine lv_if_ne (tgt := 49) hx hb dX6_people_10 (by decide) (fun hc => ?_) (fun hc => ?_)
    · replace hw := And.right hw hc
      exact b49 S _ _ _ (lv_sub hl [0, 1, 2, 3] rfl) hP hS hw
    · replace hw := And.left hw hc
      refine lv_iload_n hx hb dX6_people_13 rfl (lv_at hl 3 rfl) ?_
      refine lv_i2l hx hb dX6_people_14 rfl ?_
      refine lv_lconst (v := (1 : Int64)) hx hb dX6_people_15 (by decide) ?_
      refine lv_ldc2 (v := (999999 : Int64)) hx hb hown (f5) dX6_people_16 ?_
      refine xSi0 (As := [.long v3.toInt64, .long (1 : Int64), .long (999999 : Int64)]) (rest := []) hst hE hP hS ⟨hx, hb, hml, hown, hts⟩ (mX6_isWithin l D h cI cJ t0 hh S L v3.toInt64 (1 : Int64) (999999 : Int64) _ hw) (va_cwS 3 hts gX6_people_X6_isWithin rfl rfl rfl (by decide +kernel) ⟨Nat.le_of_ble_eq_true rfl, Nat.le_of_ble_eq_true rfl⟩) rfl hl.1 rfl (Nat.le_of_ble_eq_true rfl) dX6_people_19 ⟨Nat.zero_le _, Nat.zero_le _⟩ (fun r19 H locs hw hP hS => ?_)
      refine lv_if_eq (tgt := 49) hx hb dX6_people_22 (by decide) (fun hc => ?_) (fun hc => ?_)
      · replace hw := And.left hw hc
        exact b49 S _ _ _ (lv_sub hl [0, 1, 2, 3] rfl) hP hS hw
      · replace hw := And.right hw hc
        refine lv_aload_n hx hb dX6_people_25 rfl (lv_at hl 0 rfl) ?_
        refine va_get (D := D) (ci := 6) (v := .ref (h 1)) (C := RX6) (T := TX6) (N := 8) hx hb hts inX6 hown hK hP 0 wX_0 rfl 0 (by decide) f1 (fun _ h9 => h9) rfl dX6_people_26 ?_
        refine va_get (D := D) (ci := 5) (v := .ref (h 13)) (C := RX5) (T := TX5) (N := 10) hx hb hts inX5 hown hK hP 1 wX_1 rfl 5 (by decide) f6 (fun _ h9 => h9) rfl dX6_people_29 ?_
        refine lv_iload_n hx hb dX6_people_32 rfl (lv_at hl 1 rfl) ?_
        obtain ⟨hi, hw⟩ := hw
        refine va_iald hx hb hK hP 13 0 wX_13 rfl hi dX6_people_33 ?_
        refine lv_istore (lv' := [(4, .int (S 13 v1.toNatClampNeg)), (0, .ref (h 0)), (1, .int v1), (2, .int v2), (3, .int v3)]) hx hb dX6_people_34 hl (by decide) rfl (fun ls hl => ?_)
        refine lv_aload_n hx hb dX6_people_36 rfl (lv_at hl 1 rfl) ?_
        refine va_get (D := D) (ci := 6) (v := .ref (h 1)) (C := RX6) (T := TX6) (N := 8) hx hb hts inX6 hown hK hP 0 wX_0 rfl 0 (by decide) f1 (fun _ h9 => h9) rfl dX6_people_37 ?_
        refine va_get (D := D) (ci := 5) (v := .ref (h 13)) (C := RX5) (T := TX5) (N := 10) hx hb hts inX5 hown hK hP 1 wX_1 rfl 5 (by decide) f6 (fun _ h9 => h9) rfl dX6_people_40 ?_
        refine lv_iload_n hx hb dX6_people_43 rfl (lv_at hl 2 rfl) ?_
        refine lv_iload_n hx hb dX6_people_44 rfl (lv_at hl 4 rfl) ?_
        obtain ⟨hi, hw⟩ := hw
        refine x_iast (ws2 := wX h cI cJ (xu S 13 v1.toNatClampNeg v3) L) hx hb hK hP (hD _ _) hS 13 0 wX_13 rfl hi dX6_people_45 (wX_u13 _ _) (fun H locs hP hS => ?_)
        refine lv_iload hx hb dX6_people_46 (lv_at hl 0 rfl) ?_
        exact hret _ _ _ _ _ _ hP hS hw dX6_people_48
  · replace hw := And.left hw hc
    refine lv_iconst (v := (-1 : Int32)) hx hb dX6_people_7 (by decide) ?_
    exact hret _ _ _ _ _ _ hP hS hw dX6_people_8
abbrev rX6_yearsWithShare : Room := { frames := 5, cells := 0, slots := 0, locals := 118 }
set_option maxHeartbeats 4000000 in
set_option maxRecDepth 100000 in
theorem mX6_yearsWithShare (l : Launch) (D : va_G) (h : Nat → Nat) (cI cJ : ClassId) (t0 : Nat) (hh : xdis 53 h) (S : SX) (L : LX) (post : Int32 → Prop) (hw : kX6_yearsWithShare S L  post) : Met l yX6_yearsWithShare wsX6_yearsWithShare rX6_yearsWithShare (xPre D (wX h cI cJ) (xE D h cI cJ t0) S L [.ref (h 0)]) (va_Qi (fun (r : Int32) (u : SX × LX) => post r ∧ u.1 = S ∧ u.2 = L) (xB D (wX h cI cJ)) (xA 53 h)) 0 0 (xA 53 h) := by
  refine Met.ofW (cc := cX6_yearsWithShare) (maxL := 3) (ret := (some .int)) (by decide) rfl ?_
  intro p e s m args below meth c s₁ B hml hv
  obtain ⟨hargs, hP, hE⟩ := hv
  have hx := B.exec
  have hb := B.bytes
  have hr := B.returns
  have hlocks := B.notSynchronized
  have hts := atoms_spec (ws := wsX6_yearsWithShare) B.pre
  have hown : s.vm.findClass RX6 = some m.cls := findClass_of_methodNamed B.named
  have hS : va_S (xA 53 h) s.heap s.heap [] := va_S.rf
  have hD : ∀ (S : SX) (L : LX), va_D (xA 53 h) (wX h cI cJ S L) := fun S L => wX_D hh cI cJ S L
  have hK := hE.1
  have hst : xSt (xA 53 h) (xE D h cI cJ t0) := xE_st D h cI cJ t0
  have f0 := hts (.fieldLink RX6 10 "BookOfWills" "world" "LBookOfWills$World;") (by decide +kernel)
  have inX6 : ∀ w ∈ u_ws RX6 TX6 8, w ∈ wsX6_yearsWithShare := fun w hw9 => List.mem_cons_of_mem _ (List.mem_append_left _ (List.mem_append_left _ (List.mem_append_left _ (List.mem_append_right _ hw9))))
  have hl := lv_entry ([.ref (h 0)]) (n := 3) (Nat.le_of_ble_eq_true rfl)
  have hen : entryFrame m args 3 = F0 m 0 ((lg_sl ([.ref (h 0)]) ++ List.replicate (3 - (lg_sl ([.ref (h 0)])).length) Slot.unset).toArray) [] := by rw [hargs]; exact lg_entry_eq m _ _
  rw [hen]
  generalize (lg_sl ([.ref (h 0)]) ++ List.replicate (3 - (lg_sl ([.ref (h 0)])).length) Slot.unset).toArray = ls at hl ⊢
  have hl : lv_has ls 3 [(0, .ref (h 0))] := hl
  change W p l e rX6_yearsWithShare s m args below meth c s.heap [] 0 0 (MQ below (va_Qi (fun (r : Int32) (u : SX × LX) => post r ∧ u.1 = S ∧ u.2 = L) (xB D (wX h cI cJ)) (xA 53 h)) args s 0 0 (xA 53 h)) (F0 m 0 ls [])
  have hret : ∀ (r : Int32) (H : Heap) (locs : List Loc) (ls : Array Slot) (pc : Nat), va_P D vwCl (wX h cI cJ S L) H → va_S (xA 53 h) s.heap H locs → post r → decode cX6_yearsWithShare pc = .ok (.ireturn, 1) → W p l e rX6_yearsWithShare s m args below meth c H locs 0 0 (MQ below (va_Qi (fun (r : Int32) (u : SX × LX) => post r ∧ u.1 = S ∧ u.2 = L) (xB D (wX h cI cJ)) (xA 53 h)) args s 0 0 (xA 53 h)) (F0 m pc ls [.int r]) := fun r H locs ls pc hP hS hw hd => W.iret hx hb hr (fun t ht hW => ⟨⟨r, (S, L), rfl, ⟨hw, rfl, rfl⟩, show va_P D vwCl (wX h cI cJ S L) t.heap by rw [ht]; exact hP⟩, hS.F ht⟩) hS.2.2 hd
  generalize MQ below (va_Qi (fun (r : Int32) (u : SX × LX) => post r ∧ u.1 = S ∧ u.2 = L) (xB D (wX h cI cJ)) (xA 53 h)) args s 0 0 (xA 53 h) = Q at hret ⊢
  have b4 : ∀  (n4 : Nat) (v1 : Int32) (v2 : Int32) (H : Heap) (locs : List Loc) (ls : Array Slot), lv_has ls 3 [(0, .ref (h 0)), (1, .int v1), (2, .int v2)] → va_P D vwCl (wX h cI cJ S L) H → va_S (xA 53 h) s.heap H locs → kX6_yearsWithShare_b4 S L post n4 v1 v2 → W p l e rX6_yearsWithShare s m args below meth c H locs 0 0 Q (F0 m 4 ls []) := by
    intro n4
    induction n4 with
    | zero => intro v1 v2 H locs ls hl hP hS hw; exact absurd hw id
    | succ n4 i4 =>
      intro v1 v2 H locs ls hl hP hS hw
      unfold kX6_yearsWithShare_b4 at hw
      refine lv_iload_n hx hb dX6_yearsWithShare_4 rfl (lv_at hl 2 rfl) ?_
      refine lv_bipush (v := (8 : Int32)) hx hb dX6_yearsWithShare_5 (by decide) ?_
      refine lv_icmp_ge (tgt := 33) hx hb dX6_yearsWithShare_7 (by decide) (fun hc => ?_) (fun hc => ?_)
      · replace hw := And.left hw hc
        refine lv_iload_n hx hb dX6_yearsWithShare_33 rfl (lv_at hl 1 rfl) ?_
        exact hret _ _ _ _ _ hP hS hw dX6_yearsWithShare_34
      · replace hw := And.right hw hc
        refine lv_aload_n hx hb dX6_yearsWithShare_10 rfl (lv_at hl 0 rfl) ?_
        refine va_get (D := D) (ci := 6) (v := .ref (h 1)) (C := RX6) (T := TX6) (N := 8) hx hb hts inX6 hown hK hP 0 wX_0 rfl 0 (by decide) f0 (fun _ h9 => h9) rfl dX6_yearsWithShare_11 ?_
        refine lv_iload_n hx hb dX6_yearsWithShare_14 rfl (lv_at hl 2 rfl) ?_
        refine lv_iload_n hx hb dX6_yearsWithShare_15 rfl (lv_at hl 2 rfl) ?_
        refine xVl0 (As := [.int v2, .int v2]) (rest := []) hst hE hP hS ⟨hx, hb, hml, hown, hts⟩ (va_recv hK hP (ci := 5) (q := (RX5, TX5, 10)) rfl wX_1) (mX5_sumSworn l D h cI cJ t0 hh S L v2 v2 _ hw) (cwV 2 hts gX6_yearsWithShare_X5_sumSworn rfl rfl rfl (by decide +kernel) ⟨Nat.le_of_ble_eq_true rfl, Nat.le_of_ble_eq_true rfl⟩) rfl hl.1 rfl (Nat.le_of_ble_eq_true rfl) dX6_yearsWithShare_16 ⟨Nat.zero_le _, Nat.zero_le _⟩ (fun r16 H locs hw hP hS => ?_)
        refine lv_lconst (v := (0 : Int64)) hx hb dX6_yearsWithShare_19 (by decide) ?_
        refine W.lcmp hx hb dX6_yearsWithShare_20 ?_
        refine lv_if_le (tgt := 27) hx hb dX6_yearsWithShare_21 (by decide) (fun hc => ?_) (fun hc => ?_)
        · replace hw := And.left hw ((lg_cmp_le _ _).mp hc)
          refine lv_iinc (v := v2 + (1 : Int32)) (lv' := [(2, .int (v2 + (1 : Int32))), (0, .ref (h 0)), (1, .int v1)]) hx hb dX6_yearsWithShare_27 hl (k := 2) rfl rfl (by decide) rfl (fun ls hl => ?_)
          refine lv_goto (tgt := 4) hx hb dX6_yearsWithShare_30 (by decide) ?_
          exact i4 v1 (v2 + (1 : Int32)) _ _ _ (lv_sub hl [1, 2, 0] rfl) hP hS hw
        · replace hw := And.right hw (fun q => hc ((lg_cmp_le _ _).mpr q))
          refine lv_iinc (v := v1 + (1 : Int32)) (lv' := [(1, .int (v1 + (1 : Int32))), (0, .ref (h 0)), (2, .int v2)]) hx hb dX6_yearsWithShare_24 hl (k := 1) rfl rfl (by decide) rfl (fun ls hl => ?_)
          refine lv_iinc (v := v2 + (1 : Int32)) (lv' := [(2, .int (v2 + (1 : Int32))), (1, .int (v1 + (1 : Int32))), (0, .ref (h 0))]) hx hb dX6_yearsWithShare_27 hl (k := 2) rfl rfl (by decide) rfl (fun ls hl => ?_)
          refine lv_goto (tgt := 4) hx hb dX6_yearsWithShare_30 (by decide) ?_
          exact i4 (v1 + (1 : Int32)) (v2 + (1 : Int32)) _ _ _ (lv_sub hl [2, 1, 0] rfl) hP hS hw
  unfold kX6_yearsWithShare at hw
  refine lv_iconst (v := (0 : Int32)) hx hb dX6_yearsWithShare_0 (by decide) ?_
  refine lv_istore_n (lv' := [(1, .int (0 : Int32)), (0, .ref (h 0))]) hx hb dX6_yearsWithShare_1 rfl hl (by decide) rfl (fun ls hl => ?_)
  refine lv_iconst (v := (0 : Int32)) hx hb dX6_yearsWithShare_2 (by decide) ?_
  refine lv_istore_n (lv' := [(2, .int (0 : Int32)), (1, .int (0 : Int32)), (0, .ref (h 0))]) hx hb dX6_yearsWithShare_3 rfl hl (by decide) rfl (fun ls hl => ?_)
  obtain ⟨n4, hw⟩ := hw
  exact b4  n4 (0 : Int32) (0 : Int32) _ _ _ (lv_sub hl [2, 1, 0] rfl) hP hS hw
abbrev rX6_count : Room := { frames := 6, cells := 0, slots := 0, locals := 140 }
set_option maxHeartbeats 4000000 in
set_option maxRecDepth 100000 in
theorem mX6_count (l : Launch) (D : va_G) (h : Nat → Nat) (cI cJ : ClassId) (t0 : Nat) (hh : xdis 53 h) (S : SX) (L : LX) (v1 : Int32) (post : Int32 → Prop) (hw : kX6_count S L v1 post) : Met l yX6_count wsX6_count rX6_count (xPre D (wX h cI cJ) (xE D h cI cJ t0) S L [.ref (h 0), .int v1]) (va_Qi (fun (r : Int32) (u : SX × LX) => post r ∧ u.1 = S ∧ u.2 = L) (xB D (wX h cI cJ)) (xA 53 h)) 0 0 (xA 53 h) := by
  refine Met.ofW (cc := cX6_count) (maxL := 2) (ret := (some .int)) (by decide) rfl ?_
  intro p e s m args below meth c s₁ B hml hv
  obtain ⟨hargs, hP, hE⟩ := hv
  have hx := B.exec
  have hb := B.bytes
  have hr := B.returns
  have hlocks := B.notSynchronized
  have hts := atoms_spec (ws := wsX6_count) B.pre
  have hown : s.vm.findClass RX6 = some m.cls := findClass_of_methodNamed B.named
  have hS : va_S (xA 53 h) s.heap s.heap [] := va_S.rf
  have hD : ∀ (S : SX) (L : LX), va_D (xA 53 h) (wX h cI cJ S L) := fun S L => wX_D hh cI cJ S L
  have hK := hE.1
  have hst : xSt (xA 53 h) (xE D h cI cJ t0) := xE_st D h cI cJ t0
  have f0 := hts (.fieldLink RX6 10 "BookOfWills" "world" "LBookOfWills$World;") (by decide +kernel)
  have inX6 : ∀ w ∈ u_ws RX6 TX6 8, w ∈ wsX6_count := fun w hw9 => List.mem_cons_of_mem _ (List.mem_append_left _ (List.mem_append_left _ (List.mem_append_left _ (List.mem_append_right _ hw9))))
  have f2 := hts (.fieldLink RX6 83 "BookOfWills$World" "wills" "LBookOfWills$Wills;") (by decide +kernel)
  have inX5 : ∀ w ∈ u_ws RX5 TX5 10, w ∈ wsX6_count := fun w hw9 => List.mem_cons_of_mem _ (List.mem_append_left _ (List.mem_append_left _ (List.mem_append_right _ hw9)))
  have f4 := hts (.fieldLink RX6 93 "BookOfWills$Wills" "size" "I") (by decide +kernel)
  have inX4 : ∀ w ∈ u_ws RX4 TX4 5, w ∈ wsX6_count := fun w hw9 => List.mem_cons_of_mem _ (List.mem_append_left _ (List.mem_append_right _ hw9))
  have f6 := hts (.fieldLink RX6 214 "BookOfWills$World" "counted" "I") (by decide +kernel)
  have hl := lv_entry ([.ref (h 0), .int v1]) (n := 2) (Nat.le_of_ble_eq_true rfl)
  have hen : entryFrame m args 2 = F0 m 0 ((lg_sl ([.ref (h 0), .int v1]) ++ List.replicate (2 - (lg_sl ([.ref (h 0), .int v1])).length) Slot.unset).toArray) [] := by rw [hargs]; exact lg_entry_eq m _ _
  rw [hen]
  generalize (lg_sl ([.ref (h 0), .int v1]) ++ List.replicate (2 - (lg_sl ([.ref (h 0), .int v1])).length) Slot.unset).toArray = ls at hl ⊢
  have hl : lv_has ls 2 [(0, .ref (h 0)), (1, .int v1)] := hl
  change W p l e rX6_count s m args below meth c s.heap [] 0 0 (MQ below (va_Qi (fun (r : Int32) (u : SX × LX) => post r ∧ u.1 = S ∧ u.2 = L) (xB D (wX h cI cJ)) (xA 53 h)) args s 0 0 (xA 53 h)) (F0 m 0 ls [])
  have hret : ∀ (r : Int32) (H : Heap) (locs : List Loc) (ls : Array Slot) (pc : Nat), va_P D vwCl (wX h cI cJ S L) H → va_S (xA 53 h) s.heap H locs → post r → decode cX6_count pc = .ok (.ireturn, 1) → W p l e rX6_count s m args below meth c H locs 0 0 (MQ below (va_Qi (fun (r : Int32) (u : SX × LX) => post r ∧ u.1 = S ∧ u.2 = L) (xB D (wX h cI cJ)) (xA 53 h)) args s 0 0 (xA 53 h)) (F0 m pc ls [.int r]) := fun r H locs ls pc hP hS hw hd => W.iret hx hb hr (fun t ht hW => ⟨⟨r, (S, L), rfl, ⟨hw, rfl, rfl⟩, show va_P D vwCl (wX h cI cJ S L) t.heap by rw [ht]; exact hP⟩, hS.F ht⟩) hS.2.2 hd
  generalize MQ below (va_Qi (fun (r : Int32) (u : SX × LX) => post r ∧ u.1 = S ∧ u.2 = L) (xB D (wX h cI cJ)) (xA 53 h)) args s 0 0 (xA 53 h) = Q at hret ⊢
  unfold kX6_count at hw
  refine lv_iload_n hx hb dX6_count_0 rfl (lv_at hl 1 rfl) ?_
  by_cases hc0 : v1 = (0 : Int32)
  · replace hw := And.left (hw) hc0
    refine lv_tableIn (off := 39) (tgt := 40) hx hb dX6_count_1 (by rw [hc0]; decide) (by rw [hc0]; decide) (by rw [hc0]; decide) (by decide) ?_
    refine lv_aload_n hx hb dX6_count_40 rfl (lv_at hl 0 rfl) ?_
    refine va_get (D := D) (ci := 6) (v := .ref (h 1)) (C := RX6) (T := TX6) (N := 8) hx hb hts inX6 hown hK hP 0 wX_0 rfl 0 (by decide) f0 (fun _ h9 => h9) rfl dX6_count_41 ?_
    refine va_get (D := D) (ci := 5) (v := .ref (h 8)) (C := RX5) (T := TX5) (N := 10) hx hb hts inX5 hown hK hP 1 wX_1 rfl 4 (by decide) f2 (fun _ h9 => h9) rfl dX6_count_44 ?_
    refine va_get (D := D) (ci := 4) (v := .int (S 8 0)) (C := RX4) (T := TX4) (N := 5) hx hb hts inX4 hown hK hP 8 wX_8 rfl 0 (by decide) f4 (fun _ h9 => h9) rfl dX6_count_47 ?_
    exact hret _ _ _ _ _ hP hS hw dX6_count_50
  by_cases hc1 : v1 = (1 : Int32)
  · replace hw := And.left (And.right (hw)) hc1
    refine lv_tableIn (off := 50) (tgt := 51) hx hb dX6_count_1 (by rw [hc1]; decide) (by rw [hc1]; decide) (by rw [hc1]; decide) (by decide) ?_
    refine lv_aload_n hx hb dX6_count_51 rfl (lv_at hl 0 rfl) ?_
    refine va_get (D := D) (ci := 6) (v := .ref (h 1)) (C := RX6) (T := TX6) (N := 8) hx hb hts inX6 hown hK hP 0 wX_0 rfl 0 (by decide) f0 (fun _ h9 => h9) rfl dX6_count_52 ?_
    refine lv_iload_n hx hb dX6_count_55 rfl (lv_at hl 1 rfl) ?_
    refine xVi0 (As := [.int v1]) (rest := []) hst hE hP hS ⟨hx, hb, hml, hown, hts⟩ (va_recv hK hP (ci := 5) (q := (RX5, TX5, 10)) rfl wX_1) (mX5_howManyOfKind l D h cI cJ t0 hh S L v1 _ hw) (cwV 1 hts gX6_count_X5_howManyOfKind rfl rfl rfl (by decide +kernel) ⟨Nat.le_of_ble_eq_true rfl, Nat.le_of_ble_eq_true rfl⟩) rfl hl.1 rfl (Nat.le_of_ble_eq_true rfl) dX6_count_56 ⟨Nat.zero_le _, Nat.zero_le _⟩ (fun r56 H locs hw hP hS => ?_)
    exact hret _ _ _ _ _ hP hS hw dX6_count_59
  by_cases hc2 : v1 = (2 : Int32)
  · replace hw := And.left (And.right (And.right (hw))) hc2
    refine lv_tableIn (off := 50) (tgt := 51) hx hb dX6_count_1 (by rw [hc2]; decide) (by rw [hc2]; decide) (by rw [hc2]; decide) (by decide) ?_
    refine lv_aload_n hx hb dX6_count_51 rfl (lv_at hl 0 rfl) ?_
    refine va_get (D := D) (ci := 6) (v := .ref (h 1)) (C := RX6) (T := TX6) (N := 8) hx hb hts inX6 hown hK hP 0 wX_0 rfl 0 (by decide) f0 (fun _ h9 => h9) rfl dX6_count_52 ?_
    refine lv_iload_n hx hb dX6_count_55 rfl (lv_at hl 1 rfl) ?_
    refine xVi0 (As := [.int v1]) (rest := []) hst hE hP hS ⟨hx, hb, hml, hown, hts⟩ (va_recv hK hP (ci := 5) (q := (RX5, TX5, 10)) rfl wX_1) (mX5_howManyOfKind l D h cI cJ t0 hh S L v1 _ hw) (cwV 1 hts gX6_count_X5_howManyOfKind rfl rfl rfl (by decide +kernel) ⟨Nat.le_of_ble_eq_true rfl, Nat.le_of_ble_eq_true rfl⟩) rfl hl.1 rfl (Nat.le_of_ble_eq_true rfl) dX6_count_56 ⟨Nat.zero_le _, Nat.zero_le _⟩ (fun r56 H locs hw hP hS => ?_)
    exact hret _ _ _ _ _ hP hS hw dX6_count_59
  by_cases hc3 : v1 = (3 : Int32)
  · replace hw := And.left (And.right (And.right (And.right (hw)))) hc3
    refine lv_tableIn (off := 50) (tgt := 51) hx hb dX6_count_1 (by rw [hc3]; decide) (by rw [hc3]; decide) (by rw [hc3]; decide) (by decide) ?_
    refine lv_aload_n hx hb dX6_count_51 rfl (lv_at hl 0 rfl) ?_
    refine va_get (D := D) (ci := 6) (v := .ref (h 1)) (C := RX6) (T := TX6) (N := 8) hx hb hts inX6 hown hK hP 0 wX_0 rfl 0 (by decide) f0 (fun _ h9 => h9) rfl dX6_count_52 ?_
    refine lv_iload_n hx hb dX6_count_55 rfl (lv_at hl 1 rfl) ?_
    refine xVi0 (As := [.int v1]) (rest := []) hst hE hP hS ⟨hx, hb, hml, hown, hts⟩ (va_recv hK hP (ci := 5) (q := (RX5, TX5, 10)) rfl wX_1) (mX5_howManyOfKind l D h cI cJ t0 hh S L v1 _ hw) (cwV 1 hts gX6_count_X5_howManyOfKind rfl rfl rfl (by decide +kernel) ⟨Nat.le_of_ble_eq_true rfl, Nat.le_of_ble_eq_true rfl⟩) rfl hl.1 rfl (Nat.le_of_ble_eq_true rfl) dX6_count_56 ⟨Nat.zero_le _, Nat.zero_le _⟩ (fun r56 H locs hw hP hS => ?_)
    exact hret _ _ _ _ _ hP hS hw dX6_count_59
  by_cases hc4 : v1 = (4 : Int32)
  · replace hw := And.left (And.right (And.right (And.right (And.right (hw))))) hc4
    refine lv_tableIn (off := 59) (tgt := 60) hx hb dX6_count_1 (by rw [hc4]; decide) (by rw [hc4]; decide) (by rw [hc4]; decide) (by decide) ?_
    refine lv_aload_n hx hb dX6_count_60 rfl (lv_at hl 0 rfl) ?_
    refine xVi0 (As := []) (rest := []) hst hE hP hS ⟨hx, hb, hml, hown, hts⟩ (va_recv hK hP (ci := 6) (q := (RX6, TX6, 8)) rfl wX_0) (mX6_yearsWithShare l D h cI cJ t0 hh S L  _ hw) (cwV 0 hts gX6_count_X6_yearsWithShare rfl rfl rfl (by decide +kernel) ⟨Nat.le_of_ble_eq_true rfl, Nat.le_of_ble_eq_true rfl⟩) rfl hl.1 rfl (Nat.le_of_ble_eq_true rfl) dX6_count_61 ⟨Nat.zero_le _, Nat.zero_le _⟩ (fun r61 H locs hw hP hS => ?_)
    exact hret _ _ _ _ _ hP hS hw dX6_count_64
  by_cases hc5 : v1 = (5 : Int32)
  · replace hw := And.left (And.right (And.right (And.right (And.right (And.right (hw)))))) hc5
    refine lv_tableIn (off := 64) (tgt := 65) hx hb dX6_count_1 (by rw [hc5]; decide) (by rw [hc5]; decide) (by rw [hc5]; decide) (by decide) ?_
    refine lv_aload_n hx hb dX6_count_65 rfl (lv_at hl 0 rfl) ?_
    refine va_get (D := D) (ci := 6) (v := .ref (h 1)) (C := RX6) (T := TX6) (N := 8) hx hb hts inX6 hown hK hP 0 wX_0 rfl 0 (by decide) f0 (fun _ h9 => h9) rfl dX6_count_66 ?_
    refine va_get (D := D) (ci := 5) (v := .int (S 1 2)) (C := RX5) (T := TX5) (N := 10) hx hb hts inX5 hown hK hP 1 wX_1 rfl 7 (by decide) f6 (fun _ h9 => h9) rfl dX6_count_69 ?_
    refine xSi0 (As := [.int (S 1 2)]) (rest := []) hst hE hP hS ⟨hx, hb, hml, hown, hts⟩ (mJ6_bitCount l D h cI cJ t0 hh S L (S 1 2) _ hw) (va_cwS 1 hts gX6_count_J6_bitCount_0f7a4 rfl rfl rfl (by decide +kernel) ⟨Nat.le_of_ble_eq_true rfl, Nat.le_of_ble_eq_true rfl⟩) rfl hl.1 rfl (Nat.le_of_ble_eq_true rfl) dX6_count_72 ⟨Nat.zero_le _, Nat.zero_le _⟩ (fun r72 H locs hw hP hS => ?_)
    exact hret _ _ _ _ _ hP hS hw dX6_count_75
  replace hw := And.right (And.right (And.right (And.right (And.right (And.right (hw)))))) hc0 hc1 hc2 hc3 hc4 hc5
  refine lv_tableOut (tgt := 76) hx hb dX6_count_1 (x_out v1 (fun k h1 h2 => ?_)) (by decide) ?_
  · rcases (show k = 0 ∨ k = 1 ∨ k = 2 ∨ k = 3 ∨ k = 4 ∨ k = 5 by omega) with rfl | rfl | rfl | rfl | rfl | rfl
    · exact hc0
    · exact hc1
    · exact hc2
    · exact hc3
    · exact hc4
    · exact hc5
  refine lv_iconst (v := (-1 : Int32)) hx hb dX6_count_76 (by decide) ?_
  exact hret _ _ _ _ _ hP hS hw dX6_count_77
abbrev rX6_total : Room := { frames := 5, cells := 0, slots := 0, locals := 118 }
set_option maxHeartbeats 4000000 in
set_option maxRecDepth 100000 in
theorem mX6_total (l : Launch) (D : va_G) (h : Nat → Nat) (cI cJ : ClassId) (t0 : Nat) (hh : xdis 53 h) (S : SX) (L : LX) (v1 : Int32) (v2 : Int32) (post : Int64 → Prop) (hw : kX6_total S L v1 v2 post) : Met l yX6_total wsX6_total rX6_total (xPre D (wX h cI cJ) (xE D h cI cJ t0) S L [.ref (h 0), .int v1, .int v2]) (va_Ql (fun (r : Int64) (u : SX × LX) => post r ∧ u.1 = S ∧ u.2 = L) (xB D (wX h cI cJ)) (xA 53 h)) 0 0 (xA 53 h) := by
  refine Met.ofW (cc := cX6_total) (maxL := 3) (ret := (some .long)) (by decide) rfl ?_
  intro p e s m args below meth c s₁ B hml hv
  obtain ⟨hargs, hP, hE⟩ := hv
  have hx := B.exec
  have hb := B.bytes
  have hr := B.returns
  have hlocks := B.notSynchronized
  have hts := atoms_spec (ws := wsX6_total) B.pre
  have hown : s.vm.findClass RX6 = some m.cls := findClass_of_methodNamed B.named
  have hS : va_S (xA 53 h) s.heap s.heap [] := va_S.rf
  have hD : ∀ (S : SX) (L : LX), va_D (xA 53 h) (wX h cI cJ S L) := fun S L => wX_D hh cI cJ S L
  have hK := hE.1
  have hst : xSt (xA 53 h) (xE D h cI cJ t0) := xE_st D h cI cJ t0
  have f0 := hts (.constantLong RX6 226 (-1)) (by decide +kernel)
  have f1 := hts (.fieldLink RX6 10 "BookOfWills" "world" "LBookOfWills$World;") (by decide +kernel)
  have inX6 : ∀ w ∈ u_ws RX6 TX6 8, w ∈ wsX6_total := fun w hw9 => List.mem_cons_of_mem _ (List.mem_append_left _ (List.mem_append_left _ (List.mem_append_left _ (List.mem_append_right _ hw9))))
  have hl := lv_entry ([.ref (h 0), .int v1, .int v2]) (n := 3) (Nat.le_of_ble_eq_true rfl)
  have hen : entryFrame m args 3 = F0 m 0 ((lg_sl ([.ref (h 0), .int v1, .int v2]) ++ List.replicate (3 - (lg_sl ([.ref (h 0), .int v1, .int v2])).length) Slot.unset).toArray) [] := by rw [hargs]; exact lg_entry_eq m _ _
  rw [hen]
  generalize (lg_sl ([.ref (h 0), .int v1, .int v2]) ++ List.replicate (3 - (lg_sl ([.ref (h 0), .int v1, .int v2])).length) Slot.unset).toArray = ls at hl ⊢
  have hl : lv_has ls 3 [(0, .ref (h 0)), (1, .int v1), (2, .int v2)] := hl
  change W p l e rX6_total s m args below meth c s.heap [] 0 0 (MQ below (va_Ql (fun (r : Int64) (u : SX × LX) => post r ∧ u.1 = S ∧ u.2 = L) (xB D (wX h cI cJ)) (xA 53 h)) args s 0 0 (xA 53 h)) (F0 m 0 ls [])
  have hret : ∀ (r : Int64) (H : Heap) (locs : List Loc) (ls : Array Slot) (pc : Nat), va_P D vwCl (wX h cI cJ S L) H → va_S (xA 53 h) s.heap H locs → post r → decode cX6_total pc = .ok (.lreturn, 1) → W p l e rX6_total s m args below meth c H locs 0 0 (MQ below (va_Ql (fun (r : Int64) (u : SX × LX) => post r ∧ u.1 = S ∧ u.2 = L) (xB D (wX h cI cJ)) (xA 53 h)) args s 0 0 (xA 53 h)) (F0 m pc ls [.long r]) := fun r H locs ls pc hP hS hw hd => W.lret hx hb hr (fun t ht hW => ⟨⟨r, (S, L), rfl, ⟨hw, rfl, rfl⟩, show va_P D vwCl (wX h cI cJ S L) t.heap by rw [ht]; exact hP⟩, hS.F ht⟩) hS.2.2 hd
  generalize MQ below (va_Ql (fun (r : Int64) (u : SX × LX) => post r ∧ u.1 = S ∧ u.2 = L) (xB D (wX h cI cJ)) (xA 53 h)) args s 0 0 (xA 53 h) = Q at hret ⊢
  unfold kX6_total at hw
  refine lv_iload_n hx hb dX6_total_0 rfl (lv_at hl 1 rfl) ?_
  refine xSi0 (As := [.int v1]) (rest := []) hst hE hP hS ⟨hx, hb, hml, hown, hts⟩ (mX6_isYear l D h cI cJ t0 hh S L v1 _ hw) (va_cwS 1 hts gX6_total_X6_isYear rfl rfl rfl (by decide +kernel) ⟨Nat.le_of_ble_eq_true rfl, Nat.le_of_ble_eq_true rfl⟩) rfl hl.1 rfl (Nat.le_of_ble_eq_true rfl) dX6_total_1 ⟨Nat.zero_le _, Nat.zero_le _⟩ (fun r1 H locs hw hP hS => ?_)
  refine lv_if_eq (tgt := 17) hx hb dX6_total_4 (by decide) (fun hc => ?_) (fun hc => ?_)
  · replace hw := And.left hw hc
    refine lv_ldc2 (v := (-1 : Int64)) hx hb hown (f0) dX6_total_17 ?_
    exact hret _ _ _ _ _ hP hS hw dX6_total_20
  · replace hw := And.right hw hc
    refine lv_iload_n hx hb dX6_total_7 rfl (lv_at hl 2 rfl) ?_
    refine lv_i2l hx hb dX6_total_8 rfl ?_
    refine lv_lconst (v := (0 : Int64)) hx hb dX6_total_9 (by decide) ?_
    refine lv_lconst (v := (1 : Int64)) hx hb dX6_total_10 (by decide) ?_
    refine xSi0 (As := [.long v2.toInt64, .long (0 : Int64), .long (1 : Int64)]) (rest := []) hst hE hP hS ⟨hx, hb, hml, hown, hts⟩ (mX6_isWithin l D h cI cJ t0 hh S L v2.toInt64 (0 : Int64) (1 : Int64) _ hw) (va_cwS 3 hts gX6_total_X6_isWithin rfl rfl rfl (by decide +kernel) ⟨Nat.le_of_ble_eq_true rfl, Nat.le_of_ble_eq_true rfl⟩) rfl hl.1 rfl (Nat.le_of_ble_eq_true rfl) dX6_total_11 ⟨Nat.zero_le _, Nat.zero_le _⟩ (fun r11 H locs hw hP hS => ?_)
    refine lv_if_ne (tgt := 21) hx hb dX6_total_14 (by decide) (fun hc => ?_) (fun hc => ?_)
    · replace hw := And.right hw hc
      refine lv_iload_n hx hb dX6_total_21 rfl (lv_at hl 2 rfl) ?_
      refine lv_if_ne (tgt := 37) hx hb dX6_total_22 (by decide) (fun hc => ?_) (fun hc => ?_)
      · replace hw := And.right hw hc
        refine lv_aload_n hx hb dX6_total_37 rfl (lv_at hl 0 rfl) ?_
        refine va_get (D := D) (ci := 6) (v := .ref (h 1)) (C := RX6) (T := TX6) (N := 8) hx hb hts inX6 hown hK hP 0 wX_0 rfl 0 (by decide) f1 (fun _ h9 => h9) rfl dX6_total_38 ?_
        refine lv_iload_n hx hb dX6_total_41 rfl (lv_at hl 1 rfl) ?_
        refine xVl0 (As := [.int v1]) (rest := []) hst hE hP hS ⟨hx, hb, hml, hown, hts⟩ (va_recv hK hP (ci := 5) (q := (RX5, TX5, 10)) rfl wX_1) (mX5_sumUnseen l D h cI cJ t0 hh S L v1 _ hw) (cwV 1 hts gX6_total_X5_sumUnseen rfl rfl rfl (by decide +kernel) ⟨Nat.le_of_ble_eq_true rfl, Nat.le_of_ble_eq_true rfl⟩) rfl hl.1 rfl (Nat.le_of_ble_eq_true rfl) dX6_total_42 ⟨Nat.zero_le _, Nat.zero_le _⟩ (fun r42 H locs hw hP hS => ?_)
        exact hret _ _ _ _ _ hP hS hw dX6_total_45
      · replace hw := And.left hw hc
        refine lv_aload_n hx hb dX6_total_25 rfl (lv_at hl 0 rfl) ?_
        refine va_get (D := D) (ci := 6) (v := .ref (h 1)) (C := RX6) (T := TX6) (N := 8) hx hb hts inX6 hown hK hP 0 wX_0 rfl 0 (by decide) f1 (fun _ h9 => h9) rfl dX6_total_26 ?_
        refine lv_iload_n hx hb dX6_total_29 rfl (lv_at hl 1 rfl) ?_
        refine lv_iload_n hx hb dX6_total_30 rfl (lv_at hl 1 rfl) ?_
        refine xVl0 (As := [.int v1, .int v1]) (rest := []) hst hE hP hS ⟨hx, hb, hml, hown, hts⟩ (va_recv hK hP (ci := 5) (q := (RX5, TX5, 10)) rfl wX_1) (mX5_sumSworn l D h cI cJ t0 hh S L v1 v1 _ hw) (cwV 2 hts gX6_total_X5_sumSworn rfl rfl rfl (by decide +kernel) ⟨Nat.le_of_ble_eq_true rfl, Nat.le_of_ble_eq_true rfl⟩) rfl hl.1 rfl (Nat.le_of_ble_eq_true rfl) dX6_total_31 ⟨Nat.zero_le _, Nat.zero_le _⟩ (fun r31 H locs hw hP hS => ?_)
        refine lv_goto (tgt := 45) hx hb dX6_total_34 (by decide) ?_
        exact hret _ _ _ _ _ hP hS hw dX6_total_45
    · replace hw := And.left hw hc
      refine lv_ldc2 (v := (-1 : Int64)) hx hb hown (f0) dX6_total_17 ?_
      exact hret _ _ _ _ _ hP hS hw dX6_total_20
abbrev rX6_isTop : Room := { frames := 1, cells := 0, slots := 0, locals := 25 }
set_option maxHeartbeats 4000000 in
set_option maxRecDepth 100000 in
theorem mX6_isTop (l : Launch) (D : va_G) (h : Nat → Nat) (cI cJ : ClassId) (t0 : Nat) (hh : xdis 53 h) (S : SX) (L : LX) (v0 : Int32) (post : Int32 → Prop) (hw : kX6_isTop S L v0 post) : Met l yX6_isTop wsX6_isTop rX6_isTop (xPre D (wX h cI cJ) (xE D h cI cJ t0) S L [.int v0]) (va_Qi (fun (r : Int32) (u : SX × LX) => post r ∧ u.1 = S ∧ u.2 = L) (xB D (wX h cI cJ)) (xA 53 h)) 0 0 (xA 53 h) := by
  refine Met.ofW (cc := cX6_isTop) (maxL := 1) (ret := (some .boolean)) (by decide) rfl ?_
  intro p e s m args below meth c s₁ B hml hv
  obtain ⟨hargs, hP, hE⟩ := hv
  have hx := B.exec
  have hb := B.bytes
  have hr := B.returns
  have hlocks := B.notSynchronized
  have hts := atoms_spec (ws := wsX6_isTop) B.pre
  have hown : s.vm.findClass RX6 = some m.cls := findClass_of_methodNamed B.named
  have hS : va_S (xA 53 h) s.heap s.heap [] := va_S.rf
  have hD : ∀ (S : SX) (L : LX), va_D (xA 53 h) (wX h cI cJ S L) := fun S L => wX_D hh cI cJ S L
  have hK := hE.1
  have hst : xSt (xA 53 h) (xE D h cI cJ t0) := xE_st D h cI cJ t0
  have f0 := hts (.constantLong RX6 362 (1000)) (by decide +kernel)
  have hl := lv_entry ([.int v0]) (n := 1) (Nat.le_of_ble_eq_true rfl)
  have hen : entryFrame m args 1 = F0 m 0 ((lg_sl ([.int v0]) ++ List.replicate (1 - (lg_sl ([.int v0])).length) Slot.unset).toArray) [] := by rw [hargs]; exact lg_entry_eq m _ _
  rw [hen]
  generalize (lg_sl ([.int v0]) ++ List.replicate (1 - (lg_sl ([.int v0])).length) Slot.unset).toArray = ls at hl ⊢
  have hl : lv_has ls 1 [(0, .int v0)] := hl
  change W p l e rX6_isTop s m args below meth c s.heap [] 0 0 (MQ below (va_Qi (fun (r : Int32) (u : SX × LX) => post r ∧ u.1 = S ∧ u.2 = L) (xB D (wX h cI cJ)) (xA 53 h)) args s 0 0 (xA 53 h)) (F0 m 0 ls [])
  have hret : ∀ (r : Int32) (H : Heap) (locs : List Loc) (ls : Array Slot) (pc : Nat), va_P D vwCl (wX h cI cJ S L) H → va_S (xA 53 h) s.heap H locs → post r → narrow .boolean (.int r) = .int r → decode cX6_isTop pc = .ok (.ireturn, 1) → W p l e rX6_isTop s m args below meth c H locs 0 0 (MQ below (va_Qi (fun (r : Int32) (u : SX × LX) => post r ∧ u.1 = S ∧ u.2 = L) (xB D (wX h cI cJ)) (xA 53 h)) args s 0 0 (xA 53 h)) (F0 m pc ls [.int r]) := fun r H locs ls pc hP hS hw hna hd => W.zret hx hb hr hna (fun t ht hW => ⟨⟨r, (S, L), rfl, ⟨hw, rfl, rfl⟩, show va_P D vwCl (wX h cI cJ S L) t.heap by rw [ht]; exact hP⟩, hS.F ht⟩) hS.2.2 hd
  generalize MQ below (va_Qi (fun (r : Int32) (u : SX × LX) => post r ∧ u.1 = S ∧ u.2 = L) (xB D (wX h cI cJ)) (xA 53 h)) args s 0 0 (xA 53 h) = Q at hret ⊢
  unfold kX6_isTop at hw
  refine lv_iload_n hx hb dX6_isTop_0 rfl (lv_at hl 0 rfl) ?_
  refine lv_i2l hx hb dX6_isTop_1 rfl ?_
  refine lv_lconst (v := (1 : Int64)) hx hb dX6_isTop_2 (by decide) ?_
  refine lv_ldc2 (v := (1000 : Int64)) hx hb hown (f0) dX6_isTop_3 ?_
  refine xSi0 (As := [.long v0.toInt64, .long (1 : Int64), .long (1000 : Int64)]) (rest := []) hst hE hP hS ⟨hx, hb, hml, hown, hts⟩ (mX6_isWithin l D h cI cJ t0 hh S L v0.toInt64 (1 : Int64) (1000 : Int64) _ hw) (va_cwS 3 hts gX6_isTop_X6_isWithin rfl rfl rfl (by decide +kernel) ⟨Nat.le_of_ble_eq_true rfl, Nat.le_of_ble_eq_true rfl⟩) rfl hl.1 rfl (Nat.le_of_ble_eq_true rfl) dX6_isTop_6 ⟨Nat.zero_le _, Nat.zero_le _⟩ (fun r6 H locs hw hP hS => ?_)
  exact hret _ _ _ _ _ hP hS hw.2 (xb_n hw.1) dX6_isTop_9
abbrev rX6_commonDivisor : Room := { frames := 0, cells := 0, slots := 0, locals := 0 }
set_option maxHeartbeats 4000000 in
set_option maxRecDepth 100000 in
theorem mX6_commonDivisor (l : Launch) (D : va_G) (h : Nat → Nat) (cI cJ : ClassId) (t0 : Nat) (hh : xdis 53 h) (S : SX) (L : LX) (v0 : Int64) (v2 : Int64) (post : Int64 → Prop) (hw : kX6_commonDivisor S L v0 v2 post) : Met l yX6_commonDivisor wsX6_commonDivisor rX6_commonDivisor (xPre D (wX h cI cJ) (xE D h cI cJ t0) S L [.long v0, .long v2]) (va_Ql (fun (r : Int64) (u : SX × LX) => post r ∧ u.1 = S ∧ u.2 = L) (xB D (wX h cI cJ)) (xA 53 h)) 0 0 (xA 53 h) := by
  refine Met.ofW (cc := cX6_commonDivisor) (maxL := 11) (ret := (some .long)) (by decide) rfl ?_
  intro p e s m args below meth c s₁ B hml hv
  obtain ⟨hargs, hP, hE⟩ := hv
  have hx := B.exec
  have hb := B.bytes
  have hr := B.returns
  have hlocks := B.notSynchronized
  have hts := atoms_spec (ws := wsX6_commonDivisor) B.pre
  have hown : s.vm.findClass RX6 = some m.cls := findClass_of_methodNamed B.named
  have hS : va_S (xA 53 h) s.heap s.heap [] := va_S.rf
  have hD : ∀ (S : SX) (L : LX), va_D (xA 53 h) (wX h cI cJ S L) := fun S L => wX_D hh cI cJ S L
  have hK := hE.1
  have hst : xSt (xA 53 h) (xE D h cI cJ t0) := xE_st D h cI cJ t0
  skip
  have hl := lv_entry ([.long v0, .long v2]) (n := 11) (Nat.le_of_ble_eq_true rfl)
  have hen : entryFrame m args 11 = F0 m 0 ((lg_sl ([.long v0, .long v2]) ++ List.replicate (11 - (lg_sl ([.long v0, .long v2])).length) Slot.unset).toArray) [] := by rw [hargs]; exact lg_entry_eq m _ _
  rw [hen]
  generalize (lg_sl ([.long v0, .long v2]) ++ List.replicate (11 - (lg_sl ([.long v0, .long v2])).length) Slot.unset).toArray = ls at hl ⊢
  have hl : lv_has ls 11 [(0, .long v0), (2, .long v2)] := hl
  change W p l e rX6_commonDivisor s m args below meth c s.heap [] 0 0 (MQ below (va_Ql (fun (r : Int64) (u : SX × LX) => post r ∧ u.1 = S ∧ u.2 = L) (xB D (wX h cI cJ)) (xA 53 h)) args s 0 0 (xA 53 h)) (F0 m 0 ls [])
  have hret : ∀ (r : Int64) (H : Heap) (locs : List Loc) (ls : Array Slot) (pc : Nat), va_P D vwCl (wX h cI cJ S L) H → va_S (xA 53 h) s.heap H locs → post r → decode cX6_commonDivisor pc = .ok (.lreturn, 1) → W p l e rX6_commonDivisor s m args below meth c H locs 0 0 (MQ below (va_Ql (fun (r : Int64) (u : SX × LX) => post r ∧ u.1 = S ∧ u.2 = L) (xB D (wX h cI cJ)) (xA 53 h)) args s 0 0 (xA 53 h)) (F0 m pc ls [.long r]) := fun r H locs ls pc hP hS hw hd => W.lret hx hb hr (fun t ht hW => ⟨⟨r, (S, L), rfl, ⟨hw, rfl, rfl⟩, show va_P D vwCl (wX h cI cJ S L) t.heap by rw [ht]; exact hP⟩, hS.F ht⟩) hS.2.2 hd
  generalize MQ below (va_Ql (fun (r : Int64) (u : SX × LX) => post r ∧ u.1 = S ∧ u.2 = L) (xB D (wX h cI cJ)) (xA 53 h)) args s 0 0 (xA 53 h) = Q at hret ⊢
  have b9 : ∀  (n9 : Nat) (v4 : Int64) (v6 : Int64) (v8 : Int32) (H : Heap) (locs : List Loc) (ls : Array Slot), lv_has ls 11 [(4, .long v4), (6, .long v6), (8, .int v8)] → va_P D vwCl (wX h cI cJ S L) H → va_S (xA 53 h) s.heap H locs → kX6_commonDivisor_b9 S L v0 v2 post n9 v4 v6 v8 → W p l e rX6_commonDivisor s m args below meth c H locs 0 0 Q (F0 m 9 ls []) := by
    intro n9
    induction n9 with
    | zero => intro v4 v6 v8 H locs ls hl hP hS hw; exact absurd hw id
    | succ n9 i9 =>
      intro v4 v6 v8 H locs ls hl hP hS hw
      unfold kX6_commonDivisor_b9 at hw
      refine lv_iload hx hb dX6_commonDivisor_9 (lv_at hl 2 rfl) ?_
      refine lv_bipush (v := (100 : Int32)) hx hb dX6_commonDivisor_11 (by decide) ?_
      refine lv_icmp_ge (tgt := 44) hx hb dX6_commonDivisor_13 (by decide) (fun hc => ?_) (fun hc => ?_)
      · replace hw := And.left hw hc
        refine lv_lload hx hb dX6_commonDivisor_44 (lv_at hl 0 rfl) ?_
        exact hret _ _ _ _ _ hP hS hw dX6_commonDivisor_46
      · replace hw := And.right hw hc
        refine lv_lload hx hb dX6_commonDivisor_16 (lv_at hl 1 rfl) ?_
        refine lv_lconst (v := (0 : Int64)) hx hb dX6_commonDivisor_18 (by decide) ?_
        refine W.lcmp hx hb dX6_commonDivisor_19 ?_
        refine lv_if_eq (tgt := 44) hx hb dX6_commonDivisor_20 (by decide) (fun hc => ?_) (fun hc => ?_)
        · replace hw := And.left hw ((lg_cmp_eq _ _).mp hc)
          refine lv_lload hx hb dX6_commonDivisor_44 (lv_at hl 0 rfl) ?_
          exact hret _ _ _ _ _ hP hS hw dX6_commonDivisor_46
        · replace hw := And.right hw (fun q => hc ((lg_cmp_eq _ _).mpr q))
          refine lv_lload hx hb dX6_commonDivisor_23 (lv_at hl 0 rfl) ?_
          refine lv_lload hx hb dX6_commonDivisor_25 (lv_at hl 1 rfl) ?_
          obtain ⟨hi, hw⟩ := hw
          refine lv_lrem hx hb dX6_commonDivisor_27 hi ?_
          refine lv_lstore (lv' := [(9, .long (v4 - v4 / v6 * v6)), (4, .long v4), (6, .long v6), (8, .int v8)]) hx hb dX6_commonDivisor_28 hl (by decide) rfl (fun ls hl => ?_)
          refine lv_lload hx hb dX6_commonDivisor_30 (lv_at hl 2 rfl) ?_
          refine lv_lstore (lv' := [(4, .long v6), (9, .long (v4 - v4 / v6 * v6)), (6, .long v6), (8, .int v8)]) hx hb dX6_commonDivisor_32 hl (by decide) rfl (fun ls hl => ?_)
          refine lv_lload hx hb dX6_commonDivisor_34 (lv_at hl 1 rfl) ?_
          refine lv_lstore (lv' := [(6, .long (v4 - v4 / v6 * v6)), (4, .long v6), (9, .long (v4 - v4 / v6 * v6)), (8, .int v8)]) hx hb dX6_commonDivisor_36 hl (by decide) rfl (fun ls hl => ?_)
          refine lv_iinc (v := v8 + (1 : Int32)) (lv' := [(8, .int (v8 + (1 : Int32))), (6, .long (v4 - v4 / v6 * v6)), (4, .long v6), (9, .long (v4 - v4 / v6 * v6))]) hx hb dX6_commonDivisor_38 hl (k := 3) rfl rfl (by decide) rfl (fun ls hl => ?_)
          refine lv_goto (tgt := 9) hx hb dX6_commonDivisor_41 (by decide) ?_
          exact i9 v6 (v4 - v4 / v6 * v6) (v8 + (1 : Int32)) _ _ _ (lv_sub hl [2, 1, 0] rfl) hP hS hw
  unfold kX6_commonDivisor at hw
  refine lv_lload_n hx hb dX6_commonDivisor_0 rfl (lv_at hl 0 rfl) ?_
  refine lv_lstore (lv' := [(4, .long v0), (0, .long v0), (2, .long v2)]) hx hb dX6_commonDivisor_1 hl (by decide) rfl (fun ls hl => ?_)
  refine lv_lload_n hx hb dX6_commonDivisor_3 rfl (lv_at hl 2 rfl) ?_
  refine lv_lstore (lv' := [(6, .long v2), (4, .long v0), (0, .long v0), (2, .long v2)]) hx hb dX6_commonDivisor_4 hl (by decide) rfl (fun ls hl => ?_)
  refine lv_iconst (v := (0 : Int32)) hx hb dX6_commonDivisor_6 (by decide) ?_
  refine lv_istore (lv' := [(8, .int (0 : Int32)), (6, .long v2), (4, .long v0), (0, .long v0), (2, .long v2)]) hx hb dX6_commonDivisor_7 hl (by decide) rfl (fun ls hl => ?_)
  obtain ⟨n9, hw⟩ := hw
  exact b9  n9 v0 v2 (0 : Int32) _ _ _ (lv_sub hl [2, 1, 0] rfl) hP hS hw
abbrev rX6_share : Room := { frames := 5, cells := 0, slots := 0, locals := 117 }
set_option maxHeartbeats 4000000 in
set_option maxRecDepth 100000 in
theorem mX6_share (l : Launch) (D : va_G) (h : Nat → Nat) (cI cJ : ClassId) (t0 : Nat) (hh : xdis 53 h) (S : SX) (L : LX) (v1 : Int32) (v2 : Int32) (v3 : Int32) (post : Int64 → SX → Prop) (hw : kX6_share S L v1 v2 v3 post) : Met l yX6_share wsX6_share rX6_share (xPre D (wX h cI cJ) (xE D h cI cJ t0) S L [.ref (h 0), .int v1, .int v2, .int v3]) (va_Ql (fun (r : Int64) (u : SX × LX) => post r u.1 ∧ u.2 = L) (xB D (wX h cI cJ)) (xA 53 h)) 0 0 (xA 53 h) := by
  refine Met.ofW (cc := cX6_share) (maxL := 12) (ret := (some .long)) (by decide) rfl ?_
  intro p e s m args below meth c s₁ B hml hv
  obtain ⟨hargs, hP, hE⟩ := hv
  have hx := B.exec
  have hb := B.bytes
  have hr := B.returns
  have hlocks := B.notSynchronized
  have hts := atoms_spec (ws := wsX6_share) B.pre
  have hown : s.vm.findClass RX6 = some m.cls := findClass_of_methodNamed B.named
  have hS : va_S (xA 53 h) s.heap s.heap [] := va_S.rf
  have hD : ∀ (S : SX) (L : LX), va_D (xA 53 h) (wX h cI cJ S L) := fun S L => wX_D hh cI cJ S L
  have hK := hE.1
  have hst : xSt (xA 53 h) (xE D h cI cJ t0) := xE_st D h cI cJ t0
  have f0 := hts (.constantLong RX6 226 (-1)) (by decide +kernel)
  have f1 := hts (.constantLong RX6 195 (2)) (by decide +kernel)
  have f2 := hts (.fieldLink RX6 22 "BookOfWills" "living" "LBookOfWills$Living;") (by decide +kernel)
  have inX6 : ∀ w ∈ u_ws RX6 TX6 8, w ∈ wsX6_share := fun w hw9 => List.mem_cons_of_mem _ (List.mem_append_left _ (List.mem_append_left _ (List.mem_append_left _ (List.mem_append_left _ (List.mem_append_right _ hw9)))))
  have f4 := hts (.fieldLink RX6 10 "BookOfWills" "world" "LBookOfWills$World;") (by decide +kernel)
  have f5 := hts (.constantLong RX6 251 (10)) (by decide +kernel)
  have f6 := hts (.constantLong RX6 242 (-4)) (by decide +kernel)
  have hl := lv_entry ([.ref (h 0), .int v1, .int v2, .int v3]) (n := 12) (Nat.le_of_ble_eq_true rfl)
  have hen : entryFrame m args 12 = F0 m 0 ((lg_sl ([.ref (h 0), .int v1, .int v2, .int v3]) ++ List.replicate (12 - (lg_sl ([.ref (h 0), .int v1, .int v2, .int v3])).length) Slot.unset).toArray) [] := by rw [hargs]; exact lg_entry_eq m _ _
  rw [hen]
  generalize (lg_sl ([.ref (h 0), .int v1, .int v2, .int v3]) ++ List.replicate (12 - (lg_sl ([.ref (h 0), .int v1, .int v2, .int v3])).length) Slot.unset).toArray = ls at hl ⊢
  have hl : lv_has ls 12 [(0, .ref (h 0)), (1, .int v1), (2, .int v2), (3, .int v3)] := hl
  change W p l e rX6_share s m args below meth c s.heap [] 0 0 (MQ below (va_Ql (fun (r : Int64) (u : SX × LX) => post r u.1 ∧ u.2 = L) (xB D (wX h cI cJ)) (xA 53 h)) args s 0 0 (xA 53 h)) (F0 m 0 ls [])
  have hret : ∀ (r : Int64) (S1 : SX) (H : Heap) (locs : List Loc) (ls : Array Slot) (pc : Nat), va_P D vwCl (wX h cI cJ S1 L) H → va_S (xA 53 h) s.heap H locs → post r S1 → decode cX6_share pc = .ok (.lreturn, 1) → W p l e rX6_share s m args below meth c H locs 0 0 (MQ below (va_Ql (fun (r : Int64) (u : SX × LX) => post r u.1 ∧ u.2 = L) (xB D (wX h cI cJ)) (xA 53 h)) args s 0 0 (xA 53 h)) (F0 m pc ls [.long r]) := fun r S1 H locs ls pc hP hS hw hd => W.lret hx hb hr (fun t ht hW => ⟨⟨r, (S1, L), rfl, ⟨hw, rfl⟩, show va_P D vwCl (wX h cI cJ S1 L) t.heap by rw [ht]; exact hP⟩, hS.F ht⟩) hS.2.2 hd
  generalize MQ below (va_Ql (fun (r : Int64) (u : SX × LX) => post r u.1 ∧ u.2 = L) (xB D (wX h cI cJ)) (xA 53 h)) args s 0 0 (xA 53 h) = Q at hret ⊢
  have b125 : ∀ (v10 : Int64) (z0 : Int64) (S : SX) (H : Heap) (locs : List Loc) (ls : Array Slot), lv_has ls 12 [(10, .long v10)] → va_P D vwCl (wX h cI cJ S L) H → va_S (xA 53 h) s.heap H locs → kX6_share_b125 L v1 v2 v3 post v10 z0 S → W p l e rX6_share s m args below meth c H locs 0 0 Q (F0 m 125 ls [.long z0]) := by
    intro v10 z0 S H locs ls hl hP hS hw
    unfold kX6_share_b125 at hw
    refine lv_lload hx hb dX6_share_125 (lv_at hl 0 rfl) ?_
    refine xSl0 (As := [.long z0, .long v10]) (rest := []) hst hE hP hS ⟨hx, hb, hml, hown, hts⟩ (mX6_divided l D h cI cJ t0 hh S L z0 v10 _ hw) (va_cwS 2 hts gX6_share_X6_divided rfl rfl rfl (by decide +kernel) ⟨Nat.le_of_ble_eq_true rfl, Nat.le_of_ble_eq_true rfl⟩) rfl hl.1 rfl (Nat.le_of_ble_eq_true rfl) dX6_share_127 ⟨Nat.zero_le _, Nat.zero_le _⟩ (fun r127 H locs hw hP hS => ?_)
    exact hret _ _ _ _ _ _ hP hS hw dX6_share_130
  unfold kX6_share at hw
  refine lv_iload_n hx hb dX6_share_0 rfl (lv_at hl 1 rfl) ?_
  refine xSi0 (As := [.int v1]) (rest := []) hst hE hP hS ⟨hx, hb, hml, hown, hts⟩ (mX6_isYear l D h cI cJ t0 hh S L v1 _ hw) (va_cwS 1 hts gX6_share_X6_isYear rfl rfl rfl (by decide +kernel) ⟨Nat.le_of_ble_eq_true rfl, Nat.le_of_ble_eq_true rfl⟩) rfl hl.1 rfl (Nat.le_of_ble_eq_true rfl) dX6_share_1 ⟨Nat.zero_le _, Nat.zero_le _⟩ (fun r1 H locs hw hP hS => ?_)
  refine lv_if_eq (tgt := 26) hx hb dX6_share_4 (by decide) (fun hc => ?_) (fun hc => ?_)
  · replace hw := And.left hw hc
    refine lv_ldc2 (v := (-1 : Int64)) hx hb hown (f0) dX6_share_26 ?_
    exact hret _ _ _ _ _ _ hP hS hw dX6_share_29
  · replace hw := And.right hw hc
    refine lv_iload_n hx hb dX6_share_7 rfl (lv_at hl 2 rfl) ?_
    refine xSi0 (As := [.int v2]) (rest := []) hst hE hP hS ⟨hx, hb, hml, hown, hts⟩ (mX6_isTop l D h cI cJ t0 hh S L v2 _ hw) (va_cwS 1 hts gX6_share_X6_isTop rfl rfl rfl (by decide +kernel) ⟨Nat.le_of_ble_eq_true rfl, Nat.le_of_ble_eq_true rfl⟩) rfl hl.1 rfl (Nat.le_of_ble_eq_true rfl) dX6_share_8 ⟨Nat.zero_le _, Nat.zero_le _⟩ (fun r8 H locs hw hP hS => ?_)
    refine lv_if_eq (tgt := 26) hx hb dX6_share_11 (by decide) (fun hc => ?_) (fun hc => ?_)
    · replace hw := And.left hw hc
      refine lv_ldc2 (v := (-1 : Int64)) hx hb hown (f0) dX6_share_26 ?_
      exact hret _ _ _ _ _ _ hP hS hw dX6_share_29
    · replace hw := And.right hw hc
      refine lv_iload_n hx hb dX6_share_14 rfl (lv_at hl 3 rfl) ?_
      refine lv_i2l hx hb dX6_share_15 rfl ?_
      refine lv_lconst (v := (0 : Int64)) hx hb dX6_share_16 (by decide) ?_
      refine lv_ldc2 (v := (2 : Int64)) hx hb hown (f1) dX6_share_17 ?_
      refine xSi0 (As := [.long v3.toInt64, .long (0 : Int64), .long (2 : Int64)]) (rest := []) hst hE hP hS ⟨hx, hb, hml, hown, hts⟩ (mX6_isWithin l D h cI cJ t0 hh S L v3.toInt64 (0 : Int64) (2 : Int64) _ hw) (va_cwS 3 hts gX6_share_X6_isWithin rfl rfl rfl (by decide +kernel) ⟨Nat.le_of_ble_eq_true rfl, Nat.le_of_ble_eq_true rfl⟩) rfl hl.1 rfl (Nat.le_of_ble_eq_true rfl) dX6_share_20 ⟨Nat.zero_le _, Nat.zero_le _⟩ (fun r20 H locs hw hP hS => ?_)
      refine lv_if_ne (tgt := 30) hx hb dX6_share_23 (by decide) (fun hc => ?_) (fun hc => ?_)
      · replace hw := And.right hw hc
        refine lv_aload_n hx hb dX6_share_30 rfl (lv_at hl 0 rfl) ?_
        refine va_get (D := D) (ci := 6) (v := .ref (h 33)) (C := RX6) (T := TX6) (N := 8) hx hb hts inX6 hown hK hP 0 wX_0 rfl 3 (by decide) f2 (fun _ h9 => h9) rfl dX6_share_31 ?_
        refine lv_aload_n hx hb dX6_share_34 rfl (lv_at hl 0 rfl) ?_
        refine va_get (D := D) (ci := 6) (v := .ref (h 1)) (C := RX6) (T := TX6) (N := 8) hx hb hts inX6 hown hK hP 0 wX_0 rfl 0 (by decide) f4 (fun _ h9 => h9) rfl dX6_share_35 ?_
        refine lv_iload_n hx hb dX6_share_38 rfl (lv_at hl 1 rfl) ?_
        refine lv_iload_n hx hb dX6_share_39 rfl (lv_at hl 1 rfl) ?_
        refine xVv1 (As := [.ref (h 1), .int v1, .int v1]) (rest := []) hst hE hP hS ⟨hx, hb, hml, hown, hts⟩ (va_recv hK hP (ci := 1) (q := (RX1, TX1, 4)) rfl wX_33) (mX1_gather l D h cI cJ t0 hh S L v1 v1 _ hw) (cwV 3 hts gX6_share_X1_gather rfl rfl rfl (by decide +kernel) ⟨Nat.le_of_ble_eq_true rfl, Nat.le_of_ble_eq_true rfl⟩) rfl hl.1 rfl (Nat.le_of_ble_eq_true rfl) dX6_share_40 ⟨Nat.zero_le _, Nat.zero_le _⟩ (fun S40 H locs hw hP hS => ?_)
        refine lv_aload_n hx hb dX6_share_43 rfl (lv_at hl 0 rfl) ?_
        refine va_get (D := D) (ci := 6) (v := .ref (h 33)) (C := RX6) (T := TX6) (N := 8) hx hb hts inX6 hown hK hP 0 wX_0 rfl 3 (by decide) f2 (fun _ h9 => h9) rfl dX6_share_44 ?_
        refine lv_iconst (v := (-1 : Int32)) hx hb dX6_share_47 (by decide) ?_
        refine xVl0 (As := [.int (-1 : Int32)]) (rest := []) hst hE hP hS ⟨hx, hb, hml, hown, hts⟩ (va_recv hK hP (ci := 1) (q := (RX1, TX1, 4)) rfl wX_33) (mX1_sumAll l D h cI cJ t0 hh S40 L (-1 : Int32) _ hw) (cwV 1 hts gX6_share_X1_sumAll rfl rfl rfl (by decide +kernel) ⟨Nat.le_of_ble_eq_true rfl, Nat.le_of_ble_eq_true rfl⟩) rfl hl.1 rfl (Nat.le_of_ble_eq_true rfl) dX6_share_48 ⟨Nat.zero_le _, Nat.zero_le _⟩ (fun r48 H locs hw hP hS => ?_)
        refine lv_lstore (lv' := [(4, .long r48), (0, .ref (h 0)), (1, .int v1), (2, .int v2), (3, .int v3)]) hx hb dX6_share_51 hl (by decide) rfl (fun ls hl => ?_)
        refine lv_lload hx hb dX6_share_53 (lv_at hl 0 rfl) ?_
        refine lv_lconst (v := (0 : Int64)) hx hb dX6_share_55 (by decide) ?_
        refine W.lcmp hx hb dX6_share_56 ?_
        refine lv_if_ne (tgt := 64) hx hb dX6_share_57 (by decide) (fun hc => ?_) (fun hc => ?_)
        · replace hw := And.right hw (fun q => hc ((lg_cmp_eq _ _).mpr q))
          refine lv_aload_n hx hb dX6_share_64 rfl (lv_at hl 1 rfl) ?_
          refine va_get (D := D) (ci := 6) (v := .ref (h 33)) (C := RX6) (T := TX6) (N := 8) hx hb hts inX6 hown hK hP 0 wX_0 rfl 3 (by decide) f2 (fun _ h9 => h9) rfl dX6_share_65 ?_
          refine lv_aload_n hx hb dX6_share_68 rfl (lv_at hl 1 rfl) ?_
          refine va_get (D := D) (ci := 6) (v := .ref (h 1)) (C := RX6) (T := TX6) (N := 8) hx hb hts inX6 hown hK hP 0 wX_0 rfl 0 (by decide) f4 (fun _ h9 => h9) rfl dX6_share_69 ?_
          refine lv_iload_n hx hb dX6_share_72 rfl (lv_at hl 2 rfl) ?_
          refine lv_iload_n hx hb dX6_share_73 rfl (lv_at hl 3 rfl) ?_
          refine xVl0 (As := [.int v1, .int v2]) (rest := [.ref (h 33)]) hst hE hP hS ⟨hx, hb, hml, hown, hts⟩ (va_recv hK hP (ci := 5) (q := (RX5, TX5, 10)) rfl wX_1) (mX5_topRoom l D h cI cJ t0 hh S40 L v1 v2 _ hw) (cwV 2 hts gX6_share_X5_topRoom rfl rfl rfl (by decide +kernel) ⟨Nat.le_of_ble_eq_true rfl, Nat.le_of_ble_eq_true rfl⟩) rfl hl.1 rfl (Nat.le_of_ble_eq_true rfl) dX6_share_74 ⟨Nat.zero_le _, Nat.zero_le _⟩ (fun r74 H locs hw hP hS => ?_)
          refine lv_iconst (v := (-1 : Int32)) hx hb dX6_share_77 (by decide) ?_
          refine xVl0 (As := [.long r74, .int (-1 : Int32)]) (rest := []) hst hE hP hS ⟨hx, hb, hml, hown, hts⟩ (va_recv hK hP (ci := 1) (q := (RX1, TX1, 4)) rfl wX_33) (mX1_sumTop l D h cI cJ t0 hh S40 L r74 (-1 : Int32) _ hw) (cwV 2 hts gX6_share_X1_sumTop rfl rfl rfl (by decide +kernel) ⟨Nat.le_of_ble_eq_true rfl, Nat.le_of_ble_eq_true rfl⟩) rfl hl.1 rfl (Nat.le_of_ble_eq_true rfl) dX6_share_78 ⟨Nat.zero_le _, Nat.zero_le _⟩ (fun r78 H locs hw hP hS => ?_)
          refine lv_lstore (lv' := [(6, .long r78), (4, .long r48), (0, .ref (h 0)), (1, .int v1), (2, .int v2), (3, .int v3)]) hx hb dX6_share_81 hl (by decide) rfl (fun ls hl => ?_)
          refine lv_ldc2 (v := (10 : Int64)) hx hb hown (f5) dX6_share_83 ?_
          refine lv_lload hx hb dX6_share_86 (lv_at hl 1 rfl) ?_
          refine lv_lmul hx hb dX6_share_88 ?_
          refine lv_lstore (lv' := [(8, .long ((10 : Int64) * r48)), (6, .long r78), (4, .long r48), (0, .ref (h 0)), (1, .int v1), (2, .int v2), (3, .int v3)]) hx hb dX6_share_89 hl (by decide) rfl (fun ls hl => ?_)
          refine lv_iload_n hx hb dX6_share_91 rfl (lv_at hl 6 rfl) ?_
          refine lv_iconst (v := (2 : Int32)) hx hb dX6_share_92 (by decide) ?_
          refine lv_icmp_ne (tgt := 105) hx hb dX6_share_93 (by decide) (fun hc => ?_) (fun hc => ?_)
          · replace hw := And.right hw hc
            refine lv_lload hx hb dX6_share_105 (lv_at hl 1 rfl) ?_
            refine lv_lload hx hb dX6_share_107 (lv_at hl 0 rfl) ?_
            refine xSl0 (As := [.long r78, .long ((10 : Int64) * r48)]) (rest := []) hst hE hP hS ⟨hx, hb, hml, hown, hts⟩ (mX6_commonDivisor l D h cI cJ t0 hh S40 L r78 ((10 : Int64) * r48) _ hw) (va_cwS 2 hts gX6_share_X6_commonDivisor rfl rfl rfl (by decide +kernel) ⟨Nat.le_of_ble_eq_true rfl, Nat.le_of_ble_eq_true rfl⟩) rfl hl.1 rfl (Nat.le_of_ble_eq_true rfl) dX6_share_109 ⟨Nat.zero_le _, Nat.zero_le _⟩ (fun r109 H locs hw hP hS => ?_)
            refine lv_lstore (lv' := [(10, .long r109), (8, .long ((10 : Int64) * r48)), (6, .long r78), (4, .long r48), (0, .ref (h 0)), (1, .int v1), (2, .int v2), (3, .int v3)]) hx hb dX6_share_112 hl (by decide) rfl (fun ls hl => ?_)
            refine lv_iload_n hx hb dX6_share_114 rfl (lv_at hl 7 rfl) ?_
            refine lv_if_ne (tgt := 123) hx hb dX6_share_115 (by decide) (fun hc => ?_) (fun hc => ?_)
            · replace hw := And.right hw hc
              refine lv_lload hx hb dX6_share_123 (lv_at hl 1 rfl) ?_
              exact b125 r109 ((10 : Int64) * r48) S40 _ _ _ (lv_sub hl [0] rfl) hP hS hw
            · replace hw := And.left hw hc
              refine lv_lload hx hb dX6_share_118 (lv_at hl 2 rfl) ?_
              refine lv_goto (tgt := 125) hx hb dX6_share_120 (by decide) ?_
              exact b125 r109 r78 S40 _ _ _ (lv_sub hl [0] rfl) hP hS hw
          · replace hw := And.left hw hc
            refine lv_lload hx hb dX6_share_96 (lv_at hl 1 rfl) ?_
            refine lv_lload hx hb dX6_share_98 (lv_at hl 2 rfl) ?_
            refine xSi0 (As := [.long r78, .long r48]) (rest := []) hst hE hP hS ⟨hx, hb, hml, hown, hts⟩ (mX6_parts l D h cI cJ t0 hh S40 L r78 r48 _ hw) (va_cwS 2 hts gX6_share_X6_parts rfl rfl rfl (by decide +kernel) ⟨Nat.le_of_ble_eq_true rfl, Nat.le_of_ble_eq_true rfl⟩) rfl hl.1 rfl (Nat.le_of_ble_eq_true rfl) dX6_share_100 ⟨Nat.zero_le _, Nat.zero_le _⟩ (fun r100 H locs hw hP hS => ?_)
            refine lv_i2l hx hb dX6_share_103 rfl ?_
            exact hret _ _ _ _ _ _ hP hS hw dX6_share_104
        · replace hw := And.left hw ((lg_cmp_eq _ _).mp hc)
          refine lv_ldc2 (v := (-4 : Int64)) hx hb hown (f6) dX6_share_60 ?_
          exact hret _ _ _ _ _ _ hP hS hw dX6_share_63
      · replace hw := And.left hw hc
        refine lv_ldc2 (v := (-1 : Int64)) hx hb hown (f0) dX6_share_26 ?_
        exact hret _ _ _ _ _ _ hP hS hw dX6_share_29
abbrev rX6_noneAsZero : Room := { frames := 0, cells := 0, slots := 0, locals := 0 }
set_option maxHeartbeats 4000000 in
set_option maxRecDepth 100000 in
theorem mX6_noneAsZero (l : Launch) (D : va_G) (h : Nat → Nat) (cI cJ : ClassId) (t0 : Nat) (hh : xdis 53 h) (S : SX) (L : LX) (v0 : Int32) (post : Int32 → Prop) (hw : kX6_noneAsZero S L v0 post) : Met l yX6_noneAsZero wsX6_noneAsZero rX6_noneAsZero (xPre D (wX h cI cJ) (xE D h cI cJ t0) S L [.int v0]) (va_Qi (fun (r : Int32) (u : SX × LX) => post r ∧ u.1 = S ∧ u.2 = L) (xB D (wX h cI cJ)) (xA 53 h)) 0 0 (xA 53 h) := by
  refine Met.ofW (cc := cX6_noneAsZero) (maxL := 1) (ret := (some .int)) (by decide) rfl ?_
  intro p e s m args below meth c s₁ B hml hv
  obtain ⟨hargs, hP, hE⟩ := hv
  have hx := B.exec
  have hb := B.bytes
  have hr := B.returns
  have hlocks := B.notSynchronized
  have hts := atoms_spec (ws := wsX6_noneAsZero) B.pre
  have hown : s.vm.findClass RX6 = some m.cls := findClass_of_methodNamed B.named
  have hS : va_S (xA 53 h) s.heap s.heap [] := va_S.rf
  have hD : ∀ (S : SX) (L : LX), va_D (xA 53 h) (wX h cI cJ S L) := fun S L => wX_D hh cI cJ S L
  have hK := hE.1
  have hst : xSt (xA 53 h) (xE D h cI cJ t0) := xE_st D h cI cJ t0
  skip
  have hl := lv_entry ([.int v0]) (n := 1) (Nat.le_of_ble_eq_true rfl)
  have hen : entryFrame m args 1 = F0 m 0 ((lg_sl ([.int v0]) ++ List.replicate (1 - (lg_sl ([.int v0])).length) Slot.unset).toArray) [] := by rw [hargs]; exact lg_entry_eq m _ _
  rw [hen]
  generalize (lg_sl ([.int v0]) ++ List.replicate (1 - (lg_sl ([.int v0])).length) Slot.unset).toArray = ls at hl ⊢
  have hl : lv_has ls 1 [(0, .int v0)] := hl
  change W p l e rX6_noneAsZero s m args below meth c s.heap [] 0 0 (MQ below (va_Qi (fun (r : Int32) (u : SX × LX) => post r ∧ u.1 = S ∧ u.2 = L) (xB D (wX h cI cJ)) (xA 53 h)) args s 0 0 (xA 53 h)) (F0 m 0 ls [])
  have hret : ∀ (r : Int32) (H : Heap) (locs : List Loc) (ls : Array Slot) (pc : Nat), va_P D vwCl (wX h cI cJ S L) H → va_S (xA 53 h) s.heap H locs → post r → decode cX6_noneAsZero pc = .ok (.ireturn, 1) → W p l e rX6_noneAsZero s m args below meth c H locs 0 0 (MQ below (va_Qi (fun (r : Int32) (u : SX × LX) => post r ∧ u.1 = S ∧ u.2 = L) (xB D (wX h cI cJ)) (xA 53 h)) args s 0 0 (xA 53 h)) (F0 m pc ls [.int r]) := fun r H locs ls pc hP hS hw hd => W.iret hx hb hr (fun t ht hW => ⟨⟨r, (S, L), rfl, ⟨hw, rfl, rfl⟩, show va_P D vwCl (wX h cI cJ S L) t.heap by rw [ht]; exact hP⟩, hS.F ht⟩) hS.2.2 hd
  generalize MQ below (va_Qi (fun (r : Int32) (u : SX × LX) => post r ∧ u.1 = S ∧ u.2 = L) (xB D (wX h cI cJ)) (xA 53 h)) args s 0 0 (xA 53 h) = Q at hret ⊢
  unfold kX6_noneAsZero at hw
  refine lv_iload_n hx hb dX6_noneAsZero_0 rfl (lv_at hl 0 rfl) ?_
  refine lv_bipush (v := (-4 : Int32)) hx hb dX6_noneAsZero_1 (by decide) ?_
  refine lv_icmp_ne (tgt := 10) hx hb dX6_noneAsZero_3 (by decide) (fun hc => ?_) (fun hc => ?_)
  · replace hw := And.right hw hc
    refine lv_iload_n hx hb dX6_noneAsZero_10 rfl (lv_at hl 0 rfl) ?_
    exact hret _ _ _ _ _ hP hS hw dX6_noneAsZero_11
  · replace hw := And.left hw hc
    refine lv_iconst (v := (0 : Int32)) hx hb dX6_noneAsZero_6 (by decide) ?_
    refine lv_goto (tgt := 11) hx hb dX6_noneAsZero_7 (by decide) ?_
    exact hret _ _ _ _ _ hP hS hw dX6_noneAsZero_11
abbrev rX6_maker : Room := { frames := 5, cells := 0, slots := 0, locals := 117 }
set_option maxHeartbeats 4000000 in
set_option maxRecDepth 100000 in
theorem mX6_maker (l : Launch) (D : va_G) (h : Nat → Nat) (cI cJ : ClassId) (t0 : Nat) (hh : xdis 53 h) (S : SX) (L : LX) (v1 : Int32) (v2 : Int32) (v3 : Int32) (post : Int32 → SX → Prop) (hw : kX6_maker S L v1 v2 v3 post) : Met l yX6_maker wsX6_maker rX6_maker (xPre D (wX h cI cJ) (xE D h cI cJ t0) S L [.ref (h 0), .int v1, .int v2, .int v3]) (va_Qi (fun (r : Int32) (u : SX × LX) => post r u.1 ∧ u.2 = L) (xB D (wX h cI cJ)) (xA 53 h)) 0 0 (xA 53 h) := by
  refine Met.ofW (cc := cX6_maker) (maxL := 14) (ret := (some .int)) (by decide) rfl ?_
  intro p e s m args below meth c s₁ B hml hv
  obtain ⟨hargs, hP, hE⟩ := hv
  have hx := B.exec
  have hb := B.bytes
  have hr := B.returns
  have hlocks := B.notSynchronized
  have hts := atoms_spec (ws := wsX6_maker) B.pre
  have hown : s.vm.findClass RX6 = some m.cls := findClass_of_methodNamed B.named
  have hS : va_S (xA 53 h) s.heap s.heap [] := va_S.rf
  have hD : ∀ (S : SX) (L : LX), va_D (xA 53 h) (wX h cI cJ S L) := fun S L => wX_D hh cI cJ S L
  have hK := hE.1
  have hst : xSt (xA 53 h) (xE D h cI cJ t0) := xE_st D h cI cJ t0
  have f0 := hts (.fieldLink RX6 22 "BookOfWills" "living" "LBookOfWills$Living;") (by decide +kernel)
  have inX6 : ∀ w ∈ u_ws RX6 TX6 8, w ∈ wsX6_maker := fun w hw9 => List.mem_cons_of_mem _ (List.mem_append_left _ (List.mem_append_left _ (List.mem_append_left _ (List.mem_append_left _ (List.mem_append_right _ hw9)))))
  have f2 := hts (.fieldLink RX6 267 "BookOfWills$Living" "size" "I") (by decide +kernel)
  have inX1 : ∀ w ∈ u_ws RX1 TX1 4, w ∈ wsX6_maker := fun w hw9 => List.mem_cons_of_mem _ (List.mem_append_left _ (List.mem_append_left _ (List.mem_append_left _ (List.mem_append_right _ hw9))))
  have f4 := hts (.fieldLink RX6 268 "BookOfWills$Living" "number" "[I") (by decide +kernel)
  have f5 := hts (.methodLink RX6 274 Lib.Math.abs.name) (by decide +kernel)
  have f6 := hts (.static Lib.Math.abs.name) (by decide +kernel)
  have f7 := hts (.initialized "java/lang/Math") (by decide +kernel)
  have f8 := hts (.code Lib.Math.abs.name Lib.Math.abs.code 1 (some .int)) (by decide +kernel)
  have f9 := hts (.fieldLink RX6 10 "BookOfWills" "world" "LBookOfWills$World;") (by decide +kernel)
  have hl := lv_entry ([.ref (h 0), .int v1, .int v2, .int v3]) (n := 14) (Nat.le_of_ble_eq_true rfl)
  have hen : entryFrame m args 14 = F0 m 0 ((lg_sl ([.ref (h 0), .int v1, .int v2, .int v3]) ++ List.replicate (14 - (lg_sl ([.ref (h 0), .int v1, .int v2, .int v3])).length) Slot.unset).toArray) [] := by rw [hargs]; exact lg_entry_eq m _ _
  rw [hen]
  generalize (lg_sl ([.ref (h 0), .int v1, .int v2, .int v3]) ++ List.replicate (14 - (lg_sl ([.ref (h 0), .int v1, .int v2, .int v3])).length) Slot.unset).toArray = ls at hl ⊢
  have hl : lv_has ls 14 [(0, .ref (h 0)), (1, .int v1), (2, .int v2), (3, .int v3)] := hl
  change W p l e rX6_maker s m args below meth c s.heap [] 0 0 (MQ below (va_Qi (fun (r : Int32) (u : SX × LX) => post r u.1 ∧ u.2 = L) (xB D (wX h cI cJ)) (xA 53 h)) args s 0 0 (xA 53 h)) (F0 m 0 ls [])
  have hret : ∀ (r : Int32) (S1 : SX) (H : Heap) (locs : List Loc) (ls : Array Slot) (pc : Nat), va_P D vwCl (wX h cI cJ S1 L) H → va_S (xA 53 h) s.heap H locs → post r S1 → decode cX6_maker pc = .ok (.ireturn, 1) → W p l e rX6_maker s m args below meth c H locs 0 0 (MQ below (va_Qi (fun (r : Int32) (u : SX × LX) => post r u.1 ∧ u.2 = L) (xB D (wX h cI cJ)) (xA 53 h)) args s 0 0 (xA 53 h)) (F0 m pc ls [.int r]) := fun r S1 H locs ls pc hP hS hw hd => W.iret hx hb hr (fun t ht hW => ⟨⟨r, (S1, L), rfl, ⟨hw, rfl⟩, show va_P D vwCl (wX h cI cJ S1 L) t.heap by rw [ht]; exact hP⟩, hS.F ht⟩) hS.2.2 hd
  generalize MQ below (va_Qi (fun (r : Int32) (u : SX × LX) => post r u.1 ∧ u.2 = L) (xB D (wX h cI cJ)) (xA 53 h)) args s 0 0 (xA 53 h) = Q at hret ⊢
  have b84 : ∀ (v4 : Int64) (v6 : Int32) (n84 : Nat) (v7 : Int32) (v8 : Int32) (v9 : Int32) (v10 : Int32) (S : SX) (H : Heap) (locs : List Loc) (ls : Array Slot), lv_has ls 14 [(0, .ref (h 0)), (3, .int v3), (4, .long v4), (6, .int v6), (7, .int v7), (8, .int v8), (9, .int v9), (10, .int v10)] → va_P D vwCl (wX h cI cJ S L) H → va_S (xA 53 h) s.heap H locs → kX6_maker_b84 L v1 v2 v3 v4 v6 post n84 v7 v8 v9 v10 S → W p l e rX6_maker s m args below meth c H locs 0 0 Q (F0 m 84 ls []) := by
    intro v4 v6 n84
    induction n84 with
    | zero => intro v7 v8 v9 v10 S H locs ls hl hP hS hw; exact absurd hw id
    | succ n84 i84 =>
      intro v7 v8 v9 v10 S H locs ls hl hP hS hw
      unfold kX6_maker_b84 at hw
      refine lv_iload hx hb dX6_maker_84 (lv_at hl 7 rfl) ?_
      refine lv_aload_n hx hb dX6_maker_86 rfl (lv_at hl 0 rfl) ?_
      refine va_get (D := D) (ci := 6) (v := .ref (h 33)) (C := RX6) (T := TX6) (N := 8) hx hb hts inX6 hown hK hP 0 wX_0 rfl 3 (by decide) f0 (fun _ h9 => h9) rfl dX6_maker_87 ?_
      refine va_get (D := D) (ci := 1) (v := .int (S 33 0)) (C := RX1) (T := TX1) (N := 4) hx hb hts inX1 hown hK hP 33 wX_33 rfl 0 (by decide) f2 (fun _ h9 => h9) rfl dX6_maker_90 ?_
      refine lv_icmp_ge (tgt := 173) hx hb dX6_maker_93 (by decide) (fun hc => ?_) (fun hc => ?_)
      · replace hw := And.left hw hc
        refine lv_iload_n hx hb dX6_maker_173 rfl (lv_at hl 1 rfl) ?_
        refine lv_if_ne (tgt := 182) hx hb dX6_maker_174 (by decide) (fun hc => ?_) (fun hc => ?_)
        · replace hw := And.right hw hc
          refine lv_iload hx hb dX6_maker_182 (lv_at hl 6 rfl) ?_
          exact hret _ _ _ _ _ _ hP hS hw dX6_maker_184
        · replace hw := And.left hw hc
          refine lv_iload hx hb dX6_maker_177 (lv_at hl 4 rfl) ?_
          refine lv_goto (tgt := 184) hx hb dX6_maker_179 (by decide) ?_
          exact hret _ _ _ _ _ _ hP hS hw dX6_maker_184
      · replace hw := And.right hw hc
        refine lv_aload_n hx hb dX6_maker_96 rfl (lv_at hl 0 rfl) ?_
        refine va_get (D := D) (ci := 6) (v := .ref (h 33)) (C := RX6) (T := TX6) (N := 8) hx hb hts inX6 hown hK hP 0 wX_0 rfl 3 (by decide) f0 (fun _ h9 => h9) rfl dX6_maker_97 ?_
        refine va_get (D := D) (ci := 1) (v := .ref (h 34)) (C := RX1) (T := TX1) (N := 4) hx hb hts inX1 hown hK hP 33 wX_33 rfl 1 (by decide) f4 (fun _ h9 => h9) rfl dX6_maker_100 ?_
        refine lv_iload hx hb dX6_maker_103 (lv_at hl 7 rfl) ?_
        obtain ⟨hi, hw⟩ := hw
        refine va_iald hx hb hK hP 34 0 wX_34 rfl hi dX6_maker_105 ?_
        refine lv_istore (lv' := [(11, .int (S 34 v10.toNatClampNeg)), (0, .ref (h 0)), (3, .int v3), (4, .long v4), (6, .int v6), (7, .int v7), (8, .int v8), (9, .int v9), (10, .int v10)]) hx hb dX6_maker_106 hl (by decide) rfl (fun ls hl => ?_)
        refine lv_aload_n hx hb dX6_maker_108 rfl (lv_at hl 1 rfl) ?_
        refine va_get (D := D) (ci := 6) (v := .ref (h 33)) (C := RX6) (T := TX6) (N := 8) hx hb hts inX6 hown hK hP 0 wX_0 rfl 3 (by decide) f0 (fun _ h9 => h9) rfl dX6_maker_109 ?_
        refine lv_lload hx hb dX6_maker_112 (lv_at hl 3 rfl) ?_
        refine lv_iload hx hb dX6_maker_114 (lv_at hl 0 rfl) ?_
        refine xVi0 (As := [.long v4, .int (S 34 v10.toNatClampNeg)]) (rest := []) hst hE hP hS ⟨hx, hb, hml, hown, hts⟩ (va_recv hK hP (ci := 1) (q := (RX1, TX1, 4)) rfl wX_33) (mX1_partsOfTop l D h cI cJ t0 hh S L v4 (S 34 v10.toNatClampNeg) _ hw) (cwV 2 hts gX6_maker_X1_partsOfTop rfl rfl rfl (by decide +kernel) ⟨Nat.le_of_ble_eq_true rfl, Nat.le_of_ble_eq_true rfl⟩) rfl hl.1 rfl (Nat.le_of_ble_eq_true rfl) dX6_maker_116 ⟨Nat.zero_le _, Nat.zero_le _⟩ (fun r116 H locs hw hP hS => ?_)
        refine xSi0 (As := [.int r116]) (rest := []) hst hE hP hS ⟨hx, hb, hml, hown, hts⟩ (mX6_noneAsZero l D h cI cJ t0 hh S L r116 _ hw) (va_cwS 1 hts gX6_maker_X6_noneAsZero rfl rfl rfl (by decide +kernel) ⟨Nat.le_of_ble_eq_true rfl, Nat.le_of_ble_eq_true rfl⟩) rfl hl.1 rfl (Nat.le_of_ble_eq_true rfl) dX6_maker_119 ⟨Nat.zero_le _, Nat.zero_le _⟩ (fun r119 H locs hw hP hS => ?_)
        refine lv_istore (lv' := [(12, .int r119), (11, .int (S 34 v10.toNatClampNeg)), (0, .ref (h 0)), (3, .int v3), (4, .long v4), (6, .int v6), (7, .int v7), (8, .int v8), (9, .int v9), (10, .int v10)]) hx hb dX6_maker_122 hl (by decide) rfl (fun ls hl => ?_)
        refine lv_iload hx hb dX6_maker_124 (lv_at hl 0 rfl) ?_
        refine lv_iload hx hb dX6_maker_126 (lv_at hl 5 rfl) ?_
        refine lv_isub hx hb dX6_maker_128 ?_
        refine va_mabs hx hb (hml.trans hl.1.symm) hown f5 f6 f7 f8 (Nat.le_of_ble_eq_true rfl) (Nat.le_of_ble_eq_true rfl) (Nat.zero_le _) (Nat.zero_le _) dX6_maker_129 ?_
        refine lv_istore (lv' := [(13, .int (if 0 ≤ (r119 - v6) then (r119 - v6) else 0 - (r119 - v6))), (12, .int r119), (11, .int (S 34 v10.toNatClampNeg)), (0, .ref (h 0)), (3, .int v3), (4, .long v4), (6, .int v6), (7, .int v7), (8, .int v8), (9, .int v9), (10, .int v10)]) hx hb dX6_maker_132 hl (by decide) rfl (fun ls hl => ?_)
        refine lv_iload hx hb dX6_maker_134 (lv_at hl 0 rfl) ?_
        refine lv_iload hx hb dX6_maker_136 (lv_at hl 8 rfl) ?_
        refine lv_icmp_gt (tgt := 155) hx hb dX6_maker_138 (by decide) (fun hc => ?_) (fun hc => ?_)
        · replace hw := And.left hw hc
          refine lv_iload hx hb dX6_maker_155 (lv_at hl 2 rfl) ?_
          refine lv_istore (lv' := [(7, .int (S 34 v10.toNatClampNeg)), (13, .int (if 0 ≤ (r119 - v6) then (r119 - v6) else 0 - (r119 - v6))), (12, .int r119), (11, .int (S 34 v10.toNatClampNeg)), (0, .ref (h 0)), (3, .int v3), (4, .long v4), (6, .int v6), (8, .int v8), (9, .int v9), (10, .int v10)]) hx hb dX6_maker_157 hl (by decide) rfl (fun ls hl => ?_)
          refine lv_iload hx hb dX6_maker_159 (lv_at hl 1 rfl) ?_
          refine lv_istore (lv' := [(8, .int (if 0 ≤ (r119 - v6) then (r119 - v6) else 0 - (r119 - v6))), (7, .int (S 34 v10.toNatClampNeg)), (13, .int (if 0 ≤ (r119 - v6) then (r119 - v6) else 0 - (r119 - v6))), (12, .int r119), (11, .int (S 34 v10.toNatClampNeg)), (0, .ref (h 0)), (3, .int v3), (4, .long v4), (6, .int v6), (9, .int v9), (10, .int v10)]) hx hb dX6_maker_161 hl (by decide) rfl (fun ls hl => ?_)
          refine lv_iload hx hb dX6_maker_163 (lv_at hl 3 rfl) ?_
          refine lv_istore (lv' := [(9, .int r119), (8, .int (if 0 ≤ (r119 - v6) then (r119 - v6) else 0 - (r119 - v6))), (7, .int (S 34 v10.toNatClampNeg)), (13, .int (if 0 ≤ (r119 - v6) then (r119 - v6) else 0 - (r119 - v6))), (12, .int r119), (11, .int (S 34 v10.toNatClampNeg)), (0, .ref (h 0)), (3, .int v3), (4, .long v4), (6, .int v6), (10, .int v10)]) hx hb dX6_maker_165 hl (by decide) rfl (fun ls hl => ?_)
          refine lv_iinc (v := v10 + (1 : Int32)) (lv' := [(10, .int (v10 + (1 : Int32))), (9, .int r119), (8, .int (if 0 ≤ (r119 - v6) then (r119 - v6) else 0 - (r119 - v6))), (7, .int (S 34 v10.toNatClampNeg)), (13, .int (if 0 ≤ (r119 - v6) then (r119 - v6) else 0 - (r119 - v6))), (12, .int r119), (11, .int (S 34 v10.toNatClampNeg)), (0, .ref (h 0)), (3, .int v3), (4, .long v4), (6, .int v6)]) hx hb dX6_maker_167 hl (k := 10) rfl rfl (by decide) rfl (fun ls hl => ?_)
          refine lv_goto (tgt := 84) hx hb dX6_maker_170 (by decide) ?_
          exact i84 (S 34 v10.toNatClampNeg) (if 0 ≤ (r119 - v6) then (r119 - v6) else 0 - (r119 - v6)) r119 (v10 + (1 : Int32)) S _ _ _ (lv_sub hl [7, 8, 9, 10, 3, 2, 1, 0] rfl) hP hS hw
        · replace hw := And.right hw hc
          refine lv_iload hx hb dX6_maker_141 (lv_at hl 0 rfl) ?_
          refine lv_iload hx hb dX6_maker_143 (lv_at hl 8 rfl) ?_
          refine lv_icmp_ne (tgt := 167) hx hb dX6_maker_145 (by decide) (fun hc => ?_) (fun hc => ?_)
          · replace hw := And.right hw hc
            refine lv_iinc (v := v10 + (1 : Int32)) (lv' := [(10, .int (v10 + (1 : Int32))), (13, .int (if 0 ≤ (r119 - v6) then (r119 - v6) else 0 - (r119 - v6))), (12, .int r119), (11, .int (S 34 v10.toNatClampNeg)), (0, .ref (h 0)), (3, .int v3), (4, .long v4), (6, .int v6), (7, .int v7), (8, .int v8), (9, .int v9)]) hx hb dX6_maker_167 hl (k := 10) rfl rfl (by decide) rfl (fun ls hl => ?_)
            refine lv_goto (tgt := 84) hx hb dX6_maker_170 (by decide) ?_
            exact i84 v7 v8 v9 (v10 + (1 : Int32)) S _ _ _ (lv_sub hl [4, 5, 6, 7, 8, 9, 10, 0] rfl) hP hS hw
          · replace hw := And.left hw hc
            refine lv_iload hx hb dX6_maker_148 (lv_at hl 2 rfl) ?_
            refine lv_iload hx hb dX6_maker_150 (lv_at hl 7 rfl) ?_
            refine lv_icmp_ge (tgt := 167) hx hb dX6_maker_152 (by decide) (fun hc => ?_) (fun hc => ?_)
            · replace hw := And.left hw hc
              refine lv_iinc (v := v10 + (1 : Int32)) (lv' := [(10, .int (v10 + (1 : Int32))), (13, .int (if 0 ≤ (r119 - v6) then (r119 - v6) else 0 - (r119 - v6))), (12, .int r119), (11, .int (S 34 v10.toNatClampNeg)), (0, .ref (h 0)), (3, .int v3), (4, .long v4), (6, .int v6), (7, .int v7), (8, .int v8), (9, .int v9)]) hx hb dX6_maker_167 hl (k := 10) rfl rfl (by decide) rfl (fun ls hl => ?_)
              refine lv_goto (tgt := 84) hx hb dX6_maker_170 (by decide) ?_
              exact i84 v7 v8 v9 (v10 + (1 : Int32)) S _ _ _ (lv_sub hl [4, 5, 6, 7, 8, 9, 10, 0] rfl) hP hS hw
            · replace hw := And.right hw hc
              refine lv_iload hx hb dX6_maker_155 (lv_at hl 2 rfl) ?_
              refine lv_istore (lv' := [(7, .int (S 34 v10.toNatClampNeg)), (13, .int (if 0 ≤ (r119 - v6) then (r119 - v6) else 0 - (r119 - v6))), (12, .int r119), (11, .int (S 34 v10.toNatClampNeg)), (0, .ref (h 0)), (3, .int v3), (4, .long v4), (6, .int v6), (8, .int v8), (9, .int v9), (10, .int v10)]) hx hb dX6_maker_157 hl (by decide) rfl (fun ls hl => ?_)
              refine lv_iload hx hb dX6_maker_159 (lv_at hl 1 rfl) ?_
              refine lv_istore (lv' := [(8, .int (if 0 ≤ (r119 - v6) then (r119 - v6) else 0 - (r119 - v6))), (7, .int (S 34 v10.toNatClampNeg)), (13, .int (if 0 ≤ (r119 - v6) then (r119 - v6) else 0 - (r119 - v6))), (12, .int r119), (11, .int (S 34 v10.toNatClampNeg)), (0, .ref (h 0)), (3, .int v3), (4, .long v4), (6, .int v6), (9, .int v9), (10, .int v10)]) hx hb dX6_maker_161 hl (by decide) rfl (fun ls hl => ?_)
              refine lv_iload hx hb dX6_maker_163 (lv_at hl 3 rfl) ?_
              refine lv_istore (lv' := [(9, .int r119), (8, .int (if 0 ≤ (r119 - v6) then (r119 - v6) else 0 - (r119 - v6))), (7, .int (S 34 v10.toNatClampNeg)), (13, .int (if 0 ≤ (r119 - v6) then (r119 - v6) else 0 - (r119 - v6))), (12, .int r119), (11, .int (S 34 v10.toNatClampNeg)), (0, .ref (h 0)), (3, .int v3), (4, .long v4), (6, .int v6), (10, .int v10)]) hx hb dX6_maker_165 hl (by decide) rfl (fun ls hl => ?_)
              refine lv_iinc (v := v10 + (1 : Int32)) (lv' := [(10, .int (v10 + (1 : Int32))), (9, .int r119), (8, .int (if 0 ≤ (r119 - v6) then (r119 - v6) else 0 - (r119 - v6))), (7, .int (S 34 v10.toNatClampNeg)), (13, .int (if 0 ≤ (r119 - v6) then (r119 - v6) else 0 - (r119 - v6))), (12, .int r119), (11, .int (S 34 v10.toNatClampNeg)), (0, .ref (h 0)), (3, .int v3), (4, .long v4), (6, .int v6)]) hx hb dX6_maker_167 hl (k := 10) rfl rfl (by decide) rfl (fun ls hl => ?_)
              refine lv_goto (tgt := 84) hx hb dX6_maker_170 (by decide) ?_
              exact i84 (S 34 v10.toNatClampNeg) (if 0 ≤ (r119 - v6) then (r119 - v6) else 0 - (r119 - v6)) r119 (v10 + (1 : Int32)) S _ _ _ (lv_sub hl [7, 8, 9, 10, 3, 2, 1, 0] rfl) hP hS hw
  unfold kX6_maker at hw
  refine lv_iload_n hx hb dX6_maker_0 rfl (lv_at hl 1 rfl) ?_
  refine xSi0 (As := [.int v1]) (rest := []) hst hE hP hS ⟨hx, hb, hml, hown, hts⟩ (mX6_isYear l D h cI cJ t0 hh S L v1 _ hw) (va_cwS 1 hts gX6_maker_X6_isYear rfl rfl rfl (by decide +kernel) ⟨Nat.le_of_ble_eq_true rfl, Nat.le_of_ble_eq_true rfl⟩) rfl hl.1 rfl (Nat.le_of_ble_eq_true rfl) dX6_maker_1 ⟨Nat.zero_le _, Nat.zero_le _⟩ (fun r1 H locs hw hP hS => ?_)
  refine lv_if_eq (tgt := 24) hx hb dX6_maker_4 (by decide) (fun hc => ?_) (fun hc => ?_)
  · replace hw := And.left hw hc
    refine lv_iconst (v := (-1 : Int32)) hx hb dX6_maker_24 (by decide) ?_
    exact hret _ _ _ _ _ _ hP hS hw dX6_maker_25
  · replace hw := And.right hw hc
    refine lv_iload_n hx hb dX6_maker_7 rfl (lv_at hl 2 rfl) ?_
    refine xSi0 (As := [.int v2]) (rest := []) hst hE hP hS ⟨hx, hb, hml, hown, hts⟩ (mX6_isTop l D h cI cJ t0 hh S L v2 _ hw) (va_cwS 1 hts gX6_maker_X6_isTop rfl rfl rfl (by decide +kernel) ⟨Nat.le_of_ble_eq_true rfl, Nat.le_of_ble_eq_true rfl⟩) rfl hl.1 rfl (Nat.le_of_ble_eq_true rfl) dX6_maker_8 ⟨Nat.zero_le _, Nat.zero_le _⟩ (fun r8 H locs hw hP hS => ?_)
    refine lv_if_eq (tgt := 24) hx hb dX6_maker_11 (by decide) (fun hc => ?_) (fun hc => ?_)
    · replace hw := And.left hw hc
      refine lv_iconst (v := (-1 : Int32)) hx hb dX6_maker_24 (by decide) ?_
      exact hret _ _ _ _ _ _ hP hS hw dX6_maker_25
    · replace hw := And.right hw hc
      refine lv_iload_n hx hb dX6_maker_14 rfl (lv_at hl 3 rfl) ?_
      refine lv_i2l hx hb dX6_maker_15 rfl ?_
      refine lv_lconst (v := (0 : Int64)) hx hb dX6_maker_16 (by decide) ?_
      refine lv_lconst (v := (1 : Int64)) hx hb dX6_maker_17 (by decide) ?_
      refine xSi0 (As := [.long v3.toInt64, .long (0 : Int64), .long (1 : Int64)]) (rest := []) hst hE hP hS ⟨hx, hb, hml, hown, hts⟩ (mX6_isWithin l D h cI cJ t0 hh S L v3.toInt64 (0 : Int64) (1 : Int64) _ hw) (va_cwS 3 hts gX6_maker_X6_isWithin rfl rfl rfl (by decide +kernel) ⟨Nat.le_of_ble_eq_true rfl, Nat.le_of_ble_eq_true rfl⟩) rfl hl.1 rfl (Nat.le_of_ble_eq_true rfl) dX6_maker_18 ⟨Nat.zero_le _, Nat.zero_le _⟩ (fun r18 H locs hw hP hS => ?_)
      refine lv_if_ne (tgt := 26) hx hb dX6_maker_21 (by decide) (fun hc => ?_) (fun hc => ?_)
      · replace hw := And.right hw hc
        refine lv_aload_n hx hb dX6_maker_26 rfl (lv_at hl 0 rfl) ?_
        refine va_get (D := D) (ci := 6) (v := .ref (h 33)) (C := RX6) (T := TX6) (N := 8) hx hb hts inX6 hown hK hP 0 wX_0 rfl 3 (by decide) f0 (fun _ h9 => h9) rfl dX6_maker_27 ?_
        refine lv_aload_n hx hb dX6_maker_30 rfl (lv_at hl 0 rfl) ?_
        refine va_get (D := D) (ci := 6) (v := .ref (h 1)) (C := RX6) (T := TX6) (N := 8) hx hb hts inX6 hown hK hP 0 wX_0 rfl 0 (by decide) f9 (fun _ h9 => h9) rfl dX6_maker_31 ?_
        refine lv_iload_n hx hb dX6_maker_34 rfl (lv_at hl 1 rfl) ?_
        refine lv_iload_n hx hb dX6_maker_35 rfl (lv_at hl 1 rfl) ?_
        refine xVv1 (As := [.ref (h 1), .int v1, .int v1]) (rest := []) hst hE hP hS ⟨hx, hb, hml, hown, hts⟩ (va_recv hK hP (ci := 1) (q := (RX1, TX1, 4)) rfl wX_33) (mX1_gather l D h cI cJ t0 hh S L v1 v1 _ hw) (cwV 3 hts gX6_maker_X1_gather rfl rfl rfl (by decide +kernel) ⟨Nat.le_of_ble_eq_true rfl, Nat.le_of_ble_eq_true rfl⟩) rfl hl.1 rfl (Nat.le_of_ble_eq_true rfl) dX6_maker_36 ⟨Nat.zero_le _, Nat.zero_le _⟩ (fun S36 H locs hw hP hS => ?_)
        refine lv_aload_n hx hb dX6_maker_39 rfl (lv_at hl 0 rfl) ?_
        refine va_get (D := D) (ci := 6) (v := .ref (h 1)) (C := RX6) (T := TX6) (N := 8) hx hb hts inX6 hown hK hP 0 wX_0 rfl 0 (by decide) f9 (fun _ h9 => h9) rfl dX6_maker_40 ?_
        refine lv_iload_n hx hb dX6_maker_43 rfl (lv_at hl 1 rfl) ?_
        refine lv_iload_n hx hb dX6_maker_44 rfl (lv_at hl 2 rfl) ?_
        refine xVl0 (As := [.int v1, .int v2]) (rest := []) hst hE hP hS ⟨hx, hb, hml, hown, hts⟩ (va_recv hK hP (ci := 5) (q := (RX5, TX5, 10)) rfl wX_1) (mX5_topRoom l D h cI cJ t0 hh S36 L v1 v2 _ hw) (cwV 2 hts gX6_maker_X5_topRoom rfl rfl rfl (by decide +kernel) ⟨Nat.le_of_ble_eq_true rfl, Nat.le_of_ble_eq_true rfl⟩) rfl hl.1 rfl (Nat.le_of_ble_eq_true rfl) dX6_maker_45 ⟨Nat.zero_le _, Nat.zero_le _⟩ (fun r45 H locs hw hP hS => ?_)
        refine lv_lstore (lv' := [(4, .long r45), (0, .ref (h 0)), (1, .int v1), (2, .int v2), (3, .int v3)]) hx hb dX6_maker_48 hl (by decide) rfl (fun ls hl => ?_)
        refine lv_aload_n hx hb dX6_maker_50 rfl (lv_at hl 1 rfl) ?_
        refine va_get (D := D) (ci := 6) (v := .ref (h 33)) (C := RX6) (T := TX6) (N := 8) hx hb hts inX6 hown hK hP 0 wX_0 rfl 3 (by decide) f0 (fun _ h9 => h9) rfl dX6_maker_51 ?_
        refine lv_lload hx hb dX6_maker_54 (lv_at hl 0 rfl) ?_
        refine lv_iconst (v := (-1 : Int32)) hx hb dX6_maker_56 (by decide) ?_
        refine xVi0 (As := [.long r45, .int (-1 : Int32)]) (rest := []) hst hE hP hS ⟨hx, hb, hml, hown, hts⟩ (va_recv hK hP (ci := 1) (q := (RX1, TX1, 4)) rfl wX_33) (mX1_partsOfTop l D h cI cJ t0 hh S36 L r45 (-1 : Int32) _ hw) (cwV 2 hts gX6_maker_X1_partsOfTop rfl rfl rfl (by decide +kernel) ⟨Nat.le_of_ble_eq_true rfl, Nat.le_of_ble_eq_true rfl⟩) rfl hl.1 rfl (Nat.le_of_ble_eq_true rfl) dX6_maker_57 ⟨Nat.zero_le _, Nat.zero_le _⟩ (fun r57 H locs hw hP hS => ?_)
        refine lv_istore (lv' := [(6, .int r57), (4, .long r45), (0, .ref (h 0)), (1, .int v1), (2, .int v2), (3, .int v3)]) hx hb dX6_maker_60 hl (by decide) rfl (fun ls hl => ?_)
        refine lv_iload hx hb dX6_maker_62 (lv_at hl 0 rfl) ?_
        refine lv_bipush (v := (-4 : Int32)) hx hb dX6_maker_64 (by decide) ?_
        refine lv_icmp_ne (tgt := 72) hx hb dX6_maker_66 (by decide) (fun hc => ?_) (fun hc => ?_)
        · replace hw := And.right hw hc
          refine lv_iconst (v := (-1 : Int32)) hx hb dX6_maker_72 (by decide) ?_
          refine lv_istore (lv' := [(7, .int (-1 : Int32)), (6, .int r57), (4, .long r45), (0, .ref (h 0)), (1, .int v1), (2, .int v2), (3, .int v3)]) hx hb dX6_maker_73 hl (by decide) rfl (fun ls hl => ?_)
          refine lv_iconst (v := (-1 : Int32)) hx hb dX6_maker_75 (by decide) ?_
          refine lv_istore (lv' := [(8, .int (-1 : Int32)), (7, .int (-1 : Int32)), (6, .int r57), (4, .long r45), (0, .ref (h 0)), (1, .int v1), (2, .int v2), (3, .int v3)]) hx hb dX6_maker_76 hl (by decide) rfl (fun ls hl => ?_)
          refine lv_iconst (v := (0 : Int32)) hx hb dX6_maker_78 (by decide) ?_
          refine lv_istore (lv' := [(9, .int (0 : Int32)), (8, .int (-1 : Int32)), (7, .int (-1 : Int32)), (6, .int r57), (4, .long r45), (0, .ref (h 0)), (1, .int v1), (2, .int v2), (3, .int v3)]) hx hb dX6_maker_79 hl (by decide) rfl (fun ls hl => ?_)
          refine lv_iconst (v := (0 : Int32)) hx hb dX6_maker_81 (by decide) ?_
          refine lv_istore (lv' := [(10, .int (0 : Int32)), (9, .int (0 : Int32)), (8, .int (-1 : Int32)), (7, .int (-1 : Int32)), (6, .int r57), (4, .long r45), (0, .ref (h 0)), (1, .int v1), (2, .int v2), (3, .int v3)]) hx hb dX6_maker_82 hl (by decide) rfl (fun ls hl => ?_)
          obtain ⟨n84, hw⟩ := hw
          exact b84 r45 r57 n84 (-1 : Int32) (-1 : Int32) (0 : Int32) (0 : Int32) S36 _ _ _ (lv_sub hl [6, 9, 5, 4, 3, 2, 1, 0] rfl) hP hS hw
        · replace hw := And.left hw hc
          refine lv_bipush (v := (-4 : Int32)) hx hb dX6_maker_69 (by decide) ?_
          exact hret _ _ _ _ _ _ hP hS hw dX6_maker_71
      · replace hw := And.left hw hc
        refine lv_iconst (v := (-1 : Int32)) hx hb dX6_maker_24 (by decide) ?_
        exact hret _ _ _ _ _ _ hP hS hw dX6_maker_25
abbrev rX6_span : Room := { frames := 5, cells := 0, slots := 0, locals := 117 }
set_option maxHeartbeats 4000000 in
set_option maxRecDepth 100000 in
theorem mX6_span (l : Launch) (D : va_G) (h : Nat → Nat) (cI cJ : ClassId) (t0 : Nat) (hh : xdis 53 h) (S : SX) (L : LX) (v1 : Int32) (v2 : Int32) (v3 : Int32) (post : Int32 → SX → Prop) (hw : kX6_span S L v1 v2 v3 post) : Met l yX6_span wsX6_span rX6_span (xPre D (wX h cI cJ) (xE D h cI cJ t0) S L [.ref (h 0), .int v1, .int v2, .int v3]) (va_Qi (fun (r : Int32) (u : SX × LX) => post r u.1 ∧ u.2 = L) (xB D (wX h cI cJ)) (xA 53 h)) 0 0 (xA 53 h) := by
  refine Met.ofW (cc := cX6_span) (maxL := 10) (ret := (some .int)) (by decide) rfl ?_
  intro p e s m args below meth c s₁ B hml hv
  obtain ⟨hargs, hP, hE⟩ := hv
  have hx := B.exec
  have hb := B.bytes
  have hr := B.returns
  have hlocks := B.notSynchronized
  have hts := atoms_spec (ws := wsX6_span) B.pre
  have hown : s.vm.findClass RX6 = some m.cls := findClass_of_methodNamed B.named
  have hS : va_S (xA 53 h) s.heap s.heap [] := va_S.rf
  have hD : ∀ (S : SX) (L : LX), va_D (xA 53 h) (wX h cI cJ S L) := fun S L => wX_D hh cI cJ S L
  have hK := hE.1
  have hst : xSt (xA 53 h) (xE D h cI cJ t0) := xE_st D h cI cJ t0
  have f0 := hts (.fieldLink RX6 22 "BookOfWills" "living" "LBookOfWills$Living;") (by decide +kernel)
  have inX6 : ∀ w ∈ u_ws RX6 TX6 8, w ∈ wsX6_span := fun w hw9 => List.mem_cons_of_mem _ (List.mem_append_left _ (List.mem_append_left _ (List.mem_append_left _ (List.mem_append_left _ (List.mem_append_right _ hw9)))))
  have f2 := hts (.fieldLink RX6 267 "BookOfWills$Living" "size" "I") (by decide +kernel)
  have inX1 : ∀ w ∈ u_ws RX1 TX1 4, w ∈ wsX6_span := fun w hw9 => List.mem_cons_of_mem _ (List.mem_append_left _ (List.mem_append_left _ (List.mem_append_left _ (List.mem_append_right _ hw9))))
  have f4 := hts (.fieldLink RX6 268 "BookOfWills$Living" "number" "[I") (by decide +kernel)
  have f5 := hts (.methodLink RX6 279 Lib.Math.min.name) (by decide +kernel)
  have f6 := hts (.static Lib.Math.min.name) (by decide +kernel)
  have f7 := hts (.initialized "java/lang/Math") (by decide +kernel)
  have f8 := hts (.code Lib.Math.min.name Lib.Math.min.code 2 (some .int)) (by decide +kernel)
  have f9 := hts (.methodLink RX6 282 Lib.Math.max.name) (by decide +kernel)
  have f10 := hts (.static Lib.Math.max.name) (by decide +kernel)
  have f11 := hts (.code Lib.Math.max.name Lib.Math.max.code 2 (some .int)) (by decide +kernel)
  have f12 := hts (.fieldLink RX6 10 "BookOfWills" "world" "LBookOfWills$World;") (by decide +kernel)
  have hl := lv_entry ([.ref (h 0), .int v1, .int v2, .int v3]) (n := 10) (Nat.le_of_ble_eq_true rfl)
  have hen : entryFrame m args 10 = F0 m 0 ((lg_sl ([.ref (h 0), .int v1, .int v2, .int v3]) ++ List.replicate (10 - (lg_sl ([.ref (h 0), .int v1, .int v2, .int v3])).length) Slot.unset).toArray) [] := by rw [hargs]; exact lg_entry_eq m _ _
  rw [hen]
  generalize (lg_sl ([.ref (h 0), .int v1, .int v2, .int v3]) ++ List.replicate (10 - (lg_sl ([.ref (h 0), .int v1, .int v2, .int v3])).length) Slot.unset).toArray = ls at hl ⊢
  have hl : lv_has ls 10 [(0, .ref (h 0)), (1, .int v1), (2, .int v2), (3, .int v3)] := hl
  change W p l e rX6_span s m args below meth c s.heap [] 0 0 (MQ below (va_Qi (fun (r : Int32) (u : SX × LX) => post r u.1 ∧ u.2 = L) (xB D (wX h cI cJ)) (xA 53 h)) args s 0 0 (xA 53 h)) (F0 m 0 ls [])
  have hret : ∀ (r : Int32) (S1 : SX) (H : Heap) (locs : List Loc) (ls : Array Slot) (pc : Nat), va_P D vwCl (wX h cI cJ S1 L) H → va_S (xA 53 h) s.heap H locs → post r S1 → decode cX6_span pc = .ok (.ireturn, 1) → W p l e rX6_span s m args below meth c H locs 0 0 (MQ below (va_Qi (fun (r : Int32) (u : SX × LX) => post r u.1 ∧ u.2 = L) (xB D (wX h cI cJ)) (xA 53 h)) args s 0 0 (xA 53 h)) (F0 m pc ls [.int r]) := fun r S1 H locs ls pc hP hS hw hd => W.iret hx hb hr (fun t ht hW => ⟨⟨r, (S1, L), rfl, ⟨hw, rfl⟩, show va_P D vwCl (wX h cI cJ S1 L) t.heap by rw [ht]; exact hP⟩, hS.F ht⟩) hS.2.2 hd
  generalize MQ below (va_Qi (fun (r : Int32) (u : SX × LX) => post r u.1 ∧ u.2 = L) (xB D (wX h cI cJ)) (xA 53 h)) args s 0 0 (xA 53 h) = Q at hret ⊢
  have b79 : ∀ (v4 : Int64) (n79 : Nat) (v6 : Int32) (v7 : Int32) (v8 : Int32) (S : SX) (H : Heap) (locs : List Loc) (ls : Array Slot), lv_has ls 10 [(0, .ref (h 0)), (3, .int v3), (4, .long v4), (6, .int v6), (7, .int v7), (8, .int v8)] → va_P D vwCl (wX h cI cJ S L) H → va_S (xA 53 h) s.heap H locs → kX6_span_b79 L v1 v2 v3 v4 post n79 v6 v7 v8 S → W p l e rX6_span s m args below meth c H locs 0 0 Q (F0 m 79 ls []) := by
    intro v4 n79
    induction n79 with
    | zero => intro v6 v7 v8 S H locs ls hl hP hS hw; exact absurd hw id
    | succ n79 i79 =>
      intro v6 v7 v8 S H locs ls hl hP hS hw
      unfold kX6_span_b79 at hw
      refine lv_iload hx hb dX6_span_79 (lv_at hl 5 rfl) ?_
      refine lv_aload_n hx hb dX6_span_81 rfl (lv_at hl 0 rfl) ?_
      refine va_get (D := D) (ci := 6) (v := .ref (h 33)) (C := RX6) (T := TX6) (N := 8) hx hb hts inX6 hown hK hP 0 wX_0 rfl 3 (by decide) f0 (fun _ h9 => h9) rfl dX6_span_82 ?_
      refine va_get (D := D) (ci := 1) (v := .int (S 33 0)) (C := RX1) (T := TX1) (N := 4) hx hb hts inX1 hown hK hP 33 wX_33 rfl 0 (by decide) f2 (fun _ h9 => h9) rfl dX6_span_85 ?_
      refine lv_icmp_ge (tgt := 139) hx hb dX6_span_88 (by decide) (fun hc => ?_) (fun hc => ?_)
      · replace hw := And.left hw hc
        refine lv_iload_n hx hb dX6_span_139 rfl (lv_at hl 1 rfl) ?_
        refine lv_if_ne (tgt := 148) hx hb dX6_span_140 (by decide) (fun hc => ?_) (fun hc => ?_)
        · replace hw := And.right hw hc
          refine lv_iload hx hb dX6_span_148 (lv_at hl 4 rfl) ?_
          exact hret _ _ _ _ _ _ hP hS hw dX6_span_150
        · replace hw := And.left hw hc
          refine lv_iload hx hb dX6_span_143 (lv_at hl 3 rfl) ?_
          refine lv_goto (tgt := 150) hx hb dX6_span_145 (by decide) ?_
          exact hret _ _ _ _ _ _ hP hS hw dX6_span_150
      · replace hw := And.right hw hc
        refine lv_aload_n hx hb dX6_span_91 rfl (lv_at hl 0 rfl) ?_
        refine va_get (D := D) (ci := 6) (v := .ref (h 33)) (C := RX6) (T := TX6) (N := 8) hx hb hts inX6 hown hK hP 0 wX_0 rfl 3 (by decide) f0 (fun _ h9 => h9) rfl dX6_span_92 ?_
        refine lv_lload hx hb dX6_span_95 (lv_at hl 2 rfl) ?_
        refine lv_aload_n hx hb dX6_span_97 rfl (lv_at hl 0 rfl) ?_
        refine va_get (D := D) (ci := 6) (v := .ref (h 33)) (C := RX6) (T := TX6) (N := 8) hx hb hts inX6 hown hK hP 0 wX_0 rfl 3 (by decide) f0 (fun _ h9 => h9) rfl dX6_span_98 ?_
        refine va_get (D := D) (ci := 1) (v := .ref (h 34)) (C := RX1) (T := TX1) (N := 4) hx hb hts inX1 hown hK hP 33 wX_33 rfl 1 (by decide) f4 (fun _ h9 => h9) rfl dX6_span_101 ?_
        refine lv_iload hx hb dX6_span_104 (lv_at hl 5 rfl) ?_
        obtain ⟨hi, hw⟩ := hw
        refine va_iald hx hb hK hP 34 0 wX_34 rfl hi dX6_span_106 ?_
        refine xVi0 (As := [.long v4, .int (S 34 v8.toNatClampNeg)]) (rest := []) hst hE hP hS ⟨hx, hb, hml, hown, hts⟩ (va_recv hK hP (ci := 1) (q := (RX1, TX1, 4)) rfl wX_33) (mX1_partsOfTop l D h cI cJ t0 hh S L v4 (S 34 v8.toNatClampNeg) _ hw) (cwV 2 hts gX6_span_X1_partsOfTop rfl rfl rfl (by decide +kernel) ⟨Nat.le_of_ble_eq_true rfl, Nat.le_of_ble_eq_true rfl⟩) rfl hl.1 rfl (Nat.le_of_ble_eq_true rfl) dX6_span_107 ⟨Nat.zero_le _, Nat.zero_le _⟩ (fun r107 H locs hw hP hS => ?_)
        refine xSi0 (As := [.int r107]) (rest := []) hst hE hP hS ⟨hx, hb, hml, hown, hts⟩ (mX6_noneAsZero l D h cI cJ t0 hh S L r107 _ hw) (va_cwS 1 hts gX6_span_X6_noneAsZero rfl rfl rfl (by decide +kernel) ⟨Nat.le_of_ble_eq_true rfl, Nat.le_of_ble_eq_true rfl⟩) rfl hl.1 rfl (Nat.le_of_ble_eq_true rfl) dX6_span_110 ⟨Nat.zero_le _, Nat.zero_le _⟩ (fun r110 H locs hw hP hS => ?_)
        refine lv_istore (lv' := [(9, .int r110), (0, .ref (h 0)), (3, .int v3), (4, .long v4), (6, .int v6), (7, .int v7), (8, .int v8)]) hx hb dX6_span_113 hl (by decide) rfl (fun ls hl => ?_)
        refine lv_iload hx hb dX6_span_115 (lv_at hl 4 rfl) ?_
        refine lv_iload hx hb dX6_span_117 (lv_at hl 0 rfl) ?_
        refine va_mmin hx hb (hml.trans hl.1.symm) hown f5 f6 f7 f8 (Nat.le_of_ble_eq_true rfl) (Nat.le_of_ble_eq_true rfl) (Nat.zero_le _) (Nat.zero_le _) dX6_span_119 ?_
        refine lv_istore (lv' := [(6, .int (if r110 < v6 then r110 else v6)), (9, .int r110), (0, .ref (h 0)), (3, .int v3), (4, .long v4), (7, .int v7), (8, .int v8)]) hx hb dX6_span_122 hl (by decide) rfl (fun ls hl => ?_)
        refine lv_iload hx hb dX6_span_124 (lv_at hl 5 rfl) ?_
        refine lv_iload hx hb dX6_span_126 (lv_at hl 1 rfl) ?_
        refine va_mmax hx hb (hml.trans hl.1.symm) hown f9 f10 f7 f11 (Nat.le_of_ble_eq_true rfl) (Nat.le_of_ble_eq_true rfl) (Nat.zero_le _) (Nat.zero_le _) dX6_span_128 ?_
        refine lv_istore (lv' := [(7, .int (if v7 < r110 then r110 else v7)), (6, .int (if r110 < v6 then r110 else v6)), (9, .int r110), (0, .ref (h 0)), (3, .int v3), (4, .long v4), (8, .int v8)]) hx hb dX6_span_131 hl (by decide) rfl (fun ls hl => ?_)
        refine lv_iinc (v := v8 + (1 : Int32)) (lv' := [(8, .int (v8 + (1 : Int32))), (7, .int (if v7 < r110 then r110 else v7)), (6, .int (if r110 < v6 then r110 else v6)), (9, .int r110), (0, .ref (h 0)), (3, .int v3), (4, .long v4)]) hx hb dX6_span_133 hl (k := 6) rfl rfl (by decide) rfl (fun ls hl => ?_)
        refine lv_goto (tgt := 79) hx hb dX6_span_136 (by decide) ?_
        exact i79 (if r110 < v6 then r110 else v6) (if v7 < r110 then r110 else v7) (v8 + (1 : Int32)) S _ _ _ (lv_sub hl [4, 5, 6, 2, 1, 0] rfl) hP hS hw
  unfold kX6_span at hw
  refine lv_iload_n hx hb dX6_span_0 rfl (lv_at hl 1 rfl) ?_
  refine xSi0 (As := [.int v1]) (rest := []) hst hE hP hS ⟨hx, hb, hml, hown, hts⟩ (mX6_isYear l D h cI cJ t0 hh S L v1 _ hw) (va_cwS 1 hts gX6_span_X6_isYear rfl rfl rfl (by decide +kernel) ⟨Nat.le_of_ble_eq_true rfl, Nat.le_of_ble_eq_true rfl⟩) rfl hl.1 rfl (Nat.le_of_ble_eq_true rfl) dX6_span_1 ⟨Nat.zero_le _, Nat.zero_le _⟩ (fun r1 H locs hw hP hS => ?_)
  refine lv_if_eq (tgt := 24) hx hb dX6_span_4 (by decide) (fun hc => ?_) (fun hc => ?_)
  · replace hw := And.left hw hc
    refine lv_iconst (v := (-1 : Int32)) hx hb dX6_span_24 (by decide) ?_
    exact hret _ _ _ _ _ _ hP hS hw dX6_span_25
  · replace hw := And.right hw hc
    refine lv_iload_n hx hb dX6_span_7 rfl (lv_at hl 2 rfl) ?_
    refine xSi0 (As := [.int v2]) (rest := []) hst hE hP hS ⟨hx, hb, hml, hown, hts⟩ (mX6_isTop l D h cI cJ t0 hh S L v2 _ hw) (va_cwS 1 hts gX6_span_X6_isTop rfl rfl rfl (by decide +kernel) ⟨Nat.le_of_ble_eq_true rfl, Nat.le_of_ble_eq_true rfl⟩) rfl hl.1 rfl (Nat.le_of_ble_eq_true rfl) dX6_span_8 ⟨Nat.zero_le _, Nat.zero_le _⟩ (fun r8 H locs hw hP hS => ?_)
    refine lv_if_eq (tgt := 24) hx hb dX6_span_11 (by decide) (fun hc => ?_) (fun hc => ?_)
    · replace hw := And.left hw hc
      refine lv_iconst (v := (-1 : Int32)) hx hb dX6_span_24 (by decide) ?_
      exact hret _ _ _ _ _ _ hP hS hw dX6_span_25
    · replace hw := And.right hw hc
      refine lv_iload_n hx hb dX6_span_14 rfl (lv_at hl 3 rfl) ?_
      refine lv_i2l hx hb dX6_span_15 rfl ?_
      refine lv_lconst (v := (0 : Int64)) hx hb dX6_span_16 (by decide) ?_
      refine lv_lconst (v := (1 : Int64)) hx hb dX6_span_17 (by decide) ?_
      refine xSi0 (As := [.long v3.toInt64, .long (0 : Int64), .long (1 : Int64)]) (rest := []) hst hE hP hS ⟨hx, hb, hml, hown, hts⟩ (mX6_isWithin l D h cI cJ t0 hh S L v3.toInt64 (0 : Int64) (1 : Int64) _ hw) (va_cwS 3 hts gX6_span_X6_isWithin rfl rfl rfl (by decide +kernel) ⟨Nat.le_of_ble_eq_true rfl, Nat.le_of_ble_eq_true rfl⟩) rfl hl.1 rfl (Nat.le_of_ble_eq_true rfl) dX6_span_18 ⟨Nat.zero_le _, Nat.zero_le _⟩ (fun r18 H locs hw hP hS => ?_)
      refine lv_if_ne (tgt := 26) hx hb dX6_span_21 (by decide) (fun hc => ?_) (fun hc => ?_)
      · replace hw := And.right hw hc
        refine lv_aload_n hx hb dX6_span_26 rfl (lv_at hl 0 rfl) ?_
        refine va_get (D := D) (ci := 6) (v := .ref (h 33)) (C := RX6) (T := TX6) (N := 8) hx hb hts inX6 hown hK hP 0 wX_0 rfl 3 (by decide) f0 (fun _ h9 => h9) rfl dX6_span_27 ?_
        refine lv_aload_n hx hb dX6_span_30 rfl (lv_at hl 0 rfl) ?_
        refine va_get (D := D) (ci := 6) (v := .ref (h 1)) (C := RX6) (T := TX6) (N := 8) hx hb hts inX6 hown hK hP 0 wX_0 rfl 0 (by decide) f12 (fun _ h9 => h9) rfl dX6_span_31 ?_
        refine lv_iload_n hx hb dX6_span_34 rfl (lv_at hl 1 rfl) ?_
        refine lv_iload_n hx hb dX6_span_35 rfl (lv_at hl 1 rfl) ?_
        refine xVv1 (As := [.ref (h 1), .int v1, .int v1]) (rest := []) hst hE hP hS ⟨hx, hb, hml, hown, hts⟩ (va_recv hK hP (ci := 1) (q := (RX1, TX1, 4)) rfl wX_33) (mX1_gather l D h cI cJ t0 hh S L v1 v1 _ hw) (cwV 3 hts gX6_span_X1_gather rfl rfl rfl (by decide +kernel) ⟨Nat.le_of_ble_eq_true rfl, Nat.le_of_ble_eq_true rfl⟩) rfl hl.1 rfl (Nat.le_of_ble_eq_true rfl) dX6_span_36 ⟨Nat.zero_le _, Nat.zero_le _⟩ (fun S36 H locs hw hP hS => ?_)
        refine lv_aload_n hx hb dX6_span_39 rfl (lv_at hl 0 rfl) ?_
        refine va_get (D := D) (ci := 6) (v := .ref (h 1)) (C := RX6) (T := TX6) (N := 8) hx hb hts inX6 hown hK hP 0 wX_0 rfl 0 (by decide) f12 (fun _ h9 => h9) rfl dX6_span_40 ?_
        refine lv_iload_n hx hb dX6_span_43 rfl (lv_at hl 1 rfl) ?_
        refine lv_iload_n hx hb dX6_span_44 rfl (lv_at hl 2 rfl) ?_
        refine xVl0 (As := [.int v1, .int v2]) (rest := []) hst hE hP hS ⟨hx, hb, hml, hown, hts⟩ (va_recv hK hP (ci := 5) (q := (RX5, TX5, 10)) rfl wX_1) (mX5_topRoom l D h cI cJ t0 hh S36 L v1 v2 _ hw) (cwV 2 hts gX6_span_X5_topRoom rfl rfl rfl (by decide +kernel) ⟨Nat.le_of_ble_eq_true rfl, Nat.le_of_ble_eq_true rfl⟩) rfl hl.1 rfl (Nat.le_of_ble_eq_true rfl) dX6_span_45 ⟨Nat.zero_le _, Nat.zero_le _⟩ (fun r45 H locs hw hP hS => ?_)
        refine lv_lstore (lv' := [(4, .long r45), (0, .ref (h 0)), (1, .int v1), (2, .int v2), (3, .int v3)]) hx hb dX6_span_48 hl (by decide) rfl (fun ls hl => ?_)
        refine lv_aload_n hx hb dX6_span_50 rfl (lv_at hl 1 rfl) ?_
        refine va_get (D := D) (ci := 6) (v := .ref (h 33)) (C := RX6) (T := TX6) (N := 8) hx hb hts inX6 hown hK hP 0 wX_0 rfl 3 (by decide) f0 (fun _ h9 => h9) rfl dX6_span_51 ?_
        refine lv_lload hx hb dX6_span_54 (lv_at hl 0 rfl) ?_
        refine lv_iconst (v := (-1 : Int32)) hx hb dX6_span_56 (by decide) ?_
        refine xVi0 (As := [.long r45, .int (-1 : Int32)]) (rest := []) hst hE hP hS ⟨hx, hb, hml, hown, hts⟩ (va_recv hK hP (ci := 1) (q := (RX1, TX1, 4)) rfl wX_33) (mX1_partsOfTop l D h cI cJ t0 hh S36 L r45 (-1 : Int32) _ hw) (cwV 2 hts gX6_span_X1_partsOfTop rfl rfl rfl (by decide +kernel) ⟨Nat.le_of_ble_eq_true rfl, Nat.le_of_ble_eq_true rfl⟩) rfl hl.1 rfl (Nat.le_of_ble_eq_true rfl) dX6_span_57 ⟨Nat.zero_le _, Nat.zero_le _⟩ (fun r57 H locs hw hP hS => ?_)
        refine lv_istore (lv' := [(6, .int r57), (4, .long r45), (0, .ref (h 0)), (1, .int v1), (2, .int v2), (3, .int v3)]) hx hb dX6_span_60 hl (by decide) rfl (fun ls hl => ?_)
        refine lv_iload hx hb dX6_span_62 (lv_at hl 0 rfl) ?_
        refine lv_bipush (v := (-4 : Int32)) hx hb dX6_span_64 (by decide) ?_
        refine lv_icmp_ne (tgt := 72) hx hb dX6_span_66 (by decide) (fun hc => ?_) (fun hc => ?_)
        · replace hw := And.right hw hc
          refine lv_iload hx hb dX6_span_72 (lv_at hl 0 rfl) ?_
          refine lv_istore (lv' := [(7, .int r57), (6, .int r57), (4, .long r45), (0, .ref (h 0)), (1, .int v1), (2, .int v2), (3, .int v3)]) hx hb dX6_span_74 hl (by decide) rfl (fun ls hl => ?_)
          refine lv_iconst (v := (0 : Int32)) hx hb dX6_span_76 (by decide) ?_
          refine lv_istore (lv' := [(8, .int (0 : Int32)), (7, .int r57), (6, .int r57), (4, .long r45), (0, .ref (h 0)), (1, .int v1), (2, .int v2), (3, .int v3)]) hx hb dX6_span_77 hl (by decide) rfl (fun ls hl => ?_)
          obtain ⟨n79, hw⟩ := hw
          exact b79 r45 n79 r57 r57 (0 : Int32) S36 _ _ _ (lv_sub hl [4, 7, 3, 2, 1, 0] rfl) hP hS hw
        · replace hw := And.left hw hc
          refine lv_bipush (v := (-4 : Int32)) hx hb dX6_span_69 (by decide) ?_
          exact hret _ _ _ _ _ _ hP hS hw dX6_span_71
      · replace hw := And.left hw hc
        refine lv_iconst (v := (-1 : Int32)) hx hb dX6_span_24 (by decide) ?_
        exact hret _ _ _ _ _ _ hP hS hw dX6_span_25
abbrev rX6_smooth : Room := { frames := 5, cells := 0, slots := 0, locals := 117 }
set_option maxHeartbeats 4000000 in
set_option maxRecDepth 100000 in
theorem mX6_smooth (l : Launch) (D : va_G) (h : Nat → Nat) (cI cJ : ClassId) (t0 : Nat) (hh : xdis 53 h) (S : SX) (L : LX) (v1 : Int32) (v2 : Int32) (v3 : Int32) (post : Int32 → SX → Prop) (hw : kX6_smooth S L v1 v2 v3 post) : Met l yX6_smooth wsX6_smooth rX6_smooth (xPre D (wX h cI cJ) (xE D h cI cJ t0) S L [.ref (h 0), .int v1, .int v2, .int v3]) (va_Qi (fun (r : Int32) (u : SX × LX) => post r u.1 ∧ u.2 = L) (xB D (wX h cI cJ)) (xA 53 h)) 0 0 (xA 53 h) := by
  refine Met.ofW (cc := cX6_smooth) (maxL := 10) (ret := (some .int)) (by decide) rfl ?_
  intro p e s m args below meth c s₁ B hml hv
  obtain ⟨hargs, hP, hE⟩ := hv
  have hx := B.exec
  have hb := B.bytes
  have hr := B.returns
  have hlocks := B.notSynchronized
  have hts := atoms_spec (ws := wsX6_smooth) B.pre
  have hown : s.vm.findClass RX6 = some m.cls := findClass_of_methodNamed B.named
  have hS : va_S (xA 53 h) s.heap s.heap [] := va_S.rf
  have hD : ∀ (S : SX) (L : LX), va_D (xA 53 h) (wX h cI cJ S L) := fun S L => wX_D hh cI cJ S L
  have hK := hE.1
  have hst : xSt (xA 53 h) (xE D h cI cJ t0) := xE_st D h cI cJ t0
  have f0 := hts (.fieldLink RX6 22 "BookOfWills" "living" "LBookOfWills$Living;") (by decide +kernel)
  have inX6 : ∀ w ∈ u_ws RX6 TX6 8, w ∈ wsX6_smooth := fun w hw9 => List.mem_cons_of_mem _ (List.mem_append_left _ (List.mem_append_left _ (List.mem_append_left _ (List.mem_append_left _ (List.mem_append_right _ hw9)))))
  have f2 := hts (.fieldLink RX6 10 "BookOfWills" "world" "LBookOfWills$World;") (by decide +kernel)
  have f3 := hts (.constantLong RX6 99 (3)) (by decide +kernel)
  have f4 := hts (.methodLink RX6 279 Lib.Math.min.name) (by decide +kernel)
  have f5 := hts (.static Lib.Math.min.name) (by decide +kernel)
  have f6 := hts (.initialized "java/lang/Math") (by decide +kernel)
  have f7 := hts (.code Lib.Math.min.name Lib.Math.min.code 2 (some .int)) (by decide +kernel)
  have f8 := hts (.methodLink RX6 282 Lib.Math.max.name) (by decide +kernel)
  have f9 := hts (.static Lib.Math.max.name) (by decide +kernel)
  have f10 := hts (.code Lib.Math.max.name Lib.Math.max.code 2 (some .int)) (by decide +kernel)
  have hl := lv_entry ([.ref (h 0), .int v1, .int v2, .int v3]) (n := 10) (Nat.le_of_ble_eq_true rfl)
  have hen : entryFrame m args 10 = F0 m 0 ((lg_sl ([.ref (h 0), .int v1, .int v2, .int v3]) ++ List.replicate (10 - (lg_sl ([.ref (h 0), .int v1, .int v2, .int v3])).length) Slot.unset).toArray) [] := by rw [hargs]; exact lg_entry_eq m _ _
  rw [hen]
  generalize (lg_sl ([.ref (h 0), .int v1, .int v2, .int v3]) ++ List.replicate (10 - (lg_sl ([.ref (h 0), .int v1, .int v2, .int v3])).length) Slot.unset).toArray = ls at hl ⊢
  have hl : lv_has ls 10 [(0, .ref (h 0)), (1, .int v1), (2, .int v2), (3, .int v3)] := hl
  change W p l e rX6_smooth s m args below meth c s.heap [] 0 0 (MQ below (va_Qi (fun (r : Int32) (u : SX × LX) => post r u.1 ∧ u.2 = L) (xB D (wX h cI cJ)) (xA 53 h)) args s 0 0 (xA 53 h)) (F0 m 0 ls [])
  have hret : ∀ (r : Int32) (S1 : SX) (H : Heap) (locs : List Loc) (ls : Array Slot) (pc : Nat), va_P D vwCl (wX h cI cJ S1 L) H → va_S (xA 53 h) s.heap H locs → post r S1 → decode cX6_smooth pc = .ok (.ireturn, 1) → W p l e rX6_smooth s m args below meth c H locs 0 0 (MQ below (va_Qi (fun (r : Int32) (u : SX × LX) => post r u.1 ∧ u.2 = L) (xB D (wX h cI cJ)) (xA 53 h)) args s 0 0 (xA 53 h)) (F0 m pc ls [.int r]) := fun r S1 H locs ls pc hP hS hw hd => W.iret hx hb hr (fun t ht hW => ⟨⟨r, (S1, L), rfl, ⟨hw, rfl⟩, show va_P D vwCl (wX h cI cJ S1 L) t.heap by rw [ht]; exact hP⟩, hS.F ht⟩) hS.2.2 hd
  generalize MQ below (va_Qi (fun (r : Int32) (u : SX × LX) => post r u.1 ∧ u.2 = L) (xB D (wX h cI cJ)) (xA 53 h)) args s 0 0 (xA 53 h) = Q at hret ⊢
  have b53 : ∀ (v8 : Int32) (n53 : Nat) (v4 : Int64) (v6 : Int64) (v9 : Int32) (S : SX) (H : Heap) (locs : List Loc) (ls : Array Slot), lv_has ls 10 [(0, .ref (h 0)), (2, .int v2), (4, .long v4), (6, .long v6), (8, .int v8), (9, .int v9)] → va_P D vwCl (wX h cI cJ S L) H → va_S (xA 53 h) s.heap H locs → kX6_smooth_b53 L v1 v2 v3 v8 post n53 v4 v6 v9 S → W p l e rX6_smooth s m args below meth c H locs 0 0 Q (F0 m 53 ls []) := by
    intro v8 n53
    induction n53 with
    | zero => intro v4 v6 v9 S H locs ls hl hP hS hw; exact absurd hw id
    | succ n53 i53 =>
      intro v4 v6 v9 S H locs ls hl hP hS hw
      unfold kX6_smooth_b53 at hw
      refine lv_iload hx hb dX6_smooth_53 (lv_at hl 5 rfl) ?_
      refine lv_iload hx hb dX6_smooth_55 (lv_at hl 4 rfl) ?_
      refine lv_icmp_gt (tgt := 117) hx hb dX6_smooth_57 (by decide) (fun hc => ?_) (fun hc => ?_)
      · replace hw := And.left hw hc
        refine lv_lload hx hb dX6_smooth_117 (lv_at hl 3 rfl) ?_
        refine lv_lconst (v := (0 : Int64)) hx hb dX6_smooth_119 (by decide) ?_
        refine W.lcmp hx hb dX6_smooth_120 ?_
        refine lv_if_ne (tgt := 129) hx hb dX6_smooth_121 (by decide) (fun hc => ?_) (fun hc => ?_)
        · replace hw := And.right hw (fun q => hc ((lg_cmp_eq _ _).mpr q))
          refine lv_lload hx hb dX6_smooth_129 (lv_at hl 2 rfl) ?_
          refine lv_lload hx hb dX6_smooth_131 (lv_at hl 3 rfl) ?_
          refine xSi0 (As := [.long v4, .long v6]) (rest := []) hst hE hP hS ⟨hx, hb, hml, hown, hts⟩ (mX6_parts l D h cI cJ t0 hh S L v4 v6 _ hw) (va_cwS 2 hts gX6_smooth_X6_parts rfl rfl rfl (by decide +kernel) ⟨Nat.le_of_ble_eq_true rfl, Nat.le_of_ble_eq_true rfl⟩) rfl hl.1 rfl (Nat.le_of_ble_eq_true rfl) dX6_smooth_133 ⟨Nat.zero_le _, Nat.zero_le _⟩ (fun r133 H locs hw hP hS => ?_)
          exact hret _ _ _ _ _ _ hP hS hw dX6_smooth_136
        · replace hw := And.left hw ((lg_cmp_eq _ _).mp hc)
          refine lv_bipush (v := (-4 : Int32)) hx hb dX6_smooth_124 (by decide) ?_
          refine lv_goto (tgt := 136) hx hb dX6_smooth_126 (by decide) ?_
          exact hret _ _ _ _ _ _ hP hS hw dX6_smooth_136
      · replace hw := And.right hw hc
        refine lv_aload_n hx hb dX6_smooth_60 rfl (lv_at hl 0 rfl) ?_
        refine va_get (D := D) (ci := 6) (v := .ref (h 33)) (C := RX6) (T := TX6) (N := 8) hx hb hts inX6 hown hK hP 0 wX_0 rfl 3 (by decide) f0 (fun _ h9 => h9) rfl dX6_smooth_61 ?_
        refine lv_aload_n hx hb dX6_smooth_64 rfl (lv_at hl 0 rfl) ?_
        refine va_get (D := D) (ci := 6) (v := .ref (h 1)) (C := RX6) (T := TX6) (N := 8) hx hb hts inX6 hown hK hP 0 wX_0 rfl 0 (by decide) f2 (fun _ h9 => h9) rfl dX6_smooth_65 ?_
        refine lv_iload hx hb dX6_smooth_68 (lv_at hl 5 rfl) ?_
        refine lv_iload hx hb dX6_smooth_70 (lv_at hl 5 rfl) ?_
        refine xVv1 (As := [.ref (h 1), .int v9, .int v9]) (rest := []) hst hE hP hS ⟨hx, hb, hml, hown, hts⟩ (va_recv hK hP (ci := 1) (q := (RX1, TX1, 4)) rfl wX_33) (mX1_gather l D h cI cJ t0 hh S L v9 v9 _ hw) (cwV 3 hts gX6_smooth_X1_gather rfl rfl rfl (by decide +kernel) ⟨Nat.le_of_ble_eq_true rfl, Nat.le_of_ble_eq_true rfl⟩) rfl hl.1 rfl (Nat.le_of_ble_eq_true rfl) dX6_smooth_72 ⟨Nat.zero_le _, Nat.zero_le _⟩ (fun S72 H locs hw hP hS => ?_)
        refine lv_lload hx hb dX6_smooth_75 (lv_at hl 2 rfl) ?_
        refine lv_aload_n hx hb dX6_smooth_77 rfl (lv_at hl 0 rfl) ?_
        refine va_get (D := D) (ci := 6) (v := .ref (h 33)) (C := RX6) (T := TX6) (N := 8) hx hb hts inX6 hown hK hP 0 wX_0 rfl 3 (by decide) f0 (fun _ h9 => h9) rfl dX6_smooth_78 ?_
        refine lv_aload_n hx hb dX6_smooth_81 rfl (lv_at hl 0 rfl) ?_
        refine va_get (D := D) (ci := 6) (v := .ref (h 1)) (C := RX6) (T := TX6) (N := 8) hx hb hts inX6 hown hK hP 0 wX_0 rfl 0 (by decide) f2 (fun _ h9 => h9) rfl dX6_smooth_82 ?_
        refine lv_iload hx hb dX6_smooth_85 (lv_at hl 5 rfl) ?_
        refine lv_iload_n hx hb dX6_smooth_87 rfl (lv_at hl 1 rfl) ?_
        refine xVl0 (As := [.int v9, .int v2]) (rest := [.ref (h 33), .long v4]) hst hE hP hS ⟨hx, hb, hml, hown, hts⟩ (va_recv hK hP (ci := 5) (q := (RX5, TX5, 10)) rfl wX_1) (mX5_topRoom l D h cI cJ t0 hh S72 L v9 v2 _ hw) (cwV 2 hts gX6_smooth_X5_topRoom rfl rfl rfl (by decide +kernel) ⟨Nat.le_of_ble_eq_true rfl, Nat.le_of_ble_eq_true rfl⟩) rfl hl.1 rfl (Nat.le_of_ble_eq_true rfl) dX6_smooth_88 ⟨Nat.zero_le _, Nat.zero_le _⟩ (fun r88 H locs hw hP hS => ?_)
        refine lv_iconst (v := (-1 : Int32)) hx hb dX6_smooth_91 (by decide) ?_
        refine xVl0 (As := [.long r88, .int (-1 : Int32)]) (rest := [.long v4]) hst hE hP hS ⟨hx, hb, hml, hown, hts⟩ (va_recv hK hP (ci := 1) (q := (RX1, TX1, 4)) rfl wX_33) (mX1_sumTop l D h cI cJ t0 hh S72 L r88 (-1 : Int32) _ hw) (cwV 2 hts gX6_smooth_X1_sumTop rfl rfl rfl (by decide +kernel) ⟨Nat.le_of_ble_eq_true rfl, Nat.le_of_ble_eq_true rfl⟩) rfl hl.1 rfl (Nat.le_of_ble_eq_true rfl) dX6_smooth_92 ⟨Nat.zero_le _, Nat.zero_le _⟩ (fun r92 H locs hw hP hS => ?_)
        refine lv_ladd hx hb dX6_smooth_95 ?_
        refine lv_lstore (lv' := [(4, .long (v4 + r92)), (0, .ref (h 0)), (2, .int v2), (6, .long v6), (8, .int v8), (9, .int v9)]) hx hb dX6_smooth_96 hl (by decide) rfl (fun ls hl => ?_)
        refine lv_lload hx hb dX6_smooth_98 (lv_at hl 3 rfl) ?_
        refine lv_aload_n hx hb dX6_smooth_100 rfl (lv_at hl 1 rfl) ?_
        refine va_get (D := D) (ci := 6) (v := .ref (h 33)) (C := RX6) (T := TX6) (N := 8) hx hb hts inX6 hown hK hP 0 wX_0 rfl 3 (by decide) f0 (fun _ h9 => h9) rfl dX6_smooth_101 ?_
        refine lv_iconst (v := (-1 : Int32)) hx hb dX6_smooth_104 (by decide) ?_
        refine xVl0 (As := [.int (-1 : Int32)]) (rest := [.long v6]) hst hE hP hS ⟨hx, hb, hml, hown, hts⟩ (va_recv hK hP (ci := 1) (q := (RX1, TX1, 4)) rfl wX_33) (mX1_sumAll l D h cI cJ t0 hh S72 L (-1 : Int32) _ hw) (cwV 1 hts gX6_smooth_X1_sumAll rfl rfl rfl (by decide +kernel) ⟨Nat.le_of_ble_eq_true rfl, Nat.le_of_ble_eq_true rfl⟩) rfl hl.1 rfl (Nat.le_of_ble_eq_true rfl) dX6_smooth_105 ⟨Nat.zero_le _, Nat.zero_le _⟩ (fun r105 H locs hw hP hS => ?_)
        refine lv_ladd hx hb dX6_smooth_108 ?_
        refine lv_lstore (lv' := [(6, .long (v6 + r105)), (4, .long (v4 + r92)), (0, .ref (h 0)), (2, .int v2), (8, .int v8), (9, .int v9)]) hx hb dX6_smooth_109 hl (by decide) rfl (fun ls hl => ?_)
        refine lv_iinc (v := v9 + (1 : Int32)) (lv' := [(9, .int (v9 + (1 : Int32))), (6, .long (v6 + r105)), (4, .long (v4 + r92)), (0, .ref (h 0)), (2, .int v2), (8, .int v8)]) hx hb dX6_smooth_111 hl (k := 5) rfl rfl (by decide) rfl (fun ls hl => ?_)
        refine lv_goto (tgt := 53) hx hb dX6_smooth_114 (by decide) ?_
        exact i53 (v4 + r92) (v6 + r105) (v9 + (1 : Int32)) S72 _ _ _ (lv_sub hl [3, 4, 2, 1, 5, 0] rfl) hP hS hw
  unfold kX6_smooth at hw
  refine lv_iload_n hx hb dX6_smooth_0 rfl (lv_at hl 1 rfl) ?_
  refine xSi0 (As := [.int v1]) (rest := []) hst hE hP hS ⟨hx, hb, hml, hown, hts⟩ (mX6_isYear l D h cI cJ t0 hh S L v1 _ hw) (va_cwS 1 hts gX6_smooth_X6_isYear rfl rfl rfl (by decide +kernel) ⟨Nat.le_of_ble_eq_true rfl, Nat.le_of_ble_eq_true rfl⟩) rfl hl.1 rfl (Nat.le_of_ble_eq_true rfl) dX6_smooth_1 ⟨Nat.zero_le _, Nat.zero_le _⟩ (fun r1 H locs hw hP hS => ?_)
  refine lv_if_eq (tgt := 26) hx hb dX6_smooth_4 (by decide) (fun hc => ?_) (fun hc => ?_)
  · replace hw := And.left hw hc
    refine lv_iconst (v := (-1 : Int32)) hx hb dX6_smooth_26 (by decide) ?_
    exact hret _ _ _ _ _ _ hP hS hw dX6_smooth_27
  · replace hw := And.right hw hc
    refine lv_iload_n hx hb dX6_smooth_7 rfl (lv_at hl 2 rfl) ?_
    refine xSi0 (As := [.int v2]) (rest := []) hst hE hP hS ⟨hx, hb, hml, hown, hts⟩ (mX6_isTop l D h cI cJ t0 hh S L v2 _ hw) (va_cwS 1 hts gX6_smooth_X6_isTop rfl rfl rfl (by decide +kernel) ⟨Nat.le_of_ble_eq_true rfl, Nat.le_of_ble_eq_true rfl⟩) rfl hl.1 rfl (Nat.le_of_ble_eq_true rfl) dX6_smooth_8 ⟨Nat.zero_le _, Nat.zero_le _⟩ (fun r8 H locs hw hP hS => ?_)
    refine lv_if_eq (tgt := 26) hx hb dX6_smooth_11 (by decide) (fun hc => ?_) (fun hc => ?_)
    · replace hw := And.left hw hc
      refine lv_iconst (v := (-1 : Int32)) hx hb dX6_smooth_26 (by decide) ?_
      exact hret _ _ _ _ _ _ hP hS hw dX6_smooth_27
    · replace hw := And.right hw hc
      refine lv_iload_n hx hb dX6_smooth_14 rfl (lv_at hl 3 rfl) ?_
      refine lv_i2l hx hb dX6_smooth_15 rfl ?_
      refine lv_lconst (v := (0 : Int64)) hx hb dX6_smooth_16 (by decide) ?_
      refine lv_ldc2 (v := (3 : Int64)) hx hb hown (f3) dX6_smooth_17 ?_
      refine xSi0 (As := [.long v3.toInt64, .long (0 : Int64), .long (3 : Int64)]) (rest := []) hst hE hP hS ⟨hx, hb, hml, hown, hts⟩ (mX6_isWithin l D h cI cJ t0 hh S L v3.toInt64 (0 : Int64) (3 : Int64) _ hw) (va_cwS 3 hts gX6_smooth_X6_isWithin rfl rfl rfl (by decide +kernel) ⟨Nat.le_of_ble_eq_true rfl, Nat.le_of_ble_eq_true rfl⟩) rfl hl.1 rfl (Nat.le_of_ble_eq_true rfl) dX6_smooth_20 ⟨Nat.zero_le _, Nat.zero_le _⟩ (fun r20 H locs hw hP hS => ?_)
      refine lv_if_ne (tgt := 28) hx hb dX6_smooth_23 (by decide) (fun hc => ?_) (fun hc => ?_)
      · replace hw := And.right hw hc
        refine lv_lconst (v := (0 : Int64)) hx hb dX6_smooth_28 (by decide) ?_
        refine lv_lstore (lv' := [(4, .long (0 : Int64)), (0, .ref (h 0)), (1, .int v1), (2, .int v2), (3, .int v3)]) hx hb dX6_smooth_29 hl (by decide) rfl (fun ls hl => ?_)
        refine lv_lconst (v := (0 : Int64)) hx hb dX6_smooth_31 (by decide) ?_
        refine lv_lstore (lv' := [(6, .long (0 : Int64)), (4, .long (0 : Int64)), (0, .ref (h 0)), (1, .int v1), (2, .int v2), (3, .int v3)]) hx hb dX6_smooth_32 hl (by decide) rfl (fun ls hl => ?_)
        refine lv_iload_n hx hb dX6_smooth_34 rfl (lv_at hl 3 rfl) ?_
        refine lv_iload_n hx hb dX6_smooth_35 rfl (lv_at hl 5 rfl) ?_
        refine lv_iadd hx hb dX6_smooth_36 ?_
        refine lv_bipush (v := (7 : Int32)) hx hb dX6_smooth_37 (by decide) ?_
        refine va_mmin hx hb (hml.trans hl.1.symm) hown f4 f5 f6 f7 (Nat.le_of_ble_eq_true rfl) (Nat.le_of_ble_eq_true rfl) (Nat.zero_le _) (Nat.zero_le _) dX6_smooth_39 ?_
        refine lv_istore (lv' := [(8, .int (if (7 : Int32) < (v1 + v3) then (7 : Int32) else (v1 + v3))), (6, .long (0 : Int64)), (4, .long (0 : Int64)), (0, .ref (h 0)), (1, .int v1), (2, .int v2), (3, .int v3)]) hx hb dX6_smooth_42 hl (by decide) rfl (fun ls hl => ?_)
        refine lv_iload_n hx hb dX6_smooth_44 rfl (lv_at hl 4 rfl) ?_
        refine lv_iload_n hx hb dX6_smooth_45 rfl (lv_at hl 6 rfl) ?_
        refine lv_isub hx hb dX6_smooth_46 ?_
        refine lv_iconst (v := (0 : Int32)) hx hb dX6_smooth_47 (by decide) ?_
        refine va_mmax hx hb (hml.trans hl.1.symm) hown f8 f9 f6 f10 (Nat.le_of_ble_eq_true rfl) (Nat.le_of_ble_eq_true rfl) (Nat.zero_le _) (Nat.zero_le _) dX6_smooth_48 ?_
        refine lv_istore (lv' := [(9, .int (if (v1 - v3) < (0 : Int32) then (0 : Int32) else (v1 - v3))), (8, .int (if (7 : Int32) < (v1 + v3) then (7 : Int32) else (v1 + v3))), (6, .long (0 : Int64)), (4, .long (0 : Int64)), (0, .ref (h 0)), (1, .int v1), (2, .int v2), (3, .int v3)]) hx hb dX6_smooth_51 hl (by decide) rfl (fun ls hl => ?_)
        obtain ⟨n53, hw⟩ := hw
        exact b53 (if (7 : Int32) < (v1 + v3) then (7 : Int32) else (v1 + v3)) n53 (0 : Int64) (0 : Int64) (if (v1 - v3) < (0 : Int32) then (0 : Int32) else (v1 - v3)) S _ _ _ (lv_sub hl [4, 6, 3, 2, 1, 0] rfl) hP hS hw
      · replace hw := And.left hw hc
        refine lv_iconst (v := (-1 : Int32)) hx hb dX6_smooth_26 (by decide) ?_
        exact hret _ _ _ _ _ _ hP hS hw dX6_smooth_27
abbrev rX6_partsOfYear : Room := { frames := 5, cells := 0, slots := 0, locals := 117 }
set_option maxHeartbeats 4000000 in
set_option maxRecDepth 100000 in
theorem mX6_partsOfYear (l : Launch) (D : va_G) (h : Nat → Nat) (cI cJ : ClassId) (t0 : Nat) (hh : xdis 53 h) (S : SX) (L : LX) (v1 : Int32) (v2 : Int32) (v3 : Int32) (post : Int32 → SX → Prop) (hw : kX6_partsOfYear S L v1 v2 v3 post) : Met l yX6_partsOfYear wsX6_partsOfYear rX6_partsOfYear (xPre D (wX h cI cJ) (xE D h cI cJ t0) S L [.ref (h 0), .int v1, .int v2, .int v3]) (va_Qi (fun (r : Int32) (u : SX × LX) => post r u.1 ∧ u.2 = L) (xB D (wX h cI cJ)) (xA 53 h)) 0 0 (xA 53 h) := by
  refine Met.ofW (cc := cX6_partsOfYear) (maxL := 4) (ret := (some .int)) (by decide) rfl ?_
  intro p e s m args below meth c s₁ B hml hv
  obtain ⟨hargs, hP, hE⟩ := hv
  have hx := B.exec
  have hb := B.bytes
  have hr := B.returns
  have hlocks := B.notSynchronized
  have hts := atoms_spec (ws := wsX6_partsOfYear) B.pre
  have hown : s.vm.findClass RX6 = some m.cls := findClass_of_methodNamed B.named
  have hS : va_S (xA 53 h) s.heap s.heap [] := va_S.rf
  have hD : ∀ (S : SX) (L : LX), va_D (xA 53 h) (wX h cI cJ S L) := fun S L => wX_D hh cI cJ S L
  have hK := hE.1
  have hst : xSt (xA 53 h) (xE D h cI cJ t0) := xE_st D h cI cJ t0
  have f0 := hts (.fieldLink RX6 22 "BookOfWills" "living" "LBookOfWills$Living;") (by decide +kernel)
  have inX6 : ∀ w ∈ u_ws RX6 TX6 8, w ∈ wsX6_partsOfYear := fun w hw9 => List.mem_cons_of_mem _ (List.mem_append_left _ (List.mem_append_left _ (List.mem_append_left _ (List.mem_append_left _ (List.mem_append_right _ hw9)))))
  have f2 := hts (.fieldLink RX6 10 "BookOfWills" "world" "LBookOfWills$World;") (by decide +kernel)
  have hl := lv_entry ([.ref (h 0), .int v1, .int v2, .int v3]) (n := 4) (Nat.le_of_ble_eq_true rfl)
  have hen : entryFrame m args 4 = F0 m 0 ((lg_sl ([.ref (h 0), .int v1, .int v2, .int v3]) ++ List.replicate (4 - (lg_sl ([.ref (h 0), .int v1, .int v2, .int v3])).length) Slot.unset).toArray) [] := by rw [hargs]; exact lg_entry_eq m _ _
  rw [hen]
  generalize (lg_sl ([.ref (h 0), .int v1, .int v2, .int v3]) ++ List.replicate (4 - (lg_sl ([.ref (h 0), .int v1, .int v2, .int v3])).length) Slot.unset).toArray = ls at hl ⊢
  have hl : lv_has ls 4 [(0, .ref (h 0)), (1, .int v1), (2, .int v2), (3, .int v3)] := hl
  change W p l e rX6_partsOfYear s m args below meth c s.heap [] 0 0 (MQ below (va_Qi (fun (r : Int32) (u : SX × LX) => post r u.1 ∧ u.2 = L) (xB D (wX h cI cJ)) (xA 53 h)) args s 0 0 (xA 53 h)) (F0 m 0 ls [])
  have hret : ∀ (r : Int32) (S1 : SX) (H : Heap) (locs : List Loc) (ls : Array Slot) (pc : Nat), va_P D vwCl (wX h cI cJ S1 L) H → va_S (xA 53 h) s.heap H locs → post r S1 → decode cX6_partsOfYear pc = .ok (.ireturn, 1) → W p l e rX6_partsOfYear s m args below meth c H locs 0 0 (MQ below (va_Qi (fun (r : Int32) (u : SX × LX) => post r u.1 ∧ u.2 = L) (xB D (wX h cI cJ)) (xA 53 h)) args s 0 0 (xA 53 h)) (F0 m pc ls [.int r]) := fun r S1 H locs ls pc hP hS hw hd => W.iret hx hb hr (fun t ht hW => ⟨⟨r, (S1, L), rfl, ⟨hw, rfl⟩, show va_P D vwCl (wX h cI cJ S1 L) t.heap by rw [ht]; exact hP⟩, hS.F ht⟩) hS.2.2 hd
  generalize MQ below (va_Qi (fun (r : Int32) (u : SX × LX) => post r u.1 ∧ u.2 = L) (xB D (wX h cI cJ)) (xA 53 h)) args s 0 0 (xA 53 h) = Q at hret ⊢
  unfold kX6_partsOfYear at hw
  refine lv_aload_n hx hb dX6_partsOfYear_0 rfl (lv_at hl 0 rfl) ?_
  refine va_get (D := D) (ci := 6) (v := .ref (h 33)) (C := RX6) (T := TX6) (N := 8) hx hb hts inX6 hown hK hP 0 wX_0 rfl 3 (by decide) f0 (fun _ h9 => h9) rfl dX6_partsOfYear_1 ?_
  refine lv_aload_n hx hb dX6_partsOfYear_4 rfl (lv_at hl 0 rfl) ?_
  refine va_get (D := D) (ci := 6) (v := .ref (h 1)) (C := RX6) (T := TX6) (N := 8) hx hb hts inX6 hown hK hP 0 wX_0 rfl 0 (by decide) f2 (fun _ h9 => h9) rfl dX6_partsOfYear_5 ?_
  refine lv_iload_n hx hb dX6_partsOfYear_8 rfl (lv_at hl 1 rfl) ?_
  refine lv_iload_n hx hb dX6_partsOfYear_9 rfl (lv_at hl 2 rfl) ?_
  refine xVv1 (As := [.ref (h 1), .int v1, .int v2]) (rest := []) hst hE hP hS ⟨hx, hb, hml, hown, hts⟩ (va_recv hK hP (ci := 1) (q := (RX1, TX1, 4)) rfl wX_33) (mX1_gather l D h cI cJ t0 hh S L v1 v2 _ hw) (cwV 3 hts gX6_partsOfYear_X1_gather rfl rfl rfl (by decide +kernel) ⟨Nat.le_of_ble_eq_true rfl, Nat.le_of_ble_eq_true rfl⟩) rfl hl.1 rfl (Nat.le_of_ble_eq_true rfl) dX6_partsOfYear_10 ⟨Nat.zero_le _, Nat.zero_le _⟩ (fun S10 H locs hw hP hS => ?_)
  refine lv_aload_n hx hb dX6_partsOfYear_13 rfl (lv_at hl 0 rfl) ?_
  refine va_get (D := D) (ci := 6) (v := .ref (h 33)) (C := RX6) (T := TX6) (N := 8) hx hb hts inX6 hown hK hP 0 wX_0 rfl 3 (by decide) f0 (fun _ h9 => h9) rfl dX6_partsOfYear_14 ?_
  refine lv_aload_n hx hb dX6_partsOfYear_17 rfl (lv_at hl 0 rfl) ?_
  refine va_get (D := D) (ci := 6) (v := .ref (h 1)) (C := RX6) (T := TX6) (N := 8) hx hb hts inX6 hown hK hP 0 wX_0 rfl 0 (by decide) f2 (fun _ h9 => h9) rfl dX6_partsOfYear_18 ?_
  refine lv_iload_n hx hb dX6_partsOfYear_21 rfl (lv_at hl 1 rfl) ?_
  refine lv_iload_n hx hb dX6_partsOfYear_22 rfl (lv_at hl 3 rfl) ?_
  refine xVl0 (As := [.int v1, .int v3]) (rest := [.ref (h 33)]) hst hE hP hS ⟨hx, hb, hml, hown, hts⟩ (va_recv hK hP (ci := 5) (q := (RX5, TX5, 10)) rfl wX_1) (mX5_topRoom l D h cI cJ t0 hh S10 L v1 v3 _ hw) (cwV 2 hts gX6_partsOfYear_X5_topRoom rfl rfl rfl (by decide +kernel) ⟨Nat.le_of_ble_eq_true rfl, Nat.le_of_ble_eq_true rfl⟩) rfl hl.1 rfl (Nat.le_of_ble_eq_true rfl) dX6_partsOfYear_23 ⟨Nat.zero_le _, Nat.zero_le _⟩ (fun r23 H locs hw hP hS => ?_)
  refine lv_iconst (v := (-1 : Int32)) hx hb dX6_partsOfYear_26 (by decide) ?_
  refine xVi0 (As := [.long r23, .int (-1 : Int32)]) (rest := []) hst hE hP hS ⟨hx, hb, hml, hown, hts⟩ (va_recv hK hP (ci := 1) (q := (RX1, TX1, 4)) rfl wX_33) (mX1_partsOfTop l D h cI cJ t0 hh S10 L r23 (-1 : Int32) _ hw) (cwV 2 hts gX6_partsOfYear_X1_partsOfTop rfl rfl rfl (by decide +kernel) ⟨Nat.le_of_ble_eq_true rfl, Nat.le_of_ble_eq_true rfl⟩) rfl hl.1 rfl (Nat.le_of_ble_eq_true rfl) dX6_partsOfYear_27 ⟨Nat.zero_le _, Nat.zero_le _⟩ (fun r27 H locs hw hP hS => ?_)
  exact hret _ _ _ _ _ _ hP hS hw dX6_partsOfYear_30
abbrev rX6_jump : Room := { frames := 6, cells := 0, slots := 0, locals := 140 }
set_option maxHeartbeats 4000000 in
set_option maxRecDepth 100000 in
theorem mX6_jump (l : Launch) (D : va_G) (h : Nat → Nat) (cI cJ : ClassId) (t0 : Nat) (hh : xdis 53 h) (S : SX) (L : LX) (v1 : Int32) (v2 : Int32) (post : Int32 → SX → Prop) (hw : kX6_jump S L v1 v2 post) : Met l yX6_jump wsX6_jump rX6_jump (xPre D (wX h cI cJ) (xE D h cI cJ t0) S L [.ref (h 0), .int v1, .int v2]) (va_Qi (fun (r : Int32) (u : SX × LX) => post r u.1 ∧ u.2 = L) (xB D (wX h cI cJ)) (xA 53 h)) 0 0 (xA 53 h) := by
  refine Met.ofW (cc := cX6_jump) (maxL := 8) (ret := (some .int)) (by decide) rfl ?_
  intro p e s m args below meth c s₁ B hml hv
  obtain ⟨hargs, hP, hE⟩ := hv
  have hx := B.exec
  have hb := B.bytes
  have hr := B.returns
  have hlocks := B.notSynchronized
  have hts := atoms_spec (ws := wsX6_jump) B.pre
  have hown : s.vm.findClass RX6 = some m.cls := findClass_of_methodNamed B.named
  have hS : va_S (xA 53 h) s.heap s.heap [] := va_S.rf
  have hD : ∀ (S : SX) (L : LX), va_D (xA 53 h) (wX h cI cJ S L) := fun S L => wX_D hh cI cJ S L
  have hK := hE.1
  have hst : xSt (xA 53 h) (xE D h cI cJ t0) := xE_st D h cI cJ t0
  have f0 := hts (.methodLink RX6 274 Lib.Math.abs.name) (by decide +kernel)
  have f1 := hts (.static Lib.Math.abs.name) (by decide +kernel)
  have f2 := hts (.initialized "java/lang/Math") (by decide +kernel)
  have f3 := hts (.code Lib.Math.abs.name Lib.Math.abs.code 1 (some .int)) (by decide +kernel)
  have hl := lv_entry ([.ref (h 0), .int v1, .int v2]) (n := 8) (Nat.le_of_ble_eq_true rfl)
  have hen : entryFrame m args 8 = F0 m 0 ((lg_sl ([.ref (h 0), .int v1, .int v2]) ++ List.replicate (8 - (lg_sl ([.ref (h 0), .int v1, .int v2])).length) Slot.unset).toArray) [] := by rw [hargs]; exact lg_entry_eq m _ _
  rw [hen]
  generalize (lg_sl ([.ref (h 0), .int v1, .int v2]) ++ List.replicate (8 - (lg_sl ([.ref (h 0), .int v1, .int v2])).length) Slot.unset).toArray = ls at hl ⊢
  have hl : lv_has ls 8 [(0, .ref (h 0)), (1, .int v1), (2, .int v2)] := hl
  change W p l e rX6_jump s m args below meth c s.heap [] 0 0 (MQ below (va_Qi (fun (r : Int32) (u : SX × LX) => post r u.1 ∧ u.2 = L) (xB D (wX h cI cJ)) (xA 53 h)) args s 0 0 (xA 53 h)) (F0 m 0 ls [])
  have hret : ∀ (r : Int32) (S1 : SX) (H : Heap) (locs : List Loc) (ls : Array Slot) (pc : Nat), va_P D vwCl (wX h cI cJ S1 L) H → va_S (xA 53 h) s.heap H locs → post r S1 → decode cX6_jump pc = .ok (.ireturn, 1) → W p l e rX6_jump s m args below meth c H locs 0 0 (MQ below (va_Qi (fun (r : Int32) (u : SX × LX) => post r u.1 ∧ u.2 = L) (xB D (wX h cI cJ)) (xA 53 h)) args s 0 0 (xA 53 h)) (F0 m pc ls [.int r]) := fun r S1 H locs ls pc hP hS hw hd => W.iret hx hb hr (fun t ht hW => ⟨⟨r, (S1, L), rfl, ⟨hw, rfl⟩, show va_P D vwCl (wX h cI cJ S1 L) t.heap by rw [ht]; exact hP⟩, hS.F ht⟩) hS.2.2 hd
  generalize MQ below (va_Qi (fun (r : Int32) (u : SX × LX) => post r u.1 ∧ u.2 = L) (xB D (wX h cI cJ)) (xA 53 h)) args s 0 0 (xA 53 h) = Q at hret ⊢
  have b38 : ∀  (n38 : Nat) (v3 : Int32) (v4 : Int32) (v5 : Int32) (v6 : Int32) (S : SX) (H : Heap) (locs : List Loc) (ls : Array Slot), lv_has ls 8 [(0, .ref (h 0)), (1, .int v1), (2, .int v2), (3, .int v3), (4, .int v4), (5, .int v5), (6, .int v6)] → va_P D vwCl (wX h cI cJ S L) H → va_S (xA 53 h) s.heap H locs → kX6_jump_b38 L v1 v2 post n38 v3 v4 v5 v6 S → W p l e rX6_jump s m args below meth c H locs 0 0 Q (F0 m 38 ls []) := by
    intro n38
    induction n38 with
    | zero => intro v3 v4 v5 v6 S H locs ls hl hP hS hw; exact absurd hw id
    | succ n38 i38 =>
      intro v3 v4 v5 v6 S H locs ls hl hP hS hw
      unfold kX6_jump_b38 at hw
      refine lv_iload hx hb dX6_jump_38 (lv_at hl 6 rfl) ?_
      refine lv_bipush (v := (7 : Int32)) hx hb dX6_jump_40 (by decide) ?_
      refine lv_icmp_ge (tgt := 110) hx hb dX6_jump_42 (by decide) (fun hc => ?_) (fun hc => ?_)
      · replace hw := And.left hw hc
        refine lv_iload_n hx hb dX6_jump_110 rfl (lv_at hl 2 rfl) ?_
        refine lv_if_ne (tgt := 118) hx hb dX6_jump_111 (by decide) (fun hc => ?_) (fun hc => ?_)
        · replace hw := And.right hw hc
          refine lv_iload hx hb dX6_jump_118 (lv_at hl 4 rfl) ?_
          exact hret _ _ _ _ _ _ hP hS hw dX6_jump_120
        · replace hw := And.left hw hc
          refine lv_iload_n hx hb dX6_jump_114 rfl (lv_at hl 3 rfl) ?_
          refine lv_goto (tgt := 120) hx hb dX6_jump_115 (by decide) ?_
          exact hret _ _ _ _ _ _ hP hS hw dX6_jump_120
      · replace hw := And.right hw hc
        refine lv_aload_n hx hb dX6_jump_45 rfl (lv_at hl 0 rfl) ?_
        refine lv_iload hx hb dX6_jump_46 (lv_at hl 6 rfl) ?_
        refine lv_iconst (v := (1 : Int32)) hx hb dX6_jump_48 (by decide) ?_
        refine lv_iadd hx hb dX6_jump_49 ?_
        refine lv_iload hx hb dX6_jump_50 (lv_at hl 6 rfl) ?_
        refine lv_iconst (v := (1 : Int32)) hx hb dX6_jump_52 (by decide) ?_
        refine lv_iadd hx hb dX6_jump_53 ?_
        refine lv_iload_n hx hb dX6_jump_54 rfl (lv_at hl 1 rfl) ?_
        refine xVi1 (As := [.int (v6 + (1 : Int32)), .int (v6 + (1 : Int32)), .int v1]) (rest := []) hst hE hP hS ⟨hx, hb, hml, hown, hts⟩ (va_recv hK hP (ci := 6) (q := (RX6, TX6, 8)) rfl wX_0) (mX6_partsOfYear l D h cI cJ t0 hh S L (v6 + (1 : Int32)) (v6 + (1 : Int32)) v1 _ hw) (cwV 3 hts gX6_jump_X6_partsOfYear rfl rfl rfl (by decide +kernel) ⟨Nat.le_of_ble_eq_true rfl, Nat.le_of_ble_eq_true rfl⟩) rfl hl.1 rfl (Nat.le_of_ble_eq_true rfl) dX6_jump_55 ⟨Nat.zero_le _, Nat.zero_le _⟩ (fun r55 S55 H locs hw hP hS => ?_)
        refine lv_istore (lv' := [(7, .int r55), (0, .ref (h 0)), (1, .int v1), (2, .int v2), (3, .int v3), (4, .int v4), (5, .int v5), (6, .int v6)]) hx hb dX6_jump_58 hl (by decide) rfl (fun ls hl => ?_)
        refine lv_iload hx hb dX6_jump_60 (lv_at hl 6 rfl) ?_
        refine lv_bipush (v := (-4 : Int32)) hx hb dX6_jump_62 (by decide) ?_
        refine lv_icmp_eq (tgt := 100) hx hb dX6_jump_64 (by decide) (fun hc => ?_) (fun hc => ?_)
        · replace hw := And.left hw hc
          refine lv_iload hx hb dX6_jump_100 (lv_at hl 0 rfl) ?_
          refine lv_istore (lv' := [(5, .int r55), (7, .int r55), (0, .ref (h 0)), (1, .int v1), (2, .int v2), (3, .int v3), (4, .int v4), (6, .int v6)]) hx hb dX6_jump_102 hl (by decide) rfl (fun ls hl => ?_)
          refine lv_iinc (v := v6 + (1 : Int32)) (lv' := [(6, .int (v6 + (1 : Int32))), (5, .int r55), (7, .int r55), (0, .ref (h 0)), (1, .int v1), (2, .int v2), (3, .int v3), (4, .int v4)]) hx hb dX6_jump_104 hl (k := 7) rfl rfl (by decide) rfl (fun ls hl => ?_)
          refine lv_goto (tgt := 38) hx hb dX6_jump_107 (by decide) ?_
          exact i38 v3 v4 r55 (v6 + (1 : Int32)) S55 _ _ _ (lv_sub hl [3, 4, 5, 6, 7, 1, 0] rfl) hP hS hw
        · replace hw := And.right hw hc
          refine lv_iload hx hb dX6_jump_67 (lv_at hl 0 rfl) ?_
          refine lv_bipush (v := (-4 : Int32)) hx hb dX6_jump_69 (by decide) ?_
          refine lv_icmp_eq (tgt := 100) hx hb dX6_jump_71 (by decide) (fun hc => ?_) (fun hc => ?_)
          · replace hw := And.left hw hc
            refine lv_iload hx hb dX6_jump_100 (lv_at hl 0 rfl) ?_
            refine lv_istore (lv' := [(5, .int r55), (7, .int r55), (0, .ref (h 0)), (1, .int v1), (2, .int v2), (3, .int v3), (4, .int v4), (6, .int v6)]) hx hb dX6_jump_102 hl (by decide) rfl (fun ls hl => ?_)
            refine lv_iinc (v := v6 + (1 : Int32)) (lv' := [(6, .int (v6 + (1 : Int32))), (5, .int r55), (7, .int r55), (0, .ref (h 0)), (1, .int v1), (2, .int v2), (3, .int v3), (4, .int v4)]) hx hb dX6_jump_104 hl (k := 7) rfl rfl (by decide) rfl (fun ls hl => ?_)
            refine lv_goto (tgt := 38) hx hb dX6_jump_107 (by decide) ?_
            exact i38 v3 v4 r55 (v6 + (1 : Int32)) S55 _ _ _ (lv_sub hl [3, 4, 5, 6, 7, 1, 0] rfl) hP hS hw
          · replace hw := And.right hw hc
            refine lv_iload hx hb dX6_jump_74 (lv_at hl 0 rfl) ?_
            refine lv_iload hx hb dX6_jump_76 (lv_at hl 6 rfl) ?_
            refine lv_isub hx hb dX6_jump_78 ?_
            refine va_mabs hx hb (hml.trans hl.1.symm) hown f0 f1 f2 f3 (Nat.le_of_ble_eq_true rfl) (Nat.le_of_ble_eq_true rfl) (Nat.zero_le _) (Nat.zero_le _) dX6_jump_79 ?_
            refine lv_iload hx hb dX6_jump_82 (lv_at hl 5 rfl) ?_
            refine lv_icmp_le (tgt := 100) hx hb dX6_jump_84 (by decide) (fun hc => ?_) (fun hc => ?_)
            · replace hw := And.left hw hc
              refine lv_iload hx hb dX6_jump_100 (lv_at hl 0 rfl) ?_
              refine lv_istore (lv' := [(5, .int r55), (7, .int r55), (0, .ref (h 0)), (1, .int v1), (2, .int v2), (3, .int v3), (4, .int v4), (6, .int v6)]) hx hb dX6_jump_102 hl (by decide) rfl (fun ls hl => ?_)
              refine lv_iinc (v := v6 + (1 : Int32)) (lv' := [(6, .int (v6 + (1 : Int32))), (5, .int r55), (7, .int r55), (0, .ref (h 0)), (1, .int v1), (2, .int v2), (3, .int v3), (4, .int v4)]) hx hb dX6_jump_104 hl (k := 7) rfl rfl (by decide) rfl (fun ls hl => ?_)
              refine lv_goto (tgt := 38) hx hb dX6_jump_107 (by decide) ?_
              exact i38 v3 v4 r55 (v6 + (1 : Int32)) S55 _ _ _ (lv_sub hl [3, 4, 5, 6, 7, 1, 0] rfl) hP hS hw
            · replace hw := And.right hw hc
              refine lv_iload hx hb dX6_jump_87 (lv_at hl 7 rfl) ?_
              refine lv_istore_n (lv' := [(3, .int v6), (7, .int r55), (0, .ref (h 0)), (1, .int v1), (2, .int v2), (4, .int v4), (5, .int v5), (6, .int v6)]) hx hb dX6_jump_89 rfl hl (by decide) rfl (fun ls hl => ?_)
              refine lv_iload hx hb dX6_jump_90 (lv_at hl 1 rfl) ?_
              refine lv_iload hx hb dX6_jump_92 (lv_at hl 6 rfl) ?_
              refine lv_isub hx hb dX6_jump_94 ?_
              refine va_mabs hx hb (hml.trans hl.1.symm) hown f0 f1 f2 f3 (Nat.le_of_ble_eq_true rfl) (Nat.le_of_ble_eq_true rfl) (Nat.zero_le _) (Nat.zero_le _) dX6_jump_95 ?_
              refine lv_istore (lv' := [(4, .int (if 0 ≤ (r55 - v5) then (r55 - v5) else 0 - (r55 - v5))), (3, .int v6), (7, .int r55), (0, .ref (h 0)), (1, .int v1), (2, .int v2), (5, .int v5), (6, .int v6)]) hx hb dX6_jump_98 hl (by decide) rfl (fun ls hl => ?_)
              refine lv_iload hx hb dX6_jump_100 (lv_at hl 2 rfl) ?_
              refine lv_istore (lv' := [(5, .int r55), (4, .int (if 0 ≤ (r55 - v5) then (r55 - v5) else 0 - (r55 - v5))), (3, .int v6), (7, .int r55), (0, .ref (h 0)), (1, .int v1), (2, .int v2), (6, .int v6)]) hx hb dX6_jump_102 hl (by decide) rfl (fun ls hl => ?_)
              refine lv_iinc (v := v6 + (1 : Int32)) (lv' := [(6, .int (v6 + (1 : Int32))), (5, .int r55), (4, .int (if 0 ≤ (r55 - v5) then (r55 - v5) else 0 - (r55 - v5))), (3, .int v6), (7, .int r55), (0, .ref (h 0)), (1, .int v1), (2, .int v2)]) hx hb dX6_jump_104 hl (k := 7) rfl rfl (by decide) rfl (fun ls hl => ?_)
              refine lv_goto (tgt := 38) hx hb dX6_jump_107 (by decide) ?_
              exact i38 v6 (if 0 ≤ (r55 - v5) then (r55 - v5) else 0 - (r55 - v5)) r55 (v6 + (1 : Int32)) S55 _ _ _ (lv_sub hl [5, 6, 7, 3, 2, 1, 0] rfl) hP hS hw
  unfold kX6_jump at hw
  refine lv_iload_n hx hb dX6_jump_0 rfl (lv_at hl 1 rfl) ?_
  refine xSi0 (As := [.int v1]) (rest := []) hst hE hP hS ⟨hx, hb, hml, hown, hts⟩ (mX6_isTop l D h cI cJ t0 hh S L v1 _ hw) (va_cwS 1 hts gX6_jump_X6_isTop rfl rfl rfl (by decide +kernel) ⟨Nat.le_of_ble_eq_true rfl, Nat.le_of_ble_eq_true rfl⟩) rfl hl.1 rfl (Nat.le_of_ble_eq_true rfl) dX6_jump_1 ⟨Nat.zero_le _, Nat.zero_le _⟩ (fun r1 H locs hw hP hS => ?_)
  refine lv_if_eq (tgt := 17) hx hb dX6_jump_4 (by decide) (fun hc => ?_) (fun hc => ?_)
  · replace hw := And.left hw hc
    refine lv_iconst (v := (-1 : Int32)) hx hb dX6_jump_17 (by decide) ?_
    exact hret _ _ _ _ _ _ hP hS hw dX6_jump_18
  · replace hw := And.right hw hc
    refine lv_iload_n hx hb dX6_jump_7 rfl (lv_at hl 2 rfl) ?_
    refine lv_i2l hx hb dX6_jump_8 rfl ?_
    refine lv_lconst (v := (0 : Int64)) hx hb dX6_jump_9 (by decide) ?_
    refine lv_lconst (v := (1 : Int64)) hx hb dX6_jump_10 (by decide) ?_
    refine xSi0 (As := [.long v2.toInt64, .long (0 : Int64), .long (1 : Int64)]) (rest := []) hst hE hP hS ⟨hx, hb, hml, hown, hts⟩ (mX6_isWithin l D h cI cJ t0 hh S L v2.toInt64 (0 : Int64) (1 : Int64) _ hw) (va_cwS 3 hts gX6_jump_X6_isWithin rfl rfl rfl (by decide +kernel) ⟨Nat.le_of_ble_eq_true rfl, Nat.le_of_ble_eq_true rfl⟩) rfl hl.1 rfl (Nat.le_of_ble_eq_true rfl) dX6_jump_11 ⟨Nat.zero_le _, Nat.zero_le _⟩ (fun r11 H locs hw hP hS => ?_)
    refine lv_if_ne (tgt := 19) hx hb dX6_jump_14 (by decide) (fun hc => ?_) (fun hc => ?_)
    · replace hw := And.right hw hc
      refine lv_bipush (v := (-4 : Int32)) hx hb dX6_jump_19 (by decide) ?_
      refine lv_istore_n (lv' := [(3, .int (-4 : Int32)), (0, .ref (h 0)), (1, .int v1), (2, .int v2)]) hx hb dX6_jump_21 rfl hl (by decide) rfl (fun ls hl => ?_)
      refine lv_bipush (v := (-4 : Int32)) hx hb dX6_jump_22 (by decide) ?_
      refine lv_istore (lv' := [(4, .int (-4 : Int32)), (3, .int (-4 : Int32)), (0, .ref (h 0)), (1, .int v1), (2, .int v2)]) hx hb dX6_jump_24 hl (by decide) rfl (fun ls hl => ?_)
      refine lv_aload_n hx hb dX6_jump_26 rfl (lv_at hl 2 rfl) ?_
      refine lv_iconst (v := (0 : Int32)) hx hb dX6_jump_27 (by decide) ?_
      refine lv_iconst (v := (0 : Int32)) hx hb dX6_jump_28 (by decide) ?_
      refine lv_iload_n hx hb dX6_jump_29 rfl (lv_at hl 3 rfl) ?_
      refine xVi1 (As := [.int (0 : Int32), .int (0 : Int32), .int v1]) (rest := []) hst hE hP hS ⟨hx, hb, hml, hown, hts⟩ (va_recv hK hP (ci := 6) (q := (RX6, TX6, 8)) rfl wX_0) (mX6_partsOfYear l D h cI cJ t0 hh S L (0 : Int32) (0 : Int32) v1 _ hw) (cwV 3 hts gX6_jump_X6_partsOfYear rfl rfl rfl (by decide +kernel) ⟨Nat.le_of_ble_eq_true rfl, Nat.le_of_ble_eq_true rfl⟩) rfl hl.1 rfl (Nat.le_of_ble_eq_true rfl) dX6_jump_30 ⟨Nat.zero_le _, Nat.zero_le _⟩ (fun r30 S30 H locs hw hP hS => ?_)
      refine lv_istore (lv' := [(5, .int r30), (4, .int (-4 : Int32)), (3, .int (-4 : Int32)), (0, .ref (h 0)), (1, .int v1), (2, .int v2)]) hx hb dX6_jump_33 hl (by decide) rfl (fun ls hl => ?_)
      refine lv_iconst (v := (0 : Int32)) hx hb dX6_jump_35 (by decide) ?_
      refine lv_istore (lv' := [(6, .int (0 : Int32)), (5, .int r30), (4, .int (-4 : Int32)), (3, .int (-4 : Int32)), (0, .ref (h 0)), (1, .int v1), (2, .int v2)]) hx hb dX6_jump_36 hl (by decide) rfl (fun ls hl => ?_)
      obtain ⟨n38, hw⟩ := hw
      exact b38  n38 (-4 : Int32) (-4 : Int32) r30 (0 : Int32) S30 _ _ _ (lv_sub hl [4, 5, 6, 3, 2, 1, 0] rfl) hP hS hw
    · replace hw := And.left hw hc
      refine lv_iconst (v := (-1 : Int32)) hx hb dX6_jump_17 (by decide) ?_
      exact hret _ _ _ _ _ _ hP hS hw dX6_jump_18
abbrev rX6_alone : Room := { frames := 6, cells := 0, slots := 0, locals := 140 }
set_option maxHeartbeats 4000000 in
set_option maxRecDepth 100000 in
theorem mX6_alone (l : Launch) (D : va_G) (h : Nat → Nat) (cI cJ : ClassId) (t0 : Nat) (hh : xdis 53 h) (S : SX) (L : LX) (v1 : Int32) (v2 : Int32) (v3 : Int32) (post : Int64 → SX → Prop) (hw : kX6_alone S L v1 v2 v3 post) : Met l yX6_alone wsX6_alone rX6_alone (xPre D (wX h cI cJ) (xE D h cI cJ t0) S L [.ref (h 0), .int v1, .int v2, .int v3]) (va_Ql (fun (r : Int64) (u : SX × LX) => post r u.1 ∧ u.2 = L) (xB D (wX h cI cJ)) (xA 53 h)) 0 0 (xA 53 h) := by
  refine Met.ofW (cc := cX6_alone) (maxL := 4) (ret := (some .long)) (by decide) rfl ?_
  intro p e s m args below meth c s₁ B hml hv
  obtain ⟨hargs, hP, hE⟩ := hv
  have hx := B.exec
  have hb := B.bytes
  have hr := B.returns
  have hlocks := B.notSynchronized
  have hts := atoms_spec (ws := wsX6_alone) B.pre
  have hown : s.vm.findClass RX6 = some m.cls := findClass_of_methodNamed B.named
  have hS : va_S (xA 53 h) s.heap s.heap [] := va_S.rf
  have hD : ∀ (S : SX) (L : LX), va_D (xA 53 h) (wX h cI cJ S L) := fun S L => wX_D hh cI cJ S L
  have hK := hE.1
  have hst : xSt (xA 53 h) (xE D h cI cJ t0) := xE_st D h cI cJ t0
  have f0 := hts (.constantLong RX6 289 (-1000000000000000001)) (by decide +kernel)
  have hl := lv_entry ([.ref (h 0), .int v1, .int v2, .int v3]) (n := 4) (Nat.le_of_ble_eq_true rfl)
  have hen : entryFrame m args 4 = F0 m 0 ((lg_sl ([.ref (h 0), .int v1, .int v2, .int v3]) ++ List.replicate (4 - (lg_sl ([.ref (h 0), .int v1, .int v2, .int v3])).length) Slot.unset).toArray) [] := by rw [hargs]; exact lg_entry_eq m _ _
  rw [hen]
  generalize (lg_sl ([.ref (h 0), .int v1, .int v2, .int v3]) ++ List.replicate (4 - (lg_sl ([.ref (h 0), .int v1, .int v2, .int v3])).length) Slot.unset).toArray = ls at hl ⊢
  have hl : lv_has ls 4 [(0, .ref (h 0)), (1, .int v1), (2, .int v2), (3, .int v3)] := hl
  change W p l e rX6_alone s m args below meth c s.heap [] 0 0 (MQ below (va_Ql (fun (r : Int64) (u : SX × LX) => post r u.1 ∧ u.2 = L) (xB D (wX h cI cJ)) (xA 53 h)) args s 0 0 (xA 53 h)) (F0 m 0 ls [])
  have hret : ∀ (r : Int64) (S1 : SX) (H : Heap) (locs : List Loc) (ls : Array Slot) (pc : Nat), va_P D vwCl (wX h cI cJ S1 L) H → va_S (xA 53 h) s.heap H locs → post r S1 → decode cX6_alone pc = .ok (.lreturn, 1) → W p l e rX6_alone s m args below meth c H locs 0 0 (MQ below (va_Ql (fun (r : Int64) (u : SX × LX) => post r u.1 ∧ u.2 = L) (xB D (wX h cI cJ)) (xA 53 h)) args s 0 0 (xA 53 h)) (F0 m pc ls [.long r]) := fun r S1 H locs ls pc hP hS hw hd => W.lret hx hb hr (fun t ht hW => ⟨⟨r, (S1, L), rfl, ⟨hw, rfl⟩, show va_P D vwCl (wX h cI cJ S1 L) t.heap by rw [ht]; exact hP⟩, hS.F ht⟩) hS.2.2 hd
  generalize MQ below (va_Ql (fun (r : Int64) (u : SX × LX) => post r u.1 ∧ u.2 = L) (xB D (wX h cI cJ)) (xA 53 h)) args s 0 0 (xA 53 h) = Q at hret ⊢
  unfold kX6_alone at hw
  refine lv_iload_n hx hb dX6_alone_0 rfl (lv_at hl 1 rfl) ?_
  refine xSi0 (As := [.int v1]) (rest := []) hst hE hP hS ⟨hx, hb, hml, hown, hts⟩ (mX6_isYear l D h cI cJ t0 hh S L v1 _ hw) (va_cwS 1 hts gX6_alone_X6_isYear rfl rfl rfl (by decide +kernel) ⟨Nat.le_of_ble_eq_true rfl, Nat.le_of_ble_eq_true rfl⟩) rfl hl.1 rfl (Nat.le_of_ble_eq_true rfl) dX6_alone_1 ⟨Nat.zero_le _, Nat.zero_le _⟩ (fun r1 H locs hw hP hS => ?_)
  refine lv_if_eq (tgt := 21) hx hb dX6_alone_4 (by decide) (fun hc => ?_) (fun hc => ?_)
  · replace hw := And.left hw hc
    refine lv_ldc2 (v := (-1000000000000000001 : Int64)) hx hb hown (f0) dX6_alone_21 ?_
    exact hret _ _ _ _ _ _ hP hS hw dX6_alone_24
  · replace hw := And.right hw hc
    refine lv_iload_n hx hb dX6_alone_7 rfl (lv_at hl 2 rfl) ?_
    refine xSi0 (As := [.int v2]) (rest := []) hst hE hP hS ⟨hx, hb, hml, hown, hts⟩ (mX6_isYear l D h cI cJ t0 hh S L v2 _ hw) (va_cwS 1 hts gX6_alone_X6_isYear rfl rfl rfl (by decide +kernel) ⟨Nat.le_of_ble_eq_true rfl, Nat.le_of_ble_eq_true rfl⟩) rfl hl.1 rfl (Nat.le_of_ble_eq_true rfl) dX6_alone_8 ⟨Nat.zero_le _, Nat.zero_le _⟩ (fun r8 H locs hw hP hS => ?_)
    refine lv_if_eq (tgt := 21) hx hb dX6_alone_11 (by decide) (fun hc => ?_) (fun hc => ?_)
    · replace hw := And.left hw hc
      refine lv_ldc2 (v := (-1000000000000000001 : Int64)) hx hb hown (f0) dX6_alone_21 ?_
      exact hret _ _ _ _ _ _ hP hS hw dX6_alone_24
    · replace hw := And.right hw hc
      refine lv_iload_n hx hb dX6_alone_14 rfl (lv_at hl 3 rfl) ?_
      refine xSi0 (As := [.int v3]) (rest := []) hst hE hP hS ⟨hx, hb, hml, hown, hts⟩ (mX6_isTop l D h cI cJ t0 hh S L v3 _ hw) (va_cwS 1 hts gX6_alone_X6_isTop rfl rfl rfl (by decide +kernel) ⟨Nat.le_of_ble_eq_true rfl, Nat.le_of_ble_eq_true rfl⟩) rfl hl.1 rfl (Nat.le_of_ble_eq_true rfl) dX6_alone_15 ⟨Nat.zero_le _, Nat.zero_le _⟩ (fun r15 H locs hw hP hS => ?_)
      refine lv_if_ne (tgt := 25) hx hb dX6_alone_18 (by decide) (fun hc => ?_) (fun hc => ?_)
      · replace hw := And.right hw hc
        refine lv_aload_n hx hb dX6_alone_25 rfl (lv_at hl 0 rfl) ?_
        refine lv_iload_n hx hb dX6_alone_26 rfl (lv_at hl 1 rfl) ?_
        refine lv_iload_n hx hb dX6_alone_27 rfl (lv_at hl 2 rfl) ?_
        refine lv_iload_n hx hb dX6_alone_28 rfl (lv_at hl 3 rfl) ?_
        refine xVi1 (As := [.int v1, .int v2, .int v3]) (rest := []) hst hE hP hS ⟨hx, hb, hml, hown, hts⟩ (va_recv hK hP (ci := 6) (q := (RX6, TX6, 8)) rfl wX_0) (mX6_partsOfYear l D h cI cJ t0 hh S L v1 v2 v3 _ hw) (cwV 3 hts gX6_alone_X6_partsOfYear rfl rfl rfl (by decide +kernel) ⟨Nat.le_of_ble_eq_true rfl, Nat.le_of_ble_eq_true rfl⟩) rfl hl.1 rfl (Nat.le_of_ble_eq_true rfl) dX6_alone_29 ⟨Nat.zero_le _, Nat.zero_le _⟩ (fun r29 S29 H locs hw hP hS => ?_)
        refine xSi0 (As := [.int r29]) (rest := []) hst hE hP hS ⟨hx, hb, hml, hown, hts⟩ (mX6_noneAsZero l D h cI cJ t0 hh S29 L r29 _ hw) (va_cwS 1 hts gX6_alone_X6_noneAsZero rfl rfl rfl (by decide +kernel) ⟨Nat.le_of_ble_eq_true rfl, Nat.le_of_ble_eq_true rfl⟩) rfl hl.1 rfl (Nat.le_of_ble_eq_true rfl) dX6_alone_32 ⟨Nat.zero_le _, Nat.zero_le _⟩ (fun r32 H locs hw hP hS => ?_)
        refine lv_aload_n hx hb dX6_alone_35 rfl (lv_at hl 0 rfl) ?_
        refine lv_iload_n hx hb dX6_alone_36 rfl (lv_at hl 1 rfl) ?_
        refine lv_iload_n hx hb dX6_alone_37 rfl (lv_at hl 1 rfl) ?_
        refine lv_iload_n hx hb dX6_alone_38 rfl (lv_at hl 3 rfl) ?_
        refine xVi1 (As := [.int v1, .int v1, .int v3]) (rest := [.int r32]) hst hE hP hS ⟨hx, hb, hml, hown, hts⟩ (va_recv hK hP (ci := 6) (q := (RX6, TX6, 8)) rfl wX_0) (mX6_partsOfYear l D h cI cJ t0 hh S29 L v1 v1 v3 _ hw) (cwV 3 hts gX6_alone_X6_partsOfYear rfl rfl rfl (by decide +kernel) ⟨Nat.le_of_ble_eq_true rfl, Nat.le_of_ble_eq_true rfl⟩) rfl hl.1 rfl (Nat.le_of_ble_eq_true rfl) dX6_alone_39 ⟨Nat.zero_le _, Nat.zero_le _⟩ (fun r39 S39 H locs hw hP hS => ?_)
        refine xSi0 (As := [.int r39]) (rest := [.int r32]) hst hE hP hS ⟨hx, hb, hml, hown, hts⟩ (mX6_noneAsZero l D h cI cJ t0 hh S39 L r39 _ hw) (va_cwS 1 hts gX6_alone_X6_noneAsZero rfl rfl rfl (by decide +kernel) ⟨Nat.le_of_ble_eq_true rfl, Nat.le_of_ble_eq_true rfl⟩) rfl hl.1 rfl (Nat.le_of_ble_eq_true rfl) dX6_alone_42 ⟨Nat.zero_le _, Nat.zero_le _⟩ (fun r42 H locs hw hP hS => ?_)
        refine lv_isub hx hb dX6_alone_45 ?_
        refine lv_i2l hx hb dX6_alone_46 rfl ?_
        exact hret _ _ _ _ _ _ hP hS hw dX6_alone_47
      · replace hw := And.left hw hc
        refine lv_ldc2 (v := (-1000000000000000001 : Int64)) hx hb hown (f0) dX6_alone_21 ?_
        exact hret _ _ _ _ _ _ hP hS hw dX6_alone_24
abbrev rX6_bounds : Room := { frames := 5, cells := 0, slots := 0, locals := 118 }
set_option maxHeartbeats 4000000 in
set_option maxRecDepth 100000 in
theorem mX6_bounds (l : Launch) (D : va_G) (h : Nat → Nat) (cI cJ : ClassId) (t0 : Nat) (hh : xdis 53 h) (S : SX) (L : LX) (v1 : Int32) (v2 : Int32) (v3 : Int32) (post : Int32 → SX → Prop) (hw : kX6_bounds S L v1 v2 v3 post) : Met l yX6_bounds wsX6_bounds rX6_bounds (xPre D (wX h cI cJ) (xE D h cI cJ t0) S L [.ref (h 0), .int v1, .int v2, .int v3]) (va_Qi (fun (r : Int32) (u : SX × LX) => post r u.1 ∧ u.2 = L) (xB D (wX h cI cJ)) (xA 53 h)) 0 0 (xA 53 h) := by
  refine Met.ofW (cc := cX6_bounds) (maxL := 10) (ret := (some .int)) (by decide) rfl ?_
  intro p e s m args below meth c s₁ B hml hv
  obtain ⟨hargs, hP, hE⟩ := hv
  have hx := B.exec
  have hb := B.bytes
  have hr := B.returns
  have hlocks := B.notSynchronized
  have hts := atoms_spec (ws := wsX6_bounds) B.pre
  have hown : s.vm.findClass RX6 = some m.cls := findClass_of_methodNamed B.named
  have hS : va_S (xA 53 h) s.heap s.heap [] := va_S.rf
  have hD : ∀ (S : SX) (L : LX), va_D (xA 53 h) (wX h cI cJ S L) := fun S L => wX_D hh cI cJ S L
  have hK := hE.1
  have hst : xSt (xA 53 h) (xE D h cI cJ t0) := xE_st D h cI cJ t0
  have f0 := hts (.fieldLink RX6 22 "BookOfWills" "living" "LBookOfWills$Living;") (by decide +kernel)
  have inX6 : ∀ w ∈ u_ws RX6 TX6 8, w ∈ wsX6_bounds := fun w hw9 => List.mem_cons_of_mem _ (List.mem_append_left _ (List.mem_append_left _ (List.mem_append_left _ (List.mem_append_left _ (List.mem_append_right _ hw9)))))
  have f2 := hts (.fieldLink RX6 10 "BookOfWills" "world" "LBookOfWills$World;") (by decide +kernel)
  have f3 := hts (.constantLong RX6 251 (10)) (by decide +kernel)
  have hl := lv_entry ([.ref (h 0), .int v1, .int v2, .int v3]) (n := 10) (Nat.le_of_ble_eq_true rfl)
  have hen : entryFrame m args 10 = F0 m 0 ((lg_sl ([.ref (h 0), .int v1, .int v2, .int v3]) ++ List.replicate (10 - (lg_sl ([.ref (h 0), .int v1, .int v2, .int v3])).length) Slot.unset).toArray) [] := by rw [hargs]; exact lg_entry_eq m _ _
  rw [hen]
  generalize (lg_sl ([.ref (h 0), .int v1, .int v2, .int v3]) ++ List.replicate (10 - (lg_sl ([.ref (h 0), .int v1, .int v2, .int v3])).length) Slot.unset).toArray = ls at hl ⊢
  have hl : lv_has ls 10 [(0, .ref (h 0)), (1, .int v1), (2, .int v2), (3, .int v3)] := hl
  change W p l e rX6_bounds s m args below meth c s.heap [] 0 0 (MQ below (va_Qi (fun (r : Int32) (u : SX × LX) => post r u.1 ∧ u.2 = L) (xB D (wX h cI cJ)) (xA 53 h)) args s 0 0 (xA 53 h)) (F0 m 0 ls [])
  have hret : ∀ (r : Int32) (S1 : SX) (H : Heap) (locs : List Loc) (ls : Array Slot) (pc : Nat), va_P D vwCl (wX h cI cJ S1 L) H → va_S (xA 53 h) s.heap H locs → post r S1 → decode cX6_bounds pc = .ok (.ireturn, 1) → W p l e rX6_bounds s m args below meth c H locs 0 0 (MQ below (va_Qi (fun (r : Int32) (u : SX × LX) => post r u.1 ∧ u.2 = L) (xB D (wX h cI cJ)) (xA 53 h)) args s 0 0 (xA 53 h)) (F0 m pc ls [.int r]) := fun r S1 H locs ls pc hP hS hw hd => W.iret hx hb hr (fun t ht hW => ⟨⟨r, (S1, L), rfl, ⟨hw, rfl⟩, show va_P D vwCl (wX h cI cJ S1 L) t.heap by rw [ht]; exact hP⟩, hS.F ht⟩) hS.2.2 hd
  generalize MQ below (va_Qi (fun (r : Int32) (u : SX × LX) => post r u.1 ∧ u.2 = L) (xB D (wX h cI cJ)) (xA 53 h)) args s 0 0 (xA 53 h) = Q at hret ⊢
  have b109 : ∀ (v6 : Int64) (z0 : Int64) (S : SX) (H : Heap) (locs : List Loc) (ls : Array Slot), lv_has ls 10 [(6, .long v6)] → va_P D vwCl (wX h cI cJ S L) H → va_S (xA 53 h) s.heap H locs → kX6_bounds_b109 L v1 v2 v3 post v6 z0 S → W p l e rX6_bounds s m args below meth c H locs 0 0 Q (F0 m 109 ls [.long z0]) := by
    intro v6 z0 S H locs ls hl hP hS hw
    unfold kX6_bounds_b109 at hw
    refine lv_lload hx hb dX6_bounds_109 (lv_at hl 0 rfl) ?_
    refine xSi0 (As := [.long z0, .long v6]) (rest := []) hst hE hP hS ⟨hx, hb, hml, hown, hts⟩ (mX6_parts l D h cI cJ t0 hh S L z0 v6 _ hw) (va_cwS 2 hts gX6_bounds_X6_parts rfl rfl rfl (by decide +kernel) ⟨Nat.le_of_ble_eq_true rfl, Nat.le_of_ble_eq_true rfl⟩) rfl hl.1 rfl (Nat.le_of_ble_eq_true rfl) dX6_bounds_111 ⟨Nat.zero_le _, Nat.zero_le _⟩ (fun r111 H locs hw hP hS => ?_)
    exact hret _ _ _ _ _ _ hP hS hw dX6_bounds_114
  unfold kX6_bounds at hw
  refine lv_iload_n hx hb dX6_bounds_0 rfl (lv_at hl 1 rfl) ?_
  refine xSi0 (As := [.int v1]) (rest := []) hst hE hP hS ⟨hx, hb, hml, hown, hts⟩ (mX6_isYear l D h cI cJ t0 hh S L v1 _ hw) (va_cwS 1 hts gX6_bounds_X6_isYear rfl rfl rfl (by decide +kernel) ⟨Nat.le_of_ble_eq_true rfl, Nat.le_of_ble_eq_true rfl⟩) rfl hl.1 rfl (Nat.le_of_ble_eq_true rfl) dX6_bounds_1 ⟨Nat.zero_le _, Nat.zero_le _⟩ (fun r1 H locs hw hP hS => ?_)
  refine lv_if_eq (tgt := 24) hx hb dX6_bounds_4 (by decide) (fun hc => ?_) (fun hc => ?_)
  · replace hw := And.left hw hc
    refine lv_iconst (v := (-1 : Int32)) hx hb dX6_bounds_24 (by decide) ?_
    exact hret _ _ _ _ _ _ hP hS hw dX6_bounds_25
  · replace hw := And.right hw hc
    refine lv_iload_n hx hb dX6_bounds_7 rfl (lv_at hl 2 rfl) ?_
    refine xSi0 (As := [.int v2]) (rest := []) hst hE hP hS ⟨hx, hb, hml, hown, hts⟩ (mX6_isTop l D h cI cJ t0 hh S L v2 _ hw) (va_cwS 1 hts gX6_bounds_X6_isTop rfl rfl rfl (by decide +kernel) ⟨Nat.le_of_ble_eq_true rfl, Nat.le_of_ble_eq_true rfl⟩) rfl hl.1 rfl (Nat.le_of_ble_eq_true rfl) dX6_bounds_8 ⟨Nat.zero_le _, Nat.zero_le _⟩ (fun r8 H locs hw hP hS => ?_)
    refine lv_if_eq (tgt := 24) hx hb dX6_bounds_11 (by decide) (fun hc => ?_) (fun hc => ?_)
    · replace hw := And.left hw hc
      refine lv_iconst (v := (-1 : Int32)) hx hb dX6_bounds_24 (by decide) ?_
      exact hret _ _ _ _ _ _ hP hS hw dX6_bounds_25
    · replace hw := And.right hw hc
      refine lv_iload_n hx hb dX6_bounds_14 rfl (lv_at hl 3 rfl) ?_
      refine lv_i2l hx hb dX6_bounds_15 rfl ?_
      refine lv_lconst (v := (0 : Int64)) hx hb dX6_bounds_16 (by decide) ?_
      refine lv_lconst (v := (1 : Int64)) hx hb dX6_bounds_17 (by decide) ?_
      refine xSi0 (As := [.long v3.toInt64, .long (0 : Int64), .long (1 : Int64)]) (rest := []) hst hE hP hS ⟨hx, hb, hml, hown, hts⟩ (mX6_isWithin l D h cI cJ t0 hh S L v3.toInt64 (0 : Int64) (1 : Int64) _ hw) (va_cwS 3 hts gX6_bounds_X6_isWithin rfl rfl rfl (by decide +kernel) ⟨Nat.le_of_ble_eq_true rfl, Nat.le_of_ble_eq_true rfl⟩) rfl hl.1 rfl (Nat.le_of_ble_eq_true rfl) dX6_bounds_18 ⟨Nat.zero_le _, Nat.zero_le _⟩ (fun r18 H locs hw hP hS => ?_)
      refine lv_if_ne (tgt := 26) hx hb dX6_bounds_21 (by decide) (fun hc => ?_) (fun hc => ?_)
      · replace hw := And.right hw hc
        refine lv_aload_n hx hb dX6_bounds_26 rfl (lv_at hl 0 rfl) ?_
        refine va_get (D := D) (ci := 6) (v := .ref (h 33)) (C := RX6) (T := TX6) (N := 8) hx hb hts inX6 hown hK hP 0 wX_0 rfl 3 (by decide) f0 (fun _ h9 => h9) rfl dX6_bounds_27 ?_
        refine lv_aload_n hx hb dX6_bounds_30 rfl (lv_at hl 0 rfl) ?_
        refine va_get (D := D) (ci := 6) (v := .ref (h 1)) (C := RX6) (T := TX6) (N := 8) hx hb hts inX6 hown hK hP 0 wX_0 rfl 0 (by decide) f2 (fun _ h9 => h9) rfl dX6_bounds_31 ?_
        refine lv_iload_n hx hb dX6_bounds_34 rfl (lv_at hl 1 rfl) ?_
        refine lv_iload_n hx hb dX6_bounds_35 rfl (lv_at hl 1 rfl) ?_
        refine xVv1 (As := [.ref (h 1), .int v1, .int v1]) (rest := []) hst hE hP hS ⟨hx, hb, hml, hown, hts⟩ (va_recv hK hP (ci := 1) (q := (RX1, TX1, 4)) rfl wX_33) (mX1_gather l D h cI cJ t0 hh S L v1 v1 _ hw) (cwV 3 hts gX6_bounds_X1_gather rfl rfl rfl (by decide +kernel) ⟨Nat.le_of_ble_eq_true rfl, Nat.le_of_ble_eq_true rfl⟩) rfl hl.1 rfl (Nat.le_of_ble_eq_true rfl) dX6_bounds_36 ⟨Nat.zero_le _, Nat.zero_le _⟩ (fun S36 H locs hw hP hS => ?_)
        refine lv_aload_n hx hb dX6_bounds_39 rfl (lv_at hl 0 rfl) ?_
        refine va_get (D := D) (ci := 6) (v := .ref (h 1)) (C := RX6) (T := TX6) (N := 8) hx hb hts inX6 hown hK hP 0 wX_0 rfl 0 (by decide) f2 (fun _ h9 => h9) rfl dX6_bounds_40 ?_
        refine lv_iload_n hx hb dX6_bounds_43 rfl (lv_at hl 1 rfl) ?_
        refine xVl0 (As := [.int v1]) (rest := []) hst hE hP hS ⟨hx, hb, hml, hown, hts⟩ (va_recv hK hP (ci := 5) (q := (RX5, TX5, 10)) rfl wX_1) (mX5_sumUnseen l D h cI cJ t0 hh S36 L v1 _ hw) (cwV 1 hts gX6_bounds_X5_sumUnseen rfl rfl rfl (by decide +kernel) ⟨Nat.le_of_ble_eq_true rfl, Nat.le_of_ble_eq_true rfl⟩) rfl hl.1 rfl (Nat.le_of_ble_eq_true rfl) dX6_bounds_44 ⟨Nat.zero_le _, Nat.zero_le _⟩ (fun r44 H locs hw hP hS => ?_)
        refine lv_lstore (lv' := [(4, .long r44), (0, .ref (h 0)), (1, .int v1), (2, .int v2), (3, .int v3)]) hx hb dX6_bounds_47 hl (by decide) rfl (fun ls hl => ?_)
        refine lv_aload_n hx hb dX6_bounds_49 rfl (lv_at hl 1 rfl) ?_
        refine va_get (D := D) (ci := 6) (v := .ref (h 33)) (C := RX6) (T := TX6) (N := 8) hx hb hts inX6 hown hK hP 0 wX_0 rfl 3 (by decide) f0 (fun _ h9 => h9) rfl dX6_bounds_50 ?_
        refine lv_iconst (v := (-1 : Int32)) hx hb dX6_bounds_53 (by decide) ?_
        refine xVl0 (As := [.int (-1 : Int32)]) (rest := []) hst hE hP hS ⟨hx, hb, hml, hown, hts⟩ (va_recv hK hP (ci := 1) (q := (RX1, TX1, 4)) rfl wX_33) (mX1_sumAll l D h cI cJ t0 hh S36 L (-1 : Int32) _ hw) (cwV 1 hts gX6_bounds_X1_sumAll rfl rfl rfl (by decide +kernel) ⟨Nat.le_of_ble_eq_true rfl, Nat.le_of_ble_eq_true rfl⟩) rfl hl.1 rfl (Nat.le_of_ble_eq_true rfl) dX6_bounds_54 ⟨Nat.zero_le _, Nat.zero_le _⟩ (fun r54 H locs hw hP hS => ?_)
        refine lv_lload hx hb dX6_bounds_57 (lv_at hl 0 rfl) ?_
        refine lv_ladd hx hb dX6_bounds_59 ?_
        refine lv_lstore (lv' := [(6, .long (r54 + r44)), (4, .long r44), (0, .ref (h 0)), (1, .int v1), (2, .int v2), (3, .int v3)]) hx hb dX6_bounds_60 hl (by decide) rfl (fun ls hl => ?_)
        refine lv_lload hx hb dX6_bounds_62 (lv_at hl 0 rfl) ?_
        refine lv_lconst (v := (0 : Int64)) hx hb dX6_bounds_64 (by decide) ?_
        refine W.lcmp hx hb dX6_bounds_65 ?_
        refine lv_if_ne (tgt := 72) hx hb dX6_bounds_66 (by decide) (fun hc => ?_) (fun hc => ?_)
        · replace hw := And.right hw (fun q => hc ((lg_cmp_eq _ _).mpr q))
          refine lv_aload_n hx hb dX6_bounds_72 rfl (lv_at hl 2 rfl) ?_
          refine va_get (D := D) (ci := 6) (v := .ref (h 33)) (C := RX6) (T := TX6) (N := 8) hx hb hts inX6 hown hK hP 0 wX_0 rfl 3 (by decide) f0 (fun _ h9 => h9) rfl dX6_bounds_73 ?_
          refine lv_aload_n hx hb dX6_bounds_76 rfl (lv_at hl 2 rfl) ?_
          refine va_get (D := D) (ci := 6) (v := .ref (h 1)) (C := RX6) (T := TX6) (N := 8) hx hb hts inX6 hown hK hP 0 wX_0 rfl 0 (by decide) f2 (fun _ h9 => h9) rfl dX6_bounds_77 ?_
          refine lv_iload_n hx hb dX6_bounds_80 rfl (lv_at hl 3 rfl) ?_
          refine lv_iload_n hx hb dX6_bounds_81 rfl (lv_at hl 4 rfl) ?_
          refine xVl0 (As := [.int v1, .int v2]) (rest := [.ref (h 33)]) hst hE hP hS ⟨hx, hb, hml, hown, hts⟩ (va_recv hK hP (ci := 5) (q := (RX5, TX5, 10)) rfl wX_1) (mX5_topRoom l D h cI cJ t0 hh S36 L v1 v2 _ hw) (cwV 2 hts gX6_bounds_X5_topRoom rfl rfl rfl (by decide +kernel) ⟨Nat.le_of_ble_eq_true rfl, Nat.le_of_ble_eq_true rfl⟩) rfl hl.1 rfl (Nat.le_of_ble_eq_true rfl) dX6_bounds_82 ⟨Nat.zero_le _, Nat.zero_le _⟩ (fun r82 H locs hw hP hS => ?_)
          refine lv_iconst (v := (-1 : Int32)) hx hb dX6_bounds_85 (by decide) ?_
          refine xVl0 (As := [.long r82, .int (-1 : Int32)]) (rest := []) hst hE hP hS ⟨hx, hb, hml, hown, hts⟩ (va_recv hK hP (ci := 1) (q := (RX1, TX1, 4)) rfl wX_33) (mX1_sumTop l D h cI cJ t0 hh S36 L r82 (-1 : Int32) _ hw) (cwV 2 hts gX6_bounds_X1_sumTop rfl rfl rfl (by decide +kernel) ⟨Nat.le_of_ble_eq_true rfl, Nat.le_of_ble_eq_true rfl⟩) rfl hl.1 rfl (Nat.le_of_ble_eq_true rfl) dX6_bounds_86 ⟨Nat.zero_le _, Nat.zero_le _⟩ (fun r86 H locs hw hP hS => ?_)
          refine lv_lstore (lv' := [(8, .long r86), (6, .long (r54 + r44)), (4, .long r44), (0, .ref (h 0)), (1, .int v1), (2, .int v2), (3, .int v3)]) hx hb dX6_bounds_89 hl (by decide) rfl (fun ls hl => ?_)
          refine lv_iload_n hx hb dX6_bounds_91 rfl (lv_at hl 6 rfl) ?_
          refine lv_if_ne (tgt := 100) hx hb dX6_bounds_92 (by decide) (fun hc => ?_) (fun hc => ?_)
          · replace hw := And.right hw hc
            refine lv_lload hx hb dX6_bounds_100 (lv_at hl 0 rfl) ?_
            refine lv_ldc2 (v := (10 : Int64)) hx hb hown (f3) dX6_bounds_102 ?_
            refine lv_lload hx hb dX6_bounds_105 (lv_at hl 2 rfl) ?_
            refine lv_lmul hx hb dX6_bounds_107 ?_
            refine lv_ladd hx hb dX6_bounds_108 ?_
            exact b109 (r54 + r44) (r86 + ((10 : Int64) * r44)) S36 _ _ _ (lv_sub hl [1] rfl) hP hS hw
          · replace hw := And.left hw hc
            refine lv_lload hx hb dX6_bounds_95 (lv_at hl 0 rfl) ?_
            refine lv_goto (tgt := 109) hx hb dX6_bounds_97 (by decide) ?_
            exact b109 (r54 + r44) r86 S36 _ _ _ (lv_sub hl [1] rfl) hP hS hw
        · replace hw := And.left hw ((lg_cmp_eq _ _).mp hc)
          refine lv_bipush (v := (-4 : Int32)) hx hb dX6_bounds_69 (by decide) ?_
          exact hret _ _ _ _ _ _ hP hS hw dX6_bounds_71
      · replace hw := And.left hw hc
        refine lv_iconst (v := (-1 : Int32)) hx hb dX6_bounds_24 (by decide) ?_
        exact hret _ _ _ _ _ _ hP hS hw dX6_bounds_25
abbrev rX6_heap : Room := { frames := 3, cells := 0, slots := 0, locals := 76 }
set_option maxHeartbeats 4000000 in
set_option maxRecDepth 100000 in
theorem mX6_heap (l : Launch) (D : va_G) (h : Nat → Nat) (cI cJ : ClassId) (t0 : Nat) (hh : xdis 53 h) (S : SX) (L : LX) (v1 : Int32) (v2 : Int32) (v3 : Int32) (post : Int32 → Prop) (hw : kX6_heap S L v1 v2 v3 post) : Met l yX6_heap wsX6_heap rX6_heap (xPre D (wX h cI cJ) (xE D h cI cJ t0) S L [.ref (h 0), .int v1, .int v2, .int v3]) (va_Qi (fun (r : Int32) (u : SX × LX) => post r ∧ u.1 = S ∧ u.2 = L) (xB D (wX h cI cJ)) (xA 53 h)) 0 0 (xA 53 h) := by
  refine Met.ofW (cc := cX6_heap) (maxL := 7) (ret := (some .int)) (by decide) rfl ?_
  intro p e s m args below meth c s₁ B hml hv
  obtain ⟨hargs, hP, hE⟩ := hv
  have hx := B.exec
  have hb := B.bytes
  have hr := B.returns
  have hlocks := B.notSynchronized
  have hts := atoms_spec (ws := wsX6_heap) B.pre
  have hown : s.vm.findClass RX6 = some m.cls := findClass_of_methodNamed B.named
  have hS : va_S (xA 53 h) s.heap s.heap [] := va_S.rf
  have hD : ∀ (S : SX) (L : LX), va_D (xA 53 h) (wX h cI cJ S L) := fun S L => wX_D hh cI cJ S L
  have hK := hE.1
  have hst : xSt (xA 53 h) (xE D h cI cJ t0) := xE_st D h cI cJ t0
  have f0 := hts (.constantLong RX6 291 (255)) (by decide +kernel)
  have f1 := hts (.constantLong RX6 202 (999)) (by decide +kernel)
  have f2 := hts (.constantLong RX6 99 (3)) (by decide +kernel)
  have f3 := hts (.fieldLink RX6 10 "BookOfWills" "world" "LBookOfWills$World;") (by decide +kernel)
  have inX6 : ∀ w ∈ u_ws RX6 TX6 8, w ∈ wsX6_heap := fun w hw9 => List.mem_cons_of_mem _ (List.mem_append_left _ (List.mem_append_left _ (List.mem_append_left _ (List.mem_append_right _ hw9))))
  have f5 := hts (.methodLink RX6 282 Lib.Math.max.name) (by decide +kernel)
  have f6 := hts (.static Lib.Math.max.name) (by decide +kernel)
  have f7 := hts (.initialized "java/lang/Math") (by decide +kernel)
  have f8 := hts (.code Lib.Math.max.name Lib.Math.max.code 2 (some .int)) (by decide +kernel)
  have f9 := hts (.fieldLink RX6 149 "BookOfWills$World" "laws" "LBookOfWills$Laws;") (by decide +kernel)
  have inX5 : ∀ w ∈ u_ws RX5 TX5 10, w ∈ wsX6_heap := fun w hw9 => List.mem_cons_of_mem _ (List.mem_append_left _ (List.mem_append_left _ (List.mem_append_right _ hw9)))
  have hl := lv_entry ([.ref (h 0), .int v1, .int v2, .int v3]) (n := 7) (Nat.le_of_ble_eq_true rfl)
  have hen : entryFrame m args 7 = F0 m 0 ((lg_sl ([.ref (h 0), .int v1, .int v2, .int v3]) ++ List.replicate (7 - (lg_sl ([.ref (h 0), .int v1, .int v2, .int v3])).length) Slot.unset).toArray) [] := by rw [hargs]; exact lg_entry_eq m _ _
  rw [hen]
  generalize (lg_sl ([.ref (h 0), .int v1, .int v2, .int v3]) ++ List.replicate (7 - (lg_sl ([.ref (h 0), .int v1, .int v2, .int v3])).length) Slot.unset).toArray = ls at hl ⊢
  have hl : lv_has ls 7 [(0, .ref (h 0)), (1, .int v1), (2, .int v2), (3, .int v3)] := hl
  change W p l e rX6_heap s m args below meth c s.heap [] 0 0 (MQ below (va_Qi (fun (r : Int32) (u : SX × LX) => post r ∧ u.1 = S ∧ u.2 = L) (xB D (wX h cI cJ)) (xA 53 h)) args s 0 0 (xA 53 h)) (F0 m 0 ls [])
  have hret : ∀ (r : Int32) (H : Heap) (locs : List Loc) (ls : Array Slot) (pc : Nat), va_P D vwCl (wX h cI cJ S L) H → va_S (xA 53 h) s.heap H locs → post r → decode cX6_heap pc = .ok (.ireturn, 1) → W p l e rX6_heap s m args below meth c H locs 0 0 (MQ below (va_Qi (fun (r : Int32) (u : SX × LX) => post r ∧ u.1 = S ∧ u.2 = L) (xB D (wX h cI cJ)) (xA 53 h)) args s 0 0 (xA 53 h)) (F0 m pc ls [.int r]) := fun r H locs ls pc hP hS hw hd => W.iret hx hb hr (fun t ht hW => ⟨⟨r, (S, L), rfl, ⟨hw, rfl, rfl⟩, show va_P D vwCl (wX h cI cJ S L) t.heap by rw [ht]; exact hP⟩, hS.F ht⟩) hS.2.2 hd
  generalize MQ below (va_Qi (fun (r : Int32) (u : SX × LX) => post r ∧ u.1 = S ∧ u.2 = L) (xB D (wX h cI cJ)) (xA 53 h)) args s 0 0 (xA 53 h) = Q at hret ⊢
  unfold kX6_heap at hw
  refine lv_iload_n hx hb dX6_heap_0 rfl (lv_at hl 1 rfl) ?_
  refine lv_i2l hx hb dX6_heap_1 rfl ?_
  refine lv_lconst (v := (1 : Int64)) hx hb dX6_heap_2 (by decide) ?_
  refine lv_ldc2 (v := (255 : Int64)) hx hb hown (f0) dX6_heap_3 ?_
  refine xSi0 (As := [.long v1.toInt64, .long (1 : Int64), .long (255 : Int64)]) (rest := []) hst hE hP hS ⟨hx, hb, hml, hown, hts⟩ (mX6_isWithin l D h cI cJ t0 hh S L v1.toInt64 (1 : Int64) (255 : Int64) _ hw) (va_cwS 3 hts gX6_heap_X6_isWithin rfl rfl rfl (by decide +kernel) ⟨Nat.le_of_ble_eq_true rfl, Nat.le_of_ble_eq_true rfl⟩) rfl hl.1 rfl (Nat.le_of_ble_eq_true rfl) dX6_heap_6 ⟨Nat.zero_le _, Nat.zero_le _⟩ (fun r6 H locs hw hP hS => ?_)
  refine lv_if_eq (tgt := 36) hx hb dX6_heap_9 (by decide) (fun hc => ?_) (fun hc => ?_)
  · replace hw := And.left hw hc
    refine lv_iconst (v := (-1 : Int32)) hx hb dX6_heap_36 (by decide) ?_
    exact hret _ _ _ _ _ hP hS hw dX6_heap_37
  · replace hw := And.right hw hc
    refine lv_iload_n hx hb dX6_heap_12 rfl (lv_at hl 2 rfl) ?_
    refine lv_i2l hx hb dX6_heap_13 rfl ?_
    refine lv_lconst (v := (1 : Int64)) hx hb dX6_heap_14 (by decide) ?_
    refine lv_ldc2 (v := (999 : Int64)) hx hb hown (f1) dX6_heap_15 ?_
    refine xSi0 (As := [.long v2.toInt64, .long (1 : Int64), .long (999 : Int64)]) (rest := []) hst hE hP hS ⟨hx, hb, hml, hown, hts⟩ (mX6_isWithin l D h cI cJ t0 hh S L v2.toInt64 (1 : Int64) (999 : Int64) _ hw) (va_cwS 3 hts gX6_heap_X6_isWithin rfl rfl rfl (by decide +kernel) ⟨Nat.le_of_ble_eq_true rfl, Nat.le_of_ble_eq_true rfl⟩) rfl hl.1 rfl (Nat.le_of_ble_eq_true rfl) dX6_heap_18 ⟨Nat.zero_le _, Nat.zero_le _⟩ (fun r18 H locs hw hP hS => ?_)
    refine lv_if_eq (tgt := 36) hx hb dX6_heap_21 (by decide) (fun hc => ?_) (fun hc => ?_)
    · replace hw := And.left hw hc
      refine lv_iconst (v := (-1 : Int32)) hx hb dX6_heap_36 (by decide) ?_
      exact hret _ _ _ _ _ hP hS hw dX6_heap_37
    · replace hw := And.right hw hc
      refine lv_iload_n hx hb dX6_heap_24 rfl (lv_at hl 3 rfl) ?_
      refine lv_i2l hx hb dX6_heap_25 rfl ?_
      refine lv_lconst (v := (0 : Int64)) hx hb dX6_heap_26 (by decide) ?_
      refine lv_ldc2 (v := (3 : Int64)) hx hb hown (f2) dX6_heap_27 ?_
      refine xSi0 (As := [.long v3.toInt64, .long (0 : Int64), .long (3 : Int64)]) (rest := []) hst hE hP hS ⟨hx, hb, hml, hown, hts⟩ (mX6_isWithin l D h cI cJ t0 hh S L v3.toInt64 (0 : Int64) (3 : Int64) _ hw) (va_cwS 3 hts gX6_heap_X6_isWithin rfl rfl rfl (by decide +kernel) ⟨Nat.le_of_ble_eq_true rfl, Nat.le_of_ble_eq_true rfl⟩) rfl hl.1 rfl (Nat.le_of_ble_eq_true rfl) dX6_heap_30 ⟨Nat.zero_le _, Nat.zero_le _⟩ (fun r30 H locs hw hP hS => ?_)
      refine lv_if_ne (tgt := 38) hx hb dX6_heap_33 (by decide) (fun hc => ?_) (fun hc => ?_)
      · replace hw := And.right hw hc
        refine lv_aload_n hx hb dX6_heap_38 rfl (lv_at hl 0 rfl) ?_
        refine va_get (D := D) (ci := 6) (v := .ref (h 1)) (C := RX6) (T := TX6) (N := 8) hx hb hts inX6 hown hK hP 0 wX_0 rfl 0 (by decide) f3 (fun _ h9 => h9) rfl dX6_heap_39 ?_
        refine lv_iload_n hx hb dX6_heap_42 rfl (lv_at hl 1 rfl) ?_
        refine lv_iload_n hx hb dX6_heap_43 rfl (lv_at hl 2 rfl) ?_
        refine lv_ineg hx hb dX6_heap_44 ?_
        refine lv_iconst (v := (0 : Int32)) hx hb dX6_heap_45 (by decide) ?_
        refine xVi0 (As := [.int v1, .int (-v2), .int (0 : Int32)]) (rest := []) hst hE hP hS ⟨hx, hb, hml, hown, hts⟩ (va_recv hK hP (ci := 5) (q := (RX5, TX5, 10)) rfl wX_1) (mX5_howManyNearLine l D h cI cJ t0 hh S L v1 (-v2) (0 : Int32) _ hw) (cwV 3 hts gX6_heap_X5_howManyNearLine rfl rfl rfl (by decide +kernel) ⟨Nat.le_of_ble_eq_true rfl, Nat.le_of_ble_eq_true rfl⟩) rfl hl.1 rfl (Nat.le_of_ble_eq_true rfl) dX6_heap_46 ⟨Nat.zero_le _, Nat.zero_le _⟩ (fun r46 H locs hw hP hS => ?_)
        refine lv_istore (lv' := [(4, .int r46), (0, .ref (h 0)), (1, .int v1), (2, .int v2), (3, .int v3)]) hx hb dX6_heap_49 hl (by decide) rfl (fun ls hl => ?_)
        refine lv_aload_n hx hb dX6_heap_51 rfl (lv_at hl 1 rfl) ?_
        refine va_get (D := D) (ci := 6) (v := .ref (h 1)) (C := RX6) (T := TX6) (N := 8) hx hb hts inX6 hown hK hP 0 wX_0 rfl 0 (by decide) f3 (fun _ h9 => h9) rfl dX6_heap_52 ?_
        refine lv_iload_n hx hb dX6_heap_55 rfl (lv_at hl 2 rfl) ?_
        refine lv_iconst (v := (1 : Int32)) hx hb dX6_heap_56 (by decide) ?_
        refine lv_iload_n hx hb dX6_heap_57 rfl (lv_at hl 3 rfl) ?_
        refine xVi0 (As := [.int v1, .int (1 : Int32), .int v2]) (rest := []) hst hE hP hS ⟨hx, hb, hml, hown, hts⟩ (va_recv hK hP (ci := 5) (q := (RX5, TX5, 10)) rfl wX_1) (mX5_howManyNearLine l D h cI cJ t0 hh S L v1 (1 : Int32) v2 _ hw) (cwV 3 hts gX6_heap_X5_howManyNearLine rfl rfl rfl (by decide +kernel) ⟨Nat.le_of_ble_eq_true rfl, Nat.le_of_ble_eq_true rfl⟩) rfl hl.1 rfl (Nat.le_of_ble_eq_true rfl) dX6_heap_58 ⟨Nat.zero_le _, Nat.zero_le _⟩ (fun r58 H locs hw hP hS => ?_)
        refine lv_istore (lv' := [(5, .int r58), (4, .int r46), (0, .ref (h 0)), (1, .int v1), (2, .int v2), (3, .int v3)]) hx hb dX6_heap_61 hl (by decide) rfl (fun ls hl => ?_)
        refine lv_iload hx hb dX6_heap_63 (lv_at hl 1 rfl) ?_
        refine lv_iload hx hb dX6_heap_65 (lv_at hl 0 rfl) ?_
        refine lv_isub hx hb dX6_heap_67 ?_
        refine lv_iconst (v := (0 : Int32)) hx hb dX6_heap_68 (by decide) ?_
        refine va_mmax hx hb (hml.trans hl.1.symm) hown f5 f6 f7 f8 (Nat.le_of_ble_eq_true rfl) (Nat.le_of_ble_eq_true rfl) (Nat.zero_le _) (Nat.zero_le _) dX6_heap_69 ?_
        refine lv_istore (lv' := [(6, .int (if (r46 - r58) < (0 : Int32) then (0 : Int32) else (r46 - r58))), (5, .int r58), (4, .int r46), (0, .ref (h 0)), (1, .int v1), (2, .int v2), (3, .int v3)]) hx hb dX6_heap_72 hl (by decide) rfl (fun ls hl => ?_)
        refine lv_iload_n hx hb dX6_heap_74 rfl (lv_at hl 6 rfl) ?_
        by_cases hc0 : v3 = (0 : Int32)
        · replace hw := And.left (hw) hc0
          refine lv_tableIn (off := 25) (tgt := 100) hx hb dX6_heap_75 (by rw [hc0]; decide) (by rw [hc0]; decide) (by rw [hc0]; decide) (by decide) ?_
          refine lv_iload hx hb dX6_heap_100 (lv_at hl 0 rfl) ?_
          exact hret _ _ _ _ _ hP hS hw dX6_heap_102
        by_cases hc1 : v3 = (1 : Int32)
        · replace hw := And.left (And.right (hw)) hc1
          refine lv_tableIn (off := 28) (tgt := 103) hx hb dX6_heap_75 (by rw [hc1]; decide) (by rw [hc1]; decide) (by rw [hc1]; decide) (by decide) ?_
          refine lv_iload hx hb dX6_heap_103 (lv_at hl 0 rfl) ?_
          refine lv_aload_n hx hb dX6_heap_105 rfl (lv_at hl 3 rfl) ?_
          refine va_get (D := D) (ci := 6) (v := .ref (h 1)) (C := RX6) (T := TX6) (N := 8) hx hb hts inX6 hown hK hP 0 wX_0 rfl 0 (by decide) f3 (fun _ h9 => h9) rfl dX6_heap_106 ?_
          refine va_get (D := D) (ci := 5) (v := .ref (h 3)) (C := RX5) (T := TX5) (N := 10) hx hb hts inX5 hown hK hP 1 wX_1 rfl 3 (by decide) f9 (fun _ h9 => h9) rfl dX6_heap_109 ?_
          refine lv_iload_n hx hb dX6_heap_112 rfl (lv_at hl 4 rfl) ?_
          refine xVi0 (As := [.int v1]) (rest := [.int (if (r46 - r58) < (0 : Int32) then (0 : Int32) else (r46 - r58))]) hst hE hP hS ⟨hx, hb, hml, hown, hts⟩ (va_recv hK hP (ci := 0) (q := (RX0, TX0, 4)) rfl wX_3) (mX0_greatestKeen l D h cI cJ t0 hh S L v1 _ hw) (cwV 1 hts gX6_heap_X0_greatestKeen rfl rfl rfl (by decide +kernel) ⟨Nat.le_of_ble_eq_true rfl, Nat.le_of_ble_eq_true rfl⟩) rfl hl.1 rfl (Nat.le_of_ble_eq_true rfl) dX6_heap_113 ⟨Nat.zero_le _, Nat.zero_le _⟩ (fun r113 H locs hw hP hS => ?_)
          refine lv_imul hx hb dX6_heap_116 ?_
          exact hret _ _ _ _ _ hP hS hw dX6_heap_117
        by_cases hc2 : v3 = (2 : Int32)
        · replace hw := And.left (And.right (And.right (hw))) hc2
          refine lv_tableIn (off := 43) (tgt := 118) hx hb dX6_heap_75 (by rw [hc2]; decide) (by rw [hc2]; decide) (by rw [hc2]; decide) (by decide) ?_
          refine lv_iload hx hb dX6_heap_118 (lv_at hl 2 rfl) ?_
          exact hret _ _ _ _ _ hP hS hw dX6_heap_120
        replace hw := And.right (And.right (And.right (hw))) hc0 hc1 hc2
        refine lv_tableOut (tgt := 121) hx hb dX6_heap_75 (x_out v3 (fun k h1 h2 => ?_)) (by decide) ?_
        · rcases (show k = 0 ∨ k = 1 ∨ k = 2 by omega) with rfl | rfl | rfl
          · exact hc0
          · exact hc1
          · exact hc2
        refine lv_iload hx hb dX6_heap_121 (lv_at hl 1 rfl) ?_
        exact hret _ _ _ _ _ hP hS hw dX6_heap_123
      · replace hw := And.left hw hc
        refine lv_iconst (v := (-1 : Int32)) hx hb dX6_heap_36 (by decide) ?_
        exact hret _ _ _ _ _ hP hS hw dX6_heap_37
abbrev rX6_beside : Room := { frames := 2, cells := 0, slots := 0, locals := 45 }
set_option maxHeartbeats 4000000 in
set_option maxRecDepth 100000 in
theorem mX6_beside (l : Launch) (D : va_G) (h : Nat → Nat) (cI cJ : ClassId) (t0 : Nat) (hh : xdis 53 h) (S : SX) (L : LX) (v1 : Int32) (v2 : Int64) (v4 : Int64) (post : Int32 → SX → LX → Prop) (hw : kX6_beside S L v1 v2 v4 post) : Met l yX6_beside wsX6_beside rX6_beside (xPre D (wX h cI cJ) (xE D h cI cJ t0) S L [.ref (h 0), .int v1, .long v2, .long v4]) (va_Qi (fun (r : Int32) (u : SX × LX) => post r u.1 u.2) (xB D (wX h cI cJ)) (xA 53 h)) 0 0 (xA 53 h) := by
  refine Met.ofW (cc := cX6_beside) (maxL := 6) (ret := (some .int)) (by decide) rfl ?_
  intro p e s m args below meth c s₁ B hml hv
  obtain ⟨hargs, hP, hE⟩ := hv
  have hx := B.exec
  have hb := B.bytes
  have hr := B.returns
  have hlocks := B.notSynchronized
  have hts := atoms_spec (ws := wsX6_beside) B.pre
  have hown : s.vm.findClass RX6 = some m.cls := findClass_of_methodNamed B.named
  have hS : va_S (xA 53 h) s.heap s.heap [] := va_S.rf
  have hD : ∀ (S : SX) (L : LX), va_D (xA 53 h) (wX h cI cJ S L) := fun S L => wX_D hh cI cJ S L
  have hK := hE.1
  have hst : xSt (xA 53 h) (xE D h cI cJ t0) := xE_st D h cI cJ t0
  have f0 := hts (.constantLong RX6 299 (1000000000000000)) (by decide +kernel)
  have f1 := hts (.fieldLink RX6 10 "BookOfWills" "world" "LBookOfWills$World;") (by decide +kernel)
  have inX6 : ∀ w ∈ u_ws RX6 TX6 8, w ∈ wsX6_beside := fun w hw9 => List.mem_cons_of_mem _ (List.mem_append_left _ (List.mem_append_right _ hw9))
  have f3 := hts (.fieldLink RX6 301 "BookOfWills$World" "leastCounted" "[J") (by decide +kernel)
  have inX5 : ∀ w ∈ u_ws RX5 TX5 10, w ∈ wsX6_beside := fun w hw9 => List.mem_cons_of_mem _ (List.mem_append_right _ hw9)
  have f5 := hts (.fieldLink RX6 305 "BookOfWills$World" "mostCounted" "[J") (by decide +kernel)
  have f6 := hts (.fieldLink RX6 214 "BookOfWills$World" "counted" "I") (by decide +kernel)
  have hl := lv_entry ([.ref (h 0), .int v1, .long v2, .long v4]) (n := 6) (Nat.le_of_ble_eq_true rfl)
  have hen : entryFrame m args 6 = F0 m 0 ((lg_sl ([.ref (h 0), .int v1, .long v2, .long v4]) ++ List.replicate (6 - (lg_sl ([.ref (h 0), .int v1, .long v2, .long v4])).length) Slot.unset).toArray) [] := by rw [hargs]; exact lg_entry_eq m _ _
  rw [hen]
  generalize (lg_sl ([.ref (h 0), .int v1, .long v2, .long v4]) ++ List.replicate (6 - (lg_sl ([.ref (h 0), .int v1, .long v2, .long v4])).length) Slot.unset).toArray = ls at hl ⊢
  have hl : lv_has ls 6 [(0, .ref (h 0)), (1, .int v1), (2, .long v2), (4, .long v4)] := hl
  change W p l e rX6_beside s m args below meth c s.heap [] 0 0 (MQ below (va_Qi (fun (r : Int32) (u : SX × LX) => post r u.1 u.2) (xB D (wX h cI cJ)) (xA 53 h)) args s 0 0 (xA 53 h)) (F0 m 0 ls [])
  have hret : ∀ (r : Int32) (S1 : SX) (L1 : LX) (H : Heap) (locs : List Loc) (ls : Array Slot) (pc : Nat), va_P D vwCl (wX h cI cJ S1 L1) H → va_S (xA 53 h) s.heap H locs → post r S1 L1 → decode cX6_beside pc = .ok (.ireturn, 1) → W p l e rX6_beside s m args below meth c H locs 0 0 (MQ below (va_Qi (fun (r : Int32) (u : SX × LX) => post r u.1 u.2) (xB D (wX h cI cJ)) (xA 53 h)) args s 0 0 (xA 53 h)) (F0 m pc ls [.int r]) := fun r S1 L1 H locs ls pc hP hS hw hd => W.iret hx hb hr (fun t ht hW => ⟨⟨r, (S1, L1), rfl, hw, show va_P D vwCl (wX h cI cJ S1 L1) t.heap by rw [ht]; exact hP⟩, hS.F ht⟩) hS.2.2 hd
  generalize MQ below (va_Qi (fun (r : Int32) (u : SX × LX) => post r u.1 u.2) (xB D (wX h cI cJ)) (xA 53 h)) args s 0 0 (xA 53 h) = Q at hret ⊢
  unfold kX6_beside at hw
  refine lv_iload_n hx hb dX6_beside_0 rfl (lv_at hl 1 rfl) ?_
  refine xSi0 (As := [.int v1]) (rest := []) hst hE hP hS ⟨hx, hb, hml, hown, hts⟩ (mX6_isYear l D h cI cJ t0 hh S L v1 _ hw) (va_cwS 1 hts gX6_beside_X6_isYear rfl rfl rfl (by decide +kernel) ⟨Nat.le_of_ble_eq_true rfl, Nat.le_of_ble_eq_true rfl⟩) rfl hl.1 rfl (Nat.le_of_ble_eq_true rfl) dX6_beside_1 ⟨Nat.zero_le _, Nat.zero_le _⟩ (fun r1 H locs hw hP hS => ?_)
  refine lv_if_eq (tgt := 30) hx hb dX6_beside_4 (by decide) (fun hc => ?_) (fun hc => ?_)
  · replace hw := And.left hw hc
    refine lv_iconst (v := (-1 : Int32)) hx hb dX6_beside_30 (by decide) ?_
    exact hret _ _ _ _ _ _ _ hP hS hw dX6_beside_31
  · replace hw := And.right hw hc
    refine lv_lload_n hx hb dX6_beside_7 rfl (lv_at hl 2 rfl) ?_
    refine lv_lconst (v := (0 : Int64)) hx hb dX6_beside_8 (by decide) ?_
    refine lv_ldc2 (v := (1000000000000000 : Int64)) hx hb hown (f0) dX6_beside_9 ?_
    refine xSi0 (As := [.long v2, .long (0 : Int64), .long (1000000000000000 : Int64)]) (rest := []) hst hE hP hS ⟨hx, hb, hml, hown, hts⟩ (mX6_isWithin l D h cI cJ t0 hh S L v2 (0 : Int64) (1000000000000000 : Int64) _ hw) (va_cwS 3 hts gX6_beside_X6_isWithin rfl rfl rfl (by decide +kernel) ⟨Nat.le_of_ble_eq_true rfl, Nat.le_of_ble_eq_true rfl⟩) rfl hl.1 rfl (Nat.le_of_ble_eq_true rfl) dX6_beside_12 ⟨Nat.zero_le _, Nat.zero_le _⟩ (fun r12 H locs hw hP hS => ?_)
    refine lv_if_eq (tgt := 30) hx hb dX6_beside_15 (by decide) (fun hc => ?_) (fun hc => ?_)
    · replace hw := And.left hw hc
      refine lv_iconst (v := (-1 : Int32)) hx hb dX6_beside_30 (by decide) ?_
      exact hret _ _ _ _ _ _ _ hP hS hw dX6_beside_31
    · replace hw := And.right hw hc
      refine lv_lload hx hb dX6_beside_18 (lv_at hl 3 rfl) ?_
      refine lv_lload_n hx hb dX6_beside_20 rfl (lv_at hl 2 rfl) ?_
      refine lv_ldc2 (v := (1000000000000000 : Int64)) hx hb hown (f0) dX6_beside_21 ?_
      refine xSi0 (As := [.long v4, .long v2, .long (1000000000000000 : Int64)]) (rest := []) hst hE hP hS ⟨hx, hb, hml, hown, hts⟩ (mX6_isWithin l D h cI cJ t0 hh S L v4 v2 (1000000000000000 : Int64) _ hw) (va_cwS 3 hts gX6_beside_X6_isWithin rfl rfl rfl (by decide +kernel) ⟨Nat.le_of_ble_eq_true rfl, Nat.le_of_ble_eq_true rfl⟩) rfl hl.1 rfl (Nat.le_of_ble_eq_true rfl) dX6_beside_24 ⟨Nat.zero_le _, Nat.zero_le _⟩ (fun r24 H locs hw hP hS => ?_)
      refine lv_if_ne (tgt := 32) hx hb dX6_beside_27 (by decide) (fun hc => ?_) (fun hc => ?_)
      · replace hw := And.right hw hc
        refine lv_aload_n hx hb dX6_beside_32 rfl (lv_at hl 0 rfl) ?_
        refine va_get (D := D) (ci := 6) (v := .ref (h 1)) (C := RX6) (T := TX6) (N := 8) hx hb hts inX6 hown hK hP 0 wX_0 rfl 0 (by decide) f1 (fun _ h9 => h9) rfl dX6_beside_33 ?_
        refine va_get (D := D) (ci := 5) (v := .ref (h 15)) (C := RX5) (T := TX5) (N := 10) hx hb hts inX5 hown hK hP 1 wX_1 rfl 8 (by decide) f3 (fun _ h9 => h9) rfl dX6_beside_36 ?_
        refine lv_iload_n hx hb dX6_beside_39 rfl (lv_at hl 1 rfl) ?_
        refine lv_lload_n hx hb dX6_beside_40 rfl (lv_at hl 2 rfl) ?_
        obtain ⟨hi, hw⟩ := hw
        refine x_last (ws2 := wX h cI cJ S (xuL L 15 v1.toNatClampNeg v2)) hx hb hK hP (hD _ _) hS 15 1 wX_15 rfl hi dX6_beside_41 (wX_u15 _ _) (fun H locs hP hS => ?_)
        refine lv_aload_n hx hb dX6_beside_42 rfl (lv_at hl 0 rfl) ?_
        refine va_get (D := D) (ci := 6) (v := .ref (h 1)) (C := RX6) (T := TX6) (N := 8) hx hb hts inX6 hown hK hP 0 wX_0 rfl 0 (by decide) f1 (fun _ h9 => h9) rfl dX6_beside_43 ?_
        refine va_get (D := D) (ci := 5) (v := .ref (h 16)) (C := RX5) (T := TX5) (N := 10) hx hb hts inX5 hown hK hP 1 wX_1 rfl 9 (by decide) f5 (fun _ h9 => h9) rfl dX6_beside_46 ?_
        refine lv_iload_n hx hb dX6_beside_49 rfl (lv_at hl 1 rfl) ?_
        refine lv_lload hx hb dX6_beside_50 (lv_at hl 3 rfl) ?_
        obtain ⟨hi, hw⟩ := hw
        refine x_last (ws2 := wX h cI cJ S (xuL (xuL L 15 v1.toNatClampNeg v2) 16 v1.toNatClampNeg v4)) hx hb hK hP (hD _ _) hS 16 1 wX_16 rfl hi dX6_beside_52 (wX_u16 _ _) (fun H locs hP hS => ?_)
        refine lv_aload_n hx hb dX6_beside_53 rfl (lv_at hl 0 rfl) ?_
        refine va_get (D := D) (ci := 6) (v := .ref (h 1)) (C := RX6) (T := TX6) (N := 8) hx hb hts inX6 hown hK hP 0 wX_0 rfl 0 (by decide) f1 (fun _ h9 => h9) rfl dX6_beside_54 ?_
        refine lv_dup hx hb dX6_beside_57 rfl ?_
        refine va_get (D := D) (ci := 5) (v := .int (S 1 2)) (C := RX5) (T := TX5) (N := 10) hx hb hts inX5 hown hK hP 1 wX_1 rfl 7 (by decide) f6 (fun _ h9 => h9) rfl dX6_beside_58 ?_
        refine lv_iconst (v := (1 : Int32)) hx hb dX6_beside_61 (by decide) ?_
        refine lv_iload_n hx hb dX6_beside_62 rfl (lv_at hl 1 rfl) ?_
        refine lv_ishl hx hb dX6_beside_63 ?_
        refine lv_ior hx hb dX6_beside_64 ?_
        refine x_put (D := D) (ci := 5) (v := .int ((S 1 2) ||| ((1 : Int32) <<< (v1 &&& 31)))) (ty := .int) (C := RX5) (T := TX5) (N := 10) (ws2 := wX h cI cJ (xu S 1 2 ((S 1 2) ||| ((1 : Int32) <<< (v1 &&& 31)))) (xuL (xuL L 15 v1.toNatClampNeg v2) 16 v1.toNatClampNeg v4)) hx hb hts inX5 tyX5 tyX5_ok nmX5 hown hK hP (hD _ _) hS 1 wX_1 rfl 7 (by decide) f6 (fun _ h9 => h9) rfl (by decide +kernel) rfl rfl (Nat.le_of_ble_eq_true rfl) dX6_beside_65 (wX_p1_2 _) (fun H locs hP hS => ?_)
        refine lv_iconst (v := (1 : Int32)) hx hb dX6_beside_68 (by decide) ?_
        exact hret _ _ _ _ _ _ _ hP hS hw dX6_beside_69
      · replace hw := And.left hw hc
        refine lv_iconst (v := (-1 : Int32)) hx hb dX6_beside_30 (by decide) ?_
        exact hret _ _ _ _ _ _ _ hP hS hw dX6_beside_31
abbrev rX6_fights : Room := { frames := 6, cells := 0, slots := 0, locals := 141 }
set_option maxHeartbeats 4000000 in
set_option maxRecDepth 100000 in
theorem mX6_fights (l : Launch) (D : va_G) (h : Nat → Nat) (cI cJ : ClassId) (t0 : Nat) (hh : xdis 53 h) (S : SX) (L : LX) (post : Int32 → Prop) (hw : kX6_fights S L  post) : Met l yX6_fights wsX6_fights rX6_fights (xPre D (wX h cI cJ) (xE D h cI cJ t0) S L [.ref (h 0)]) (va_Qi (fun (r : Int32) (u : SX × LX) => post r ∧ u.1 = S ∧ u.2 = L) (xB D (wX h cI cJ)) (xA 53 h)) 0 0 (xA 53 h) := by
  refine Met.ofW (cc := cX6_fights) (maxL := 3) (ret := (some .int)) (by decide) rfl ?_
  intro p e s m args below meth c s₁ B hml hv
  obtain ⟨hargs, hP, hE⟩ := hv
  have hx := B.exec
  have hb := B.bytes
  have hr := B.returns
  have hlocks := B.notSynchronized
  have hts := atoms_spec (ws := wsX6_fights) B.pre
  have hown : s.vm.findClass RX6 = some m.cls := findClass_of_methodNamed B.named
  have hS : va_S (xA 53 h) s.heap s.heap [] := va_S.rf
  have hD : ∀ (S : SX) (L : LX), va_D (xA 53 h) (wX h cI cJ S L) := fun S L => wX_D hh cI cJ S L
  have hK := hE.1
  have hst : xSt (xA 53 h) (xE D h cI cJ t0) := xE_st D h cI cJ t0
  have f0 := hts (.fieldLink RX6 10 "BookOfWills" "world" "LBookOfWills$World;") (by decide +kernel)
  have inX6 : ∀ w ∈ u_ws RX6 TX6 8, w ∈ wsX6_fights := fun w hw9 => List.mem_cons_of_mem _ (List.mem_append_left _ (List.mem_append_left _ (List.mem_append_left _ (List.mem_append_right _ hw9))))
  have f2 := hts (.fieldLink RX6 214 "BookOfWills$World" "counted" "I") (by decide +kernel)
  have inX5 : ∀ w ∈ u_ws RX5 TX5 10, w ∈ wsX6_fights := fun w hw9 => List.mem_cons_of_mem _ (List.mem_append_left _ (List.mem_append_left _ (List.mem_append_right _ hw9)))
  have hl := lv_entry ([.ref (h 0)]) (n := 3) (Nat.le_of_ble_eq_true rfl)
  have hen : entryFrame m args 3 = F0 m 0 ((lg_sl ([.ref (h 0)]) ++ List.replicate (3 - (lg_sl ([.ref (h 0)])).length) Slot.unset).toArray) [] := by rw [hargs]; exact lg_entry_eq m _ _
  rw [hen]
  generalize (lg_sl ([.ref (h 0)]) ++ List.replicate (3 - (lg_sl ([.ref (h 0)])).length) Slot.unset).toArray = ls at hl ⊢
  have hl : lv_has ls 3 [(0, .ref (h 0))] := hl
  change W p l e rX6_fights s m args below meth c s.heap [] 0 0 (MQ below (va_Qi (fun (r : Int32) (u : SX × LX) => post r ∧ u.1 = S ∧ u.2 = L) (xB D (wX h cI cJ)) (xA 53 h)) args s 0 0 (xA 53 h)) (F0 m 0 ls [])
  have hret : ∀ (r : Int32) (H : Heap) (locs : List Loc) (ls : Array Slot) (pc : Nat), va_P D vwCl (wX h cI cJ S L) H → va_S (xA 53 h) s.heap H locs → post r → decode cX6_fights pc = .ok (.ireturn, 1) → W p l e rX6_fights s m args below meth c H locs 0 0 (MQ below (va_Qi (fun (r : Int32) (u : SX × LX) => post r ∧ u.1 = S ∧ u.2 = L) (xB D (wX h cI cJ)) (xA 53 h)) args s 0 0 (xA 53 h)) (F0 m pc ls [.int r]) := fun r H locs ls pc hP hS hw hd => W.iret hx hb hr (fun t ht hW => ⟨⟨r, (S, L), rfl, ⟨hw, rfl, rfl⟩, show va_P D vwCl (wX h cI cJ S L) t.heap by rw [ht]; exact hP⟩, hS.F ht⟩) hS.2.2 hd
  generalize MQ below (va_Qi (fun (r : Int32) (u : SX × LX) => post r ∧ u.1 = S ∧ u.2 = L) (xB D (wX h cI cJ)) (xA 53 h)) args s 0 0 (xA 53 h) = Q at hret ⊢
  have b4 : ∀  (n4 : Nat) (v1 : Int32) (v2 : Int32) (H : Heap) (locs : List Loc) (ls : Array Slot), lv_has ls 3 [(0, .ref (h 0)), (1, .int v1), (2, .int v2)] → va_P D vwCl (wX h cI cJ S L) H → va_S (xA 53 h) s.heap H locs → kX6_fights_b4 S L post n4 v1 v2 → W p l e rX6_fights s m args below meth c H locs 0 0 Q (F0 m 4 ls []) := by
    intro n4
    induction n4 with
    | zero => intro v1 v2 H locs ls hl hP hS hw; exact absurd hw id
    | succ n4 i4 =>
      intro v1 v2 H locs ls hl hP hS hw
      unfold kX6_fights_b4 at hw
      refine lv_iload_n hx hb dX6_fights_4 rfl (lv_at hl 2 rfl) ?_
      refine lv_bipush (v := (8 : Int32)) hx hb dX6_fights_5 (by decide) ?_
      refine lv_icmp_ge (tgt := 48) hx hb dX6_fights_7 (by decide) (fun hc => ?_) (fun hc => ?_)
      · replace hw := And.left hw hc
        refine lv_iload_n hx hb dX6_fights_48 rfl (lv_at hl 1 rfl) ?_
        exact hret _ _ _ _ _ hP hS hw dX6_fights_49
      · replace hw := And.right hw hc
        refine lv_aload_n hx hb dX6_fights_10 rfl (lv_at hl 0 rfl) ?_
        refine va_get (D := D) (ci := 6) (v := .ref (h 1)) (C := RX6) (T := TX6) (N := 8) hx hb hts inX6 hown hK hP 0 wX_0 rfl 0 (by decide) f0 (fun _ h9 => h9) rfl dX6_fights_11 ?_
        refine va_get (D := D) (ci := 5) (v := .int (S 1 2)) (C := RX5) (T := TX5) (N := 10) hx hb hts inX5 hown hK hP 1 wX_1 rfl 7 (by decide) f2 (fun _ h9 => h9) rfl dX6_fights_14 ?_
        refine lv_iload_n hx hb dX6_fights_17 rfl (lv_at hl 2 rfl) ?_
        refine lv_ishr hx hb dX6_fights_18 ?_
        refine lv_iconst (v := (1 : Int32)) hx hb dX6_fights_19 (by decide) ?_
        refine lv_iand hx hb dX6_fights_20 ?_
        refine lv_iconst (v := (1 : Int32)) hx hb dX6_fights_21 (by decide) ?_
        refine lv_icmp_ne (tgt := 42) hx hb dX6_fights_22 (by decide) (fun hc => ?_) (fun hc => ?_)
        · replace hw := And.right hw hc
          refine lv_iinc (v := v2 + (1 : Int32)) (lv' := [(2, .int (v2 + (1 : Int32))), (0, .ref (h 0)), (1, .int v1)]) hx hb dX6_fights_42 hl (k := 2) rfl rfl (by decide) rfl (fun ls hl => ?_)
          refine lv_goto (tgt := 4) hx hb dX6_fights_45 (by decide) ?_
          exact i4 v1 (v2 + (1 : Int32)) _ _ _ (lv_sub hl [1, 2, 0] rfl) hP hS hw
        · replace hw := And.left hw hc
          refine lv_aload_n hx hb dX6_fights_25 rfl (lv_at hl 0 rfl) ?_
          refine va_get (D := D) (ci := 6) (v := .ref (h 1)) (C := RX6) (T := TX6) (N := 8) hx hb hts inX6 hown hK hP 0 wX_0 rfl 0 (by decide) f0 (fun _ h9 => h9) rfl dX6_fights_26 ?_
          refine lv_iload_n hx hb dX6_fights_29 rfl (lv_at hl 2 rfl) ?_
          refine xVi0 (As := [.int v2]) (rest := []) hst hE hP hS ⟨hx, hb, hml, hown, hts⟩ (va_recv hK hP (ci := 5) (q := (RX5, TX5, 10)) rfl wX_1) (mX5_isFighting l D h cI cJ t0 hh S L v2 _ hw) (cwV 1 hts gX6_fights_X5_isFighting rfl rfl rfl (by decide +kernel) ⟨Nat.le_of_ble_eq_true rfl, Nat.le_of_ble_eq_true rfl⟩) rfl hl.1 rfl (Nat.le_of_ble_eq_true rfl) dX6_fights_30 ⟨Nat.zero_le _, Nat.zero_le _⟩ (fun r30 H locs hw hP hS => ?_)
          refine lv_if_eq (tgt := 42) hx hb dX6_fights_33 (by decide) (fun hc => ?_) (fun hc => ?_)
          · replace hw := And.left hw hc
            refine lv_iinc (v := v2 + (1 : Int32)) (lv' := [(2, .int (v2 + (1 : Int32))), (0, .ref (h 0)), (1, .int v1)]) hx hb dX6_fights_42 hl (k := 2) rfl rfl (by decide) rfl (fun ls hl => ?_)
            refine lv_goto (tgt := 4) hx hb dX6_fights_45 (by decide) ?_
            exact i4 v1 (v2 + (1 : Int32)) _ _ _ (lv_sub hl [1, 2, 0] rfl) hP hS hw
          · replace hw := And.right hw hc
            refine lv_iload_n hx hb dX6_fights_36 rfl (lv_at hl 1 rfl) ?_
            refine lv_iconst (v := (1 : Int32)) hx hb dX6_fights_37 (by decide) ?_
            refine lv_iload_n hx hb dX6_fights_38 rfl (lv_at hl 2 rfl) ?_
            refine lv_ishl hx hb dX6_fights_39 ?_
            refine lv_ior hx hb dX6_fights_40 ?_
            refine lv_istore_n (lv' := [(1, .int (v1 ||| ((1 : Int32) <<< (v2 &&& 31)))), (0, .ref (h 0)), (2, .int v2)]) hx hb dX6_fights_41 rfl hl (by decide) rfl (fun ls hl => ?_)
            refine lv_iinc (v := v2 + (1 : Int32)) (lv' := [(2, .int (v2 + (1 : Int32))), (1, .int (v1 ||| ((1 : Int32) <<< (v2 &&& 31)))), (0, .ref (h 0))]) hx hb dX6_fights_42 hl (k := 2) rfl rfl (by decide) rfl (fun ls hl => ?_)
            refine lv_goto (tgt := 4) hx hb dX6_fights_45 (by decide) ?_
            exact i4 (v1 ||| ((1 : Int32) <<< (v2 &&& 31))) (v2 + (1 : Int32)) _ _ _ (lv_sub hl [2, 1, 0] rfl) hP hS hw
  unfold kX6_fights at hw
  refine lv_iconst (v := (0 : Int32)) hx hb dX6_fights_0 (by decide) ?_
  refine lv_istore_n (lv' := [(1, .int (0 : Int32)), (0, .ref (h 0))]) hx hb dX6_fights_1 rfl hl (by decide) rfl (fun ls hl => ?_)
  refine lv_iconst (v := (0 : Int32)) hx hb dX6_fights_2 (by decide) ?_
  refine lv_istore_n (lv' := [(2, .int (0 : Int32)), (1, .int (0 : Int32)), (0, .ref (h 0))]) hx hb dX6_fights_3 rfl hl (by decide) rfl (fun ls hl => ?_)
  obtain ⟨n4, hw⟩ := hw
  exact b4  n4 (0 : Int32) (0 : Int32) _ _ _ (lv_sub hl [2, 1, 0] rfl) hP hS hw
abbrev rX6_fall : Room := { frames := 5, cells := 0, slots := 0, locals := 118 }
set_option maxHeartbeats 4000000 in
set_option maxRecDepth 100000 in
theorem mX6_fall (l : Launch) (D : va_G) (h : Nat → Nat) (cI cJ : ClassId) (t0 : Nat) (hh : xdis 53 h) (S : SX) (L : LX) (v1 : Int32) (v2 : Int32) (v3 : Int32) (post : Int64 → Prop) (hw : kX6_fall S L v1 v2 v3 post) : Met l yX6_fall wsX6_fall rX6_fall (xPre D (wX h cI cJ) (xE D h cI cJ t0) S L [.ref (h 0), .int v1, .int v2, .int v3]) (va_Ql (fun (r : Int64) (u : SX × LX) => post r ∧ u.1 = S ∧ u.2 = L) (xB D (wX h cI cJ)) (xA 53 h)) 0 0 (xA 53 h) := by
  refine Met.ofW (cc := cX6_fall) (maxL := 10) (ret := (some .long)) (by decide) rfl ?_
  intro p e s m args below meth c s₁ B hml hv
  obtain ⟨hargs, hP, hE⟩ := hv
  have hx := B.exec
  have hb := B.bytes
  have hr := B.returns
  have hlocks := B.notSynchronized
  have hts := atoms_spec (ws := wsX6_fall) B.pre
  have hown : s.vm.findClass RX6 = some m.cls := findClass_of_methodNamed B.named
  have hS : va_S (xA 53 h) s.heap s.heap [] := va_S.rf
  have hD : ∀ (S : SX) (L : LX), va_D (xA 53 h) (wX h cI cJ S L) := fun S L => wX_D hh cI cJ S L
  have hK := hE.1
  have hst : xSt (xA 53 h) (xE D h cI cJ t0) := xE_st D h cI cJ t0
  have f0 := hts (.constantLong RX6 289 (-1000000000000000001)) (by decide +kernel)
  have f1 := hts (.constantLong RX6 195 (2)) (by decide +kernel)
  have f2 := hts (.fieldLink RX6 10 "BookOfWills" "world" "LBookOfWills$World;") (by decide +kernel)
  have inX6 : ∀ w ∈ u_ws RX6 TX6 8, w ∈ wsX6_fall := fun w hw9 => List.mem_cons_of_mem _ (List.mem_append_left _ (List.mem_append_left _ (List.mem_append_left _ (List.mem_append_right _ hw9))))
  have f4 := hts (.fieldLink RX6 204 "BookOfWills$World" "prices" "[I") (by decide +kernel)
  have inX5 : ∀ w ∈ u_ws RX5 TX5 10, w ∈ wsX6_fall := fun w hw9 => List.mem_cons_of_mem _ (List.mem_append_left _ (List.mem_append_left _ (List.mem_append_right _ hw9)))
  have hl := lv_entry ([.ref (h 0), .int v1, .int v2, .int v3]) (n := 10) (Nat.le_of_ble_eq_true rfl)
  have hen : entryFrame m args 10 = F0 m 0 ((lg_sl ([.ref (h 0), .int v1, .int v2, .int v3]) ++ List.replicate (10 - (lg_sl ([.ref (h 0), .int v1, .int v2, .int v3])).length) Slot.unset).toArray) [] := by rw [hargs]; exact lg_entry_eq m _ _
  rw [hen]
  generalize (lg_sl ([.ref (h 0), .int v1, .int v2, .int v3]) ++ List.replicate (10 - (lg_sl ([.ref (h 0), .int v1, .int v2, .int v3])).length) Slot.unset).toArray = ls at hl ⊢
  have hl : lv_has ls 10 [(0, .ref (h 0)), (1, .int v1), (2, .int v2), (3, .int v3)] := hl
  change W p l e rX6_fall s m args below meth c s.heap [] 0 0 (MQ below (va_Ql (fun (r : Int64) (u : SX × LX) => post r ∧ u.1 = S ∧ u.2 = L) (xB D (wX h cI cJ)) (xA 53 h)) args s 0 0 (xA 53 h)) (F0 m 0 ls [])
  have hret : ∀ (r : Int64) (H : Heap) (locs : List Loc) (ls : Array Slot) (pc : Nat), va_P D vwCl (wX h cI cJ S L) H → va_S (xA 53 h) s.heap H locs → post r → decode cX6_fall pc = .ok (.lreturn, 1) → W p l e rX6_fall s m args below meth c H locs 0 0 (MQ below (va_Ql (fun (r : Int64) (u : SX × LX) => post r ∧ u.1 = S ∧ u.2 = L) (xB D (wX h cI cJ)) (xA 53 h)) args s 0 0 (xA 53 h)) (F0 m pc ls [.long r]) := fun r H locs ls pc hP hS hw hd => W.lret hx hb hr (fun t ht hW => ⟨⟨r, (S, L), rfl, ⟨hw, rfl, rfl⟩, show va_P D vwCl (wX h cI cJ S L) t.heap by rw [ht]; exact hP⟩, hS.F ht⟩) hS.2.2 hd
  generalize MQ below (va_Ql (fun (r : Int64) (u : SX × LX) => post r ∧ u.1 = S ∧ u.2 = L) (xB D (wX h cI cJ)) (xA 53 h)) args s 0 0 (xA 53 h) = Q at hret ⊢
  unfold kX6_fall at hw
  refine lv_iload_n hx hb dX6_fall_0 rfl (lv_at hl 1 rfl) ?_
  refine xSi0 (As := [.int v1]) (rest := []) hst hE hP hS ⟨hx, hb, hml, hown, hts⟩ (mX6_isYear l D h cI cJ t0 hh S L v1 _ hw) (va_cwS 1 hts gX6_fall_X6_isYear rfl rfl rfl (by decide +kernel) ⟨Nat.le_of_ble_eq_true rfl, Nat.le_of_ble_eq_true rfl⟩) rfl hl.1 rfl (Nat.le_of_ble_eq_true rfl) dX6_fall_1 ⟨Nat.zero_le _, Nat.zero_le _⟩ (fun r1 H locs hw hP hS => ?_)
  refine lv_if_eq (tgt := 31) hx hb dX6_fall_4 (by decide) (fun hc => ?_) (fun hc => ?_)
  · replace hw := And.left hw hc
    refine lv_ldc2 (v := (-1000000000000000001 : Int64)) hx hb hown (f0) dX6_fall_31 ?_
    exact hret _ _ _ _ _ hP hS hw dX6_fall_34
  · replace hw := And.right hw hc
    refine lv_iload_n hx hb dX6_fall_7 rfl (lv_at hl 2 rfl) ?_
    refine xSi0 (As := [.int v2]) (rest := []) hst hE hP hS ⟨hx, hb, hml, hown, hts⟩ (mX6_isYear l D h cI cJ t0 hh S L v2 _ hw) (va_cwS 1 hts gX6_fall_X6_isYear rfl rfl rfl (by decide +kernel) ⟨Nat.le_of_ble_eq_true rfl, Nat.le_of_ble_eq_true rfl⟩) rfl hl.1 rfl (Nat.le_of_ble_eq_true rfl) dX6_fall_8 ⟨Nat.zero_le _, Nat.zero_le _⟩ (fun r8 H locs hw hP hS => ?_)
    refine lv_if_eq (tgt := 31) hx hb dX6_fall_11 (by decide) (fun hc => ?_) (fun hc => ?_)
    · replace hw := And.left hw hc
      refine lv_ldc2 (v := (-1000000000000000001 : Int64)) hx hb hown (f0) dX6_fall_31 ?_
      exact hret _ _ _ _ _ hP hS hw dX6_fall_34
    · replace hw := And.right hw hc
      refine lv_iload_n hx hb dX6_fall_14 rfl (lv_at hl 1 rfl) ?_
      refine lv_iload_n hx hb dX6_fall_15 rfl (lv_at hl 2 rfl) ?_
      refine lv_icmp_eq (tgt := 31) hx hb dX6_fall_16 (by decide) (fun hc => ?_) (fun hc => ?_)
      · replace hw := And.left hw hc
        refine lv_ldc2 (v := (-1000000000000000001 : Int64)) hx hb hown (f0) dX6_fall_31 ?_
        exact hret _ _ _ _ _ hP hS hw dX6_fall_34
      · replace hw := And.right hw hc
        refine lv_iload_n hx hb dX6_fall_19 rfl (lv_at hl 3 rfl) ?_
        refine lv_i2l hx hb dX6_fall_20 rfl ?_
        refine lv_lconst (v := (0 : Int64)) hx hb dX6_fall_21 (by decide) ?_
        refine lv_ldc2 (v := (2 : Int64)) hx hb hown (f1) dX6_fall_22 ?_
        refine xSi0 (As := [.long v3.toInt64, .long (0 : Int64), .long (2 : Int64)]) (rest := []) hst hE hP hS ⟨hx, hb, hml, hown, hts⟩ (mX6_isWithin l D h cI cJ t0 hh S L v3.toInt64 (0 : Int64) (2 : Int64) _ hw) (va_cwS 3 hts gX6_fall_X6_isWithin rfl rfl rfl (by decide +kernel) ⟨Nat.le_of_ble_eq_true rfl, Nat.le_of_ble_eq_true rfl⟩) rfl hl.1 rfl (Nat.le_of_ble_eq_true rfl) dX6_fall_25 ⟨Nat.zero_le _, Nat.zero_le _⟩ (fun r25 H locs hw hP hS => ?_)
        refine lv_if_ne (tgt := 35) hx hb dX6_fall_28 (by decide) (fun hc => ?_) (fun hc => ?_)
        · replace hw := And.right hw hc
          refine lv_aload_n hx hb dX6_fall_35 rfl (lv_at hl 0 rfl) ?_
          refine va_get (D := D) (ci := 6) (v := .ref (h 1)) (C := RX6) (T := TX6) (N := 8) hx hb hts inX6 hown hK hP 0 wX_0 rfl 0 (by decide) f2 (fun _ h9 => h9) rfl dX6_fall_36 ?_
          refine lv_iload_n hx hb dX6_fall_39 rfl (lv_at hl 1 rfl) ?_
          refine lv_iload_n hx hb dX6_fall_40 rfl (lv_at hl 1 rfl) ?_
          refine xVl0 (As := [.int v1, .int v1]) (rest := []) hst hE hP hS ⟨hx, hb, hml, hown, hts⟩ (va_recv hK hP (ci := 5) (q := (RX5, TX5, 10)) rfl wX_1) (mX5_sumSworn l D h cI cJ t0 hh S L v1 v1 _ hw) (cwV 2 hts gX6_fall_X5_sumSworn rfl rfl rfl (by decide +kernel) ⟨Nat.le_of_ble_eq_true rfl, Nat.le_of_ble_eq_true rfl⟩) rfl hl.1 rfl (Nat.le_of_ble_eq_true rfl) dX6_fall_41 ⟨Nat.zero_le _, Nat.zero_le _⟩ (fun r41 H locs hw hP hS => ?_)
          refine lv_lstore (lv' := [(4, .long r41), (0, .ref (h 0)), (1, .int v1), (2, .int v2), (3, .int v3)]) hx hb dX6_fall_44 hl (by decide) rfl (fun ls hl => ?_)
          refine lv_aload_n hx hb dX6_fall_46 rfl (lv_at hl 1 rfl) ?_
          refine va_get (D := D) (ci := 6) (v := .ref (h 1)) (C := RX6) (T := TX6) (N := 8) hx hb hts inX6 hown hK hP 0 wX_0 rfl 0 (by decide) f2 (fun _ h9 => h9) rfl dX6_fall_47 ?_
          refine lv_iload_n hx hb dX6_fall_50 rfl (lv_at hl 2 rfl) ?_
          refine lv_iload_n hx hb dX6_fall_51 rfl (lv_at hl 3 rfl) ?_
          refine xVl0 (As := [.int v1, .int v2]) (rest := []) hst hE hP hS ⟨hx, hb, hml, hown, hts⟩ (va_recv hK hP (ci := 5) (q := (RX5, TX5, 10)) rfl wX_1) (mX5_sumSworn l D h cI cJ t0 hh S L v1 v2 _ hw) (cwV 2 hts gX6_fall_X5_sumSworn rfl rfl rfl (by decide +kernel) ⟨Nat.le_of_ble_eq_true rfl, Nat.le_of_ble_eq_true rfl⟩) rfl hl.1 rfl (Nat.le_of_ble_eq_true rfl) dX6_fall_52 ⟨Nat.zero_le _, Nat.zero_le _⟩ (fun r52 H locs hw hP hS => ?_)
          refine lv_lstore (lv' := [(6, .long r52), (4, .long r41), (0, .ref (h 0)), (1, .int v1), (2, .int v2), (3, .int v3)]) hx hb dX6_fall_55 hl (by decide) rfl (fun ls hl => ?_)
          refine lv_lload hx hb dX6_fall_57 (lv_at hl 0 rfl) ?_
          refine lv_aload_n hx hb dX6_fall_59 rfl (lv_at hl 2 rfl) ?_
          refine va_get (D := D) (ci := 6) (v := .ref (h 1)) (C := RX6) (T := TX6) (N := 8) hx hb hts inX6 hown hK hP 0 wX_0 rfl 0 (by decide) f2 (fun _ h9 => h9) rfl dX6_fall_60 ?_
          refine va_get (D := D) (ci := 5) (v := .ref (h 14)) (C := RX5) (T := TX5) (N := 10) hx hb hts inX5 hown hK hP 1 wX_1 rfl 6 (by decide) f4 (fun _ h9 => h9) rfl dX6_fall_63 ?_
          refine lv_iload_n hx hb dX6_fall_66 rfl (lv_at hl 4 rfl) ?_
          obtain ⟨hi, hw⟩ := hw
          refine va_iald hx hb hK hP 14 0 wX_14 rfl hi dX6_fall_67 ?_
          refine lv_i2l hx hb dX6_fall_68 rfl ?_
          refine lv_lmul hx hb dX6_fall_69 ?_
          refine lv_aload_n hx hb dX6_fall_70 rfl (lv_at hl 2 rfl) ?_
          refine va_get (D := D) (ci := 6) (v := .ref (h 1)) (C := RX6) (T := TX6) (N := 8) hx hb hts inX6 hown hK hP 0 wX_0 rfl 0 (by decide) f2 (fun _ h9 => h9) rfl dX6_fall_71 ?_
          refine va_get (D := D) (ci := 5) (v := .ref (h 14)) (C := RX5) (T := TX5) (N := 10) hx hb hts inX5 hown hK hP 1 wX_1 rfl 6 (by decide) f4 (fun _ h9 => h9) rfl dX6_fall_74 ?_
          refine lv_iload_n hx hb dX6_fall_77 rfl (lv_at hl 3 rfl) ?_
          obtain ⟨hi, hw⟩ := hw
          refine va_iald hx hb hK hP 14 0 wX_14 rfl hi dX6_fall_78 ?_
          refine lv_i2l hx hb dX6_fall_79 rfl ?_
          refine xSl0 (As := [.long (r52 * ((S 14 v2.toNatClampNeg).toInt64)), .long ((S 14 v1.toNatClampNeg).toInt64)]) (rest := []) hst hE hP hS ⟨hx, hb, hml, hown, hts⟩ (mX6_divided l D h cI cJ t0 hh S L (r52 * ((S 14 v2.toNatClampNeg).toInt64)) ((S 14 v1.toNatClampNeg).toInt64) _ hw) (va_cwS 2 hts gX6_fall_X6_divided rfl rfl rfl (by decide +kernel) ⟨Nat.le_of_ble_eq_true rfl, Nat.le_of_ble_eq_true rfl⟩) rfl hl.1 rfl (Nat.le_of_ble_eq_true rfl) dX6_fall_80 ⟨Nat.zero_le _, Nat.zero_le _⟩ (fun r80 H locs hw hP hS => ?_)
          refine lv_lstore (lv' := [(8, .long r80), (6, .long r52), (4, .long r41), (0, .ref (h 0)), (1, .int v1), (2, .int v2), (3, .int v3)]) hx hb dX6_fall_83 hl (by decide) rfl (fun ls hl => ?_)
          refine lv_iload_n hx hb dX6_fall_85 rfl (lv_at hl 6 rfl) ?_
          by_cases hc0 : v3 = (0 : Int32)
          · replace hw := And.left (hw) hc0
            refine lv_lookup (off := 26) (tgt := 112) hx hb dX6_fall_86 (by decide) (by rw [hc0]; decide) (by decide) ?_
            refine lv_lload hx hb dX6_fall_112 (lv_at hl 1 rfl) ?_
            refine lv_lload hx hb dX6_fall_114 (lv_at hl 2 rfl) ?_
            refine lv_lsub hx hb dX6_fall_116 ?_
            exact hret _ _ _ _ _ hP hS hw dX6_fall_117
          by_cases hc1 : v3 = (1 : Int32)
          · replace hw := And.left (And.right (hw)) hc1
            refine lv_lookup (off := 32) (tgt := 118) hx hb dX6_fall_86 (by decide) (by rw [hc1]; decide) (by decide) ?_
            refine lv_lload hx hb dX6_fall_118 (lv_at hl 0 rfl) ?_
            refine lv_lload hx hb dX6_fall_120 (lv_at hl 1 rfl) ?_
            refine lv_lsub hx hb dX6_fall_122 ?_
            exact hret _ _ _ _ _ hP hS hw dX6_fall_123
          replace hw := And.right (And.right (hw)) hc0 hc1
          refine lv_lookup (off := 38) (tgt := 124) hx hb dX6_fall_86 (by decide) (by simp only [lookupswitch.offset_cons, lookupswitch.offset_nil]; rw [if_neg (fun q => hc0 (x_ofI q))]; rw [if_neg (fun q => hc1 (x_ofI q))]) (by decide) ?_
          refine lv_aload_n hx hb dX6_fall_124 rfl (lv_at hl 3 rfl) ?_
          refine va_get (D := D) (ci := 6) (v := .ref (h 1)) (C := RX6) (T := TX6) (N := 8) hx hb hts inX6 hown hK hP 0 wX_0 rfl 0 (by decide) f2 (fun _ h9 => h9) rfl dX6_fall_125 ?_
          refine lv_iload_n hx hb dX6_fall_128 rfl (lv_at hl 5 rfl) ?_
          refine lv_iload_n hx hb dX6_fall_129 rfl (lv_at hl 5 rfl) ?_
          refine xVl0 (As := [.int v2, .int v2]) (rest := []) hst hE hP hS ⟨hx, hb, hml, hown, hts⟩ (va_recv hK hP (ci := 5) (q := (RX5, TX5, 10)) rfl wX_1) (mX5_sumSworn l D h cI cJ t0 hh S L v2 v2 _ hw) (cwV 2 hts gX6_fall_X5_sumSworn rfl rfl rfl (by decide +kernel) ⟨Nat.le_of_ble_eq_true rfl, Nat.le_of_ble_eq_true rfl⟩) rfl hl.1 rfl (Nat.le_of_ble_eq_true rfl) dX6_fall_130 ⟨Nat.zero_le _, Nat.zero_le _⟩ (fun r130 H locs hw hP hS => ?_)
          refine lv_lload hx hb dX6_fall_133 (lv_at hl 0 rfl) ?_
          refine lv_lsub hx hb dX6_fall_135 ?_
          exact hret _ _ _ _ _ hP hS hw dX6_fall_136
        · replace hw := And.left hw hc
          refine lv_ldc2 (v := (-1000000000000000001 : Int64)) hx hb hown (f0) dX6_fall_31 ?_
          exact hret _ _ _ _ _ hP hS hw dX6_fall_34
abbrev rX6_image : Room := { frames := 4, cells := 0, slots := 0, locals := 98 }
set_option maxHeartbeats 4000000 in
set_option maxRecDepth 100000 in
theorem mX6_image (l : Launch) (D : va_G) (h : Nat → Nat) (cI cJ : ClassId) (t0 : Nat) (hh : xdis 53 h) (S : SX) (L : LX) (post : Int32 → SX → LX → Prop) (hw : kX6_image S L  post) : Met l yX6_image wsX6_image rX6_image (xPre D (wX h cI cJ) (xE D h cI cJ t0) S L [.ref (h 0)]) (va_Qi (fun (r : Int32) (u : SX × LX) => post r u.1 u.2) (xB D (wX h cI cJ)) (xA 53 h)) 0 0 (xA 53 h) := by
  refine Met.ofW (cc := cX6_image) (maxL := 1) (ret := (some .int)) (by decide) rfl ?_
  intro p e s m args below meth c s₁ B hml hv
  obtain ⟨hargs, hP, hE⟩ := hv
  have hx := B.exec
  have hb := B.bytes
  have hr := B.returns
  have hlocks := B.notSynchronized
  have hts := atoms_spec (ws := wsX6_image) B.pre
  have hown : s.vm.findClass RX6 = some m.cls := findClass_of_methodNamed B.named
  have hS : va_S (xA 53 h) s.heap s.heap [] := va_S.rf
  have hD : ∀ (S : SX) (L : LX), va_D (xA 53 h) (wX h cI cJ S L) := fun S L => wX_D hh cI cJ S L
  have hK := hE.1
  have hst : xSt (xA 53 h) (xE D h cI cJ t0) := xE_st D h cI cJ t0
  have f0 := hts (.fieldLink RX6 16 "BookOfWills" "kept" "LBookOfWills$World;") (by decide +kernel)
  have inX6 : ∀ w ∈ u_ws RX6 TX6 8, w ∈ wsX6_image := fun w hw9 => List.mem_cons_of_mem _ (List.mem_append_left _ (List.mem_append_left _ (List.mem_append_left _ (List.mem_append_right _ hw9))))
  have f2 := hts (.fieldLink RX6 10 "BookOfWills" "world" "LBookOfWills$World;") (by decide +kernel)
  have f3 := hts (.fieldLink RX6 314 "BookOfWills" "hasImage" "Z") (by decide +kernel)
  have hl := lv_entry ([.ref (h 0)]) (n := 1) (Nat.le_of_ble_eq_true rfl)
  have hen : entryFrame m args 1 = F0 m 0 ((lg_sl ([.ref (h 0)]) ++ List.replicate (1 - (lg_sl ([.ref (h 0)])).length) Slot.unset).toArray) [] := by rw [hargs]; exact lg_entry_eq m _ _
  rw [hen]
  generalize (lg_sl ([.ref (h 0)]) ++ List.replicate (1 - (lg_sl ([.ref (h 0)])).length) Slot.unset).toArray = ls at hl ⊢
  have hl : lv_has ls 1 [(0, .ref (h 0))] := hl
  change W p l e rX6_image s m args below meth c s.heap [] 0 0 (MQ below (va_Qi (fun (r : Int32) (u : SX × LX) => post r u.1 u.2) (xB D (wX h cI cJ)) (xA 53 h)) args s 0 0 (xA 53 h)) (F0 m 0 ls [])
  have hret : ∀ (r : Int32) (S1 : SX) (L1 : LX) (H : Heap) (locs : List Loc) (ls : Array Slot) (pc : Nat), va_P D vwCl (wX h cI cJ S1 L1) H → va_S (xA 53 h) s.heap H locs → post r S1 L1 → decode cX6_image pc = .ok (.ireturn, 1) → W p l e rX6_image s m args below meth c H locs 0 0 (MQ below (va_Qi (fun (r : Int32) (u : SX × LX) => post r u.1 u.2) (xB D (wX h cI cJ)) (xA 53 h)) args s 0 0 (xA 53 h)) (F0 m pc ls [.int r]) := fun r S1 L1 H locs ls pc hP hS hw hd => W.iret hx hb hr (fun t ht hW => ⟨⟨r, (S1, L1), rfl, hw, show va_P D vwCl (wX h cI cJ S1 L1) t.heap by rw [ht]; exact hP⟩, hS.F ht⟩) hS.2.2 hd
  generalize MQ below (va_Qi (fun (r : Int32) (u : SX × LX) => post r u.1 u.2) (xB D (wX h cI cJ)) (xA 53 h)) args s 0 0 (xA 53 h) = Q at hret ⊢
  unfold kX6_image at hw
  refine lv_aload_n hx hb dX6_image_0 rfl (lv_at hl 0 rfl) ?_
  refine va_get (D := D) (ci := 6) (v := .ref (h 17)) (C := RX6) (T := TX6) (N := 8) hx hb hts inX6 hown hK hP 0 wX_0 rfl 1 (by decide) f0 (fun _ h9 => h9) rfl dX6_image_1 ?_
  refine lv_aload_n hx hb dX6_image_4 rfl (lv_at hl 0 rfl) ?_
  refine va_get (D := D) (ci := 6) (v := .ref (h 1)) (C := RX6) (T := TX6) (N := 8) hx hb hts inX6 hown hK hP 0 wX_0 rfl 0 (by decide) f2 (fun _ h9 => h9) rfl dX6_image_5 ?_
  refine xVv2 (As := [.ref (h 1)]) (rest := []) hst hE hP hS ⟨hx, hb, hml, hown, hts⟩ (va_recv hK hP (ci := 5) (q := (RX5, TX5, 10)) rfl wX_17) (mX5_takeFrom_17 l D h cI cJ t0 hh S L  _ hw) (cwV 1 hts gX6_image_X5_takeFrom rfl rfl rfl (by decide +kernel) ⟨Nat.le_of_ble_eq_true rfl, Nat.le_of_ble_eq_true rfl⟩) rfl hl.1 rfl (Nat.le_of_ble_eq_true rfl) dX6_image_8 ⟨Nat.zero_le _, Nat.zero_le _⟩ (fun S8 L8 H locs hw hP hS => ?_)
  refine lv_aload_n hx hb dX6_image_11 rfl (lv_at hl 0 rfl) ?_
  refine lv_iconst (v := (1 : Int32)) hx hb dX6_image_12 (by decide) ?_
  refine x_put (D := D) (ci := 6) (v := .int (1 : Int32)) (ty := .boolean) (C := RX6) (T := TX6) (N := 8) (ws2 := wX h cI cJ (xu S8 0 0 (1 : Int32)) L8) hx hb hts inX6 tyX6 tyX6_ok nmX6 hown hK hP (hD _ _) hS 0 wX_0 rfl 2 (by decide) f3 (fun _ h9 => h9) rfl (by decide +kernel) rfl rfl (Nat.le_of_ble_eq_true rfl) dX6_image_13 (wX_p0_0 _) (fun H locs hP hS => ?_)
  refine lv_iconst (v := (1 : Int32)) hx hb dX6_image_16 (by decide) ?_
  exact hret _ _ _ _ _ _ _ hP hS hw dX6_image_17
abbrev rX6_restore : Room := { frames := 4, cells := 0, slots := 0, locals := 98 }
set_option maxHeartbeats 4000000 in
set_option maxRecDepth 100000 in
theorem mX6_restore (l : Launch) (D : va_G) (h : Nat → Nat) (cI cJ : ClassId) (t0 : Nat) (hh : xdis 53 h) (S : SX) (L : LX) (post : Int32 → SX → LX → Prop) (hw : kX6_restore S L  post) : Met l yX6_restore wsX6_restore rX6_restore (xPre D (wX h cI cJ) (xE D h cI cJ t0) S L [.ref (h 0)]) (va_Qi (fun (r : Int32) (u : SX × LX) => post r u.1 u.2) (xB D (wX h cI cJ)) (xA 53 h)) 0 0 (xA 53 h) := by
  refine Met.ofW (cc := cX6_restore) (maxL := 1) (ret := (some .int)) (by decide) rfl ?_
  intro p e s m args below meth c s₁ B hml hv
  obtain ⟨hargs, hP, hE⟩ := hv
  have hx := B.exec
  have hb := B.bytes
  have hr := B.returns
  have hlocks := B.notSynchronized
  have hts := atoms_spec (ws := wsX6_restore) B.pre
  have hown : s.vm.findClass RX6 = some m.cls := findClass_of_methodNamed B.named
  have hS : va_S (xA 53 h) s.heap s.heap [] := va_S.rf
  have hD : ∀ (S : SX) (L : LX), va_D (xA 53 h) (wX h cI cJ S L) := fun S L => wX_D hh cI cJ S L
  have hK := hE.1
  have hst : xSt (xA 53 h) (xE D h cI cJ t0) := xE_st D h cI cJ t0
  have f0 := hts (.fieldLink RX6 314 "BookOfWills" "hasImage" "Z") (by decide +kernel)
  have inX6 : ∀ w ∈ u_ws RX6 TX6 8, w ∈ wsX6_restore := fun w hw9 => List.mem_cons_of_mem _ (List.mem_append_left _ (List.mem_append_left _ (List.mem_append_left _ (List.mem_append_right _ hw9))))
  have f2 := hts (.fieldLink RX6 10 "BookOfWills" "world" "LBookOfWills$World;") (by decide +kernel)
  have f3 := hts (.fieldLink RX6 16 "BookOfWills" "kept" "LBookOfWills$World;") (by decide +kernel)
  have hl := lv_entry ([.ref (h 0)]) (n := 1) (Nat.le_of_ble_eq_true rfl)
  have hen : entryFrame m args 1 = F0 m 0 ((lg_sl ([.ref (h 0)]) ++ List.replicate (1 - (lg_sl ([.ref (h 0)])).length) Slot.unset).toArray) [] := by rw [hargs]; exact lg_entry_eq m _ _
  rw [hen]
  generalize (lg_sl ([.ref (h 0)]) ++ List.replicate (1 - (lg_sl ([.ref (h 0)])).length) Slot.unset).toArray = ls at hl ⊢
  have hl : lv_has ls 1 [(0, .ref (h 0))] := hl
  change W p l e rX6_restore s m args below meth c s.heap [] 0 0 (MQ below (va_Qi (fun (r : Int32) (u : SX × LX) => post r u.1 u.2) (xB D (wX h cI cJ)) (xA 53 h)) args s 0 0 (xA 53 h)) (F0 m 0 ls [])
  have hret : ∀ (r : Int32) (S1 : SX) (L1 : LX) (H : Heap) (locs : List Loc) (ls : Array Slot) (pc : Nat), va_P D vwCl (wX h cI cJ S1 L1) H → va_S (xA 53 h) s.heap H locs → post r S1 L1 → decode cX6_restore pc = .ok (.ireturn, 1) → W p l e rX6_restore s m args below meth c H locs 0 0 (MQ below (va_Qi (fun (r : Int32) (u : SX × LX) => post r u.1 u.2) (xB D (wX h cI cJ)) (xA 53 h)) args s 0 0 (xA 53 h)) (F0 m pc ls [.int r]) := fun r S1 L1 H locs ls pc hP hS hw hd => W.iret hx hb hr (fun t ht hW => ⟨⟨r, (S1, L1), rfl, hw, show va_P D vwCl (wX h cI cJ S1 L1) t.heap by rw [ht]; exact hP⟩, hS.F ht⟩) hS.2.2 hd
  generalize MQ below (va_Qi (fun (r : Int32) (u : SX × LX) => post r u.1 u.2) (xB D (wX h cI cJ)) (xA 53 h)) args s 0 0 (xA 53 h) = Q at hret ⊢
  unfold kX6_restore at hw
  refine lv_aload_n hx hb dX6_restore_0 rfl (lv_at hl 0 rfl) ?_
  refine va_get (D := D) (ci := 6) (v := .int (S 0 0)) (C := RX6) (T := TX6) (N := 8) hx hb hts inX6 hown hK hP 0 wX_0 rfl 2 (by decide) f0 (fun _ h9 => h9) rfl dX6_restore_1 ?_
  refine lv_if_ne (tgt := 10) hx hb dX6_restore_4 (by decide) (fun hc => ?_) (fun hc => ?_)
  · replace hw := And.right hw hc
    refine lv_aload_n hx hb dX6_restore_10 rfl (lv_at hl 0 rfl) ?_
    refine va_get (D := D) (ci := 6) (v := .ref (h 1)) (C := RX6) (T := TX6) (N := 8) hx hb hts inX6 hown hK hP 0 wX_0 rfl 0 (by decide) f2 (fun _ h9 => h9) rfl dX6_restore_11 ?_
    refine lv_aload_n hx hb dX6_restore_14 rfl (lv_at hl 0 rfl) ?_
    refine va_get (D := D) (ci := 6) (v := .ref (h 17)) (C := RX6) (T := TX6) (N := 8) hx hb hts inX6 hown hK hP 0 wX_0 rfl 1 (by decide) f3 (fun _ h9 => h9) rfl dX6_restore_15 ?_
    refine xVv2 (As := [.ref (h 17)]) (rest := []) hst hE hP hS ⟨hx, hb, hml, hown, hts⟩ (va_recv hK hP (ci := 5) (q := (RX5, TX5, 10)) rfl wX_1) (mX5_takeFrom_1 l D h cI cJ t0 hh S L  _ hw) (cwV 1 hts gX6_restore_X5_takeFrom rfl rfl rfl (by decide +kernel) ⟨Nat.le_of_ble_eq_true rfl, Nat.le_of_ble_eq_true rfl⟩) rfl hl.1 rfl (Nat.le_of_ble_eq_true rfl) dX6_restore_18 ⟨Nat.zero_le _, Nat.zero_le _⟩ (fun S18 L18 H locs hw hP hS => ?_)
    refine lv_iconst (v := (1 : Int32)) hx hb dX6_restore_21 (by decide) ?_
    exact hret _ _ _ _ _ _ _ hP hS hw dX6_restore_22
  · replace hw := And.left hw hc
    refine lv_bipush (v := (-4 : Int32)) hx hb dX6_restore_7 (by decide) ?_
    exact hret _ _ _ _ _ _ _ hP hS hw dX6_restore_9
abbrev rX6_isSheet : Room := { frames := 1, cells := 0, slots := 0, locals := 25 }
set_option maxHeartbeats 4000000 in
set_option maxRecDepth 100000 in
theorem mX6_isSheet (l : Launch) (D : va_G) (h : Nat → Nat) (cI cJ : ClassId) (t0 : Nat) (hh : xdis 53 h) (S : SX) (L : LX) (v0 : Int32) (post : Int32 → Prop) (hw : kX6_isSheet S L v0 post) : Met l yX6_isSheet wsX6_isSheet rX6_isSheet (xPre D (wX h cI cJ) (xE D h cI cJ t0) S L [.int v0]) (va_Qi (fun (r : Int32) (u : SX × LX) => post r ∧ u.1 = S ∧ u.2 = L) (xB D (wX h cI cJ)) (xA 53 h)) 0 0 (xA 53 h) := by
  refine Met.ofW (cc := cX6_isSheet) (maxL := 1) (ret := (some .boolean)) (by decide) rfl ?_
  intro p e s m args below meth c s₁ B hml hv
  obtain ⟨hargs, hP, hE⟩ := hv
  have hx := B.exec
  have hb := B.bytes
  have hr := B.returns
  have hlocks := B.notSynchronized
  have hts := atoms_spec (ws := wsX6_isSheet) B.pre
  have hown : s.vm.findClass RX6 = some m.cls := findClass_of_methodNamed B.named
  have hS : va_S (xA 53 h) s.heap s.heap [] := va_S.rf
  have hD : ∀ (S : SX) (L : LX), va_D (xA 53 h) (wX h cI cJ S L) := fun S L => wX_D hh cI cJ S L
  have hK := hE.1
  have hst : xSt (xA 53 h) (xE D h cI cJ t0) := xE_st D h cI cJ t0
  have f0 := hts (.constantLong RX6 99 (3)) (by decide +kernel)
  have hl := lv_entry ([.int v0]) (n := 1) (Nat.le_of_ble_eq_true rfl)
  have hen : entryFrame m args 1 = F0 m 0 ((lg_sl ([.int v0]) ++ List.replicate (1 - (lg_sl ([.int v0])).length) Slot.unset).toArray) [] := by rw [hargs]; exact lg_entry_eq m _ _
  rw [hen]
  generalize (lg_sl ([.int v0]) ++ List.replicate (1 - (lg_sl ([.int v0])).length) Slot.unset).toArray = ls at hl ⊢
  have hl : lv_has ls 1 [(0, .int v0)] := hl
  change W p l e rX6_isSheet s m args below meth c s.heap [] 0 0 (MQ below (va_Qi (fun (r : Int32) (u : SX × LX) => post r ∧ u.1 = S ∧ u.2 = L) (xB D (wX h cI cJ)) (xA 53 h)) args s 0 0 (xA 53 h)) (F0 m 0 ls [])
  have hret : ∀ (r : Int32) (H : Heap) (locs : List Loc) (ls : Array Slot) (pc : Nat), va_P D vwCl (wX h cI cJ S L) H → va_S (xA 53 h) s.heap H locs → post r → narrow .boolean (.int r) = .int r → decode cX6_isSheet pc = .ok (.ireturn, 1) → W p l e rX6_isSheet s m args below meth c H locs 0 0 (MQ below (va_Qi (fun (r : Int32) (u : SX × LX) => post r ∧ u.1 = S ∧ u.2 = L) (xB D (wX h cI cJ)) (xA 53 h)) args s 0 0 (xA 53 h)) (F0 m pc ls [.int r]) := fun r H locs ls pc hP hS hw hna hd => W.zret hx hb hr hna (fun t ht hW => ⟨⟨r, (S, L), rfl, ⟨hw, rfl, rfl⟩, show va_P D vwCl (wX h cI cJ S L) t.heap by rw [ht]; exact hP⟩, hS.F ht⟩) hS.2.2 hd
  generalize MQ below (va_Qi (fun (r : Int32) (u : SX × LX) => post r ∧ u.1 = S ∧ u.2 = L) (xB D (wX h cI cJ)) (xA 53 h)) args s 0 0 (xA 53 h) = Q at hret ⊢
  unfold kX6_isSheet at hw
  refine lv_iload_n hx hb dX6_isSheet_0 rfl (lv_at hl 0 rfl) ?_
  refine lv_i2l hx hb dX6_isSheet_1 rfl ?_
  refine lv_lconst (v := (0 : Int64)) hx hb dX6_isSheet_2 (by decide) ?_
  refine lv_ldc2 (v := (3 : Int64)) hx hb hown (f0) dX6_isSheet_3 ?_
  refine xSi0 (As := [.long v0.toInt64, .long (0 : Int64), .long (3 : Int64)]) (rest := []) hst hE hP hS ⟨hx, hb, hml, hown, hts⟩ (mX6_isWithin l D h cI cJ t0 hh S L v0.toInt64 (0 : Int64) (3 : Int64) _ hw) (va_cwS 3 hts gX6_isSheet_X6_isWithin rfl rfl rfl (by decide +kernel) ⟨Nat.le_of_ble_eq_true rfl, Nat.le_of_ble_eq_true rfl⟩) rfl hl.1 rfl (Nat.le_of_ble_eq_true rfl) dX6_isSheet_6 ⟨Nat.zero_le _, Nat.zero_le _⟩ (fun r6 H locs hw hP hS => ?_)
  exact hret _ _ _ _ _ hP hS hw.2 (xb_n hw.1) dX6_isSheet_9
abbrev rX6_isLane : Room := { frames := 1, cells := 0, slots := 0, locals := 25 }
set_option maxHeartbeats 4000000 in
set_option maxRecDepth 100000 in
theorem mX6_isLane (l : Launch) (D : va_G) (h : Nat → Nat) (cI cJ : ClassId) (t0 : Nat) (hh : xdis 53 h) (S : SX) (L : LX) (v0 : Int32) (post : Int32 → Prop) (hw : kX6_isLane S L v0 post) : Met l yX6_isLane wsX6_isLane rX6_isLane (xPre D (wX h cI cJ) (xE D h cI cJ t0) S L [.int v0]) (va_Qi (fun (r : Int32) (u : SX × LX) => post r ∧ u.1 = S ∧ u.2 = L) (xB D (wX h cI cJ)) (xA 53 h)) 0 0 (xA 53 h) := by
  refine Met.ofW (cc := cX6_isLane) (maxL := 1) (ret := (some .boolean)) (by decide) rfl ?_
  intro p e s m args below meth c s₁ B hml hv
  obtain ⟨hargs, hP, hE⟩ := hv
  have hx := B.exec
  have hb := B.bytes
  have hr := B.returns
  have hlocks := B.notSynchronized
  have hts := atoms_spec (ws := wsX6_isLane) B.pre
  have hown : s.vm.findClass RX6 = some m.cls := findClass_of_methodNamed B.named
  have hS : va_S (xA 53 h) s.heap s.heap [] := va_S.rf
  have hD : ∀ (S : SX) (L : LX), va_D (xA 53 h) (wX h cI cJ S L) := fun S L => wX_D hh cI cJ S L
  have hK := hE.1
  have hst : xSt (xA 53 h) (xE D h cI cJ t0) := xE_st D h cI cJ t0
  have f0 := hts (.constantLong RX6 195 (2)) (by decide +kernel)
  have hl := lv_entry ([.int v0]) (n := 1) (Nat.le_of_ble_eq_true rfl)
  have hen : entryFrame m args 1 = F0 m 0 ((lg_sl ([.int v0]) ++ List.replicate (1 - (lg_sl ([.int v0])).length) Slot.unset).toArray) [] := by rw [hargs]; exact lg_entry_eq m _ _
  rw [hen]
  generalize (lg_sl ([.int v0]) ++ List.replicate (1 - (lg_sl ([.int v0])).length) Slot.unset).toArray = ls at hl ⊢
  have hl : lv_has ls 1 [(0, .int v0)] := hl
  change W p l e rX6_isLane s m args below meth c s.heap [] 0 0 (MQ below (va_Qi (fun (r : Int32) (u : SX × LX) => post r ∧ u.1 = S ∧ u.2 = L) (xB D (wX h cI cJ)) (xA 53 h)) args s 0 0 (xA 53 h)) (F0 m 0 ls [])
  have hret : ∀ (r : Int32) (H : Heap) (locs : List Loc) (ls : Array Slot) (pc : Nat), va_P D vwCl (wX h cI cJ S L) H → va_S (xA 53 h) s.heap H locs → post r → narrow .boolean (.int r) = .int r → decode cX6_isLane pc = .ok (.ireturn, 1) → W p l e rX6_isLane s m args below meth c H locs 0 0 (MQ below (va_Qi (fun (r : Int32) (u : SX × LX) => post r ∧ u.1 = S ∧ u.2 = L) (xB D (wX h cI cJ)) (xA 53 h)) args s 0 0 (xA 53 h)) (F0 m pc ls [.int r]) := fun r H locs ls pc hP hS hw hna hd => W.zret hx hb hr hna (fun t ht hW => ⟨⟨r, (S, L), rfl, ⟨hw, rfl, rfl⟩, show va_P D vwCl (wX h cI cJ S L) t.heap by rw [ht]; exact hP⟩, hS.F ht⟩) hS.2.2 hd
  generalize MQ below (va_Qi (fun (r : Int32) (u : SX × LX) => post r ∧ u.1 = S ∧ u.2 = L) (xB D (wX h cI cJ)) (xA 53 h)) args s 0 0 (xA 53 h) = Q at hret ⊢
  unfold kX6_isLane at hw
  refine lv_iload_n hx hb dX6_isLane_0 rfl (lv_at hl 0 rfl) ?_
  refine lv_i2l hx hb dX6_isLane_1 rfl ?_
  refine lv_lconst (v := (0 : Int64)) hx hb dX6_isLane_2 (by decide) ?_
  refine lv_ldc2 (v := (2 : Int64)) hx hb hown (f0) dX6_isLane_3 ?_
  refine xSi0 (As := [.long v0.toInt64, .long (0 : Int64), .long (2 : Int64)]) (rest := []) hst hE hP hS ⟨hx, hb, hml, hown, hts⟩ (mX6_isWithin l D h cI cJ t0 hh S L v0.toInt64 (0 : Int64) (2 : Int64) _ hw) (va_cwS 3 hts gX6_isLane_X6_isWithin rfl rfl rfl (by decide +kernel) ⟨Nat.le_of_ble_eq_true rfl, Nat.le_of_ble_eq_true rfl⟩) rfl hl.1 rfl (Nat.le_of_ble_eq_true rfl) dX6_isLane_6 ⟨Nat.zero_le _, Nat.zero_le _⟩ (fun r6 H locs hw hP hS => ?_)
  exact hret _ _ _ _ _ hP hS hw.2 (xb_n hw.1) dX6_isLane_9
abbrev rX6_book : Room := { frames := 4, cells := 0, slots := 0, locals := 95 }
set_option maxHeartbeats 4000000 in
set_option maxRecDepth 100000 in
theorem mX6_book (l : Launch) (D : va_G) (h : Nat → Nat) (cI cJ : ClassId) (t0 : Nat) (hh : xdis 53 h) (S : SX) (L : LX) (v1 : Int32) (v2 : Int32) (v3 : Int32) (v4 : Int32) (post : Int32 → SX → Prop) (hw : kX6_book S L v1 v2 v3 v4 post) : Met l yX6_book wsX6_book rX6_book (xPre D (wX h cI cJ) (xE D h cI cJ t0) S L [.ref (h 0), .int v1, .int v2, .int v3, .int v4]) (va_Qi (fun (r : Int32) (u : SX × LX) => post r u.1 ∧ u.2 = L) (xB D (wX h cI cJ)) (xA 53 h)) 0 0 (xA 53 h) := by
  refine Met.ofW (cc := cX6_book) (maxL := 9) (ret := (some .int)) (by decide) rfl ?_
  intro p e s m args below meth c s₁ B hml hv
  obtain ⟨hargs, hP, hE⟩ := hv
  have hx := B.exec
  have hb := B.bytes
  have hr := B.returns
  have hlocks := B.notSynchronized
  have hts := atoms_spec (ws := wsX6_book) B.pre
  have hown : s.vm.findClass RX6 = some m.cls := findClass_of_methodNamed B.named
  have hS : va_S (xA 53 h) s.heap s.heap [] := va_S.rf
  have hD : ∀ (S : SX) (L : LX), va_D (xA 53 h) (wX h cI cJ S L) := fun S L => wX_D hh cI cJ S L
  have hK := hE.1
  have hst : xSt (xA 53 h) (xE D h cI cJ t0) := xE_st D h cI cJ t0
  have f0 := hts (.fieldLink RX6 10 "BookOfWills" "world" "LBookOfWills$World;") (by decide +kernel)
  have inX6 : ∀ w ∈ u_ws RX6 TX6 8, w ∈ wsX6_book := fun w hw9 => List.mem_cons_of_mem _ (List.mem_append_left _ (List.mem_append_left _ (List.mem_append_left _ (List.mem_append_left _ (List.mem_append_right _ hw9)))))
  have f2 := hts (.fieldLink RX6 83 "BookOfWills$World" "wills" "LBookOfWills$Wills;") (by decide +kernel)
  have inX5 : ∀ w ∈ u_ws RX5 TX5 10, w ∈ wsX6_book := fun w hw9 => List.mem_cons_of_mem _ (List.mem_append_left _ (List.mem_append_left _ (List.mem_append_left _ (List.mem_append_right _ hw9))))
  have f4 := hts (.fieldLink RX6 93 "BookOfWills$Wills" "size" "I") (by decide +kernel)
  have inX4 : ∀ w ∈ u_ws RX4 TX4 5, w ∈ wsX6_book := fun w hw9 => List.mem_cons_of_mem _ (List.mem_append_left _ (List.mem_append_left _ (List.mem_append_right _ hw9)))
  have f6 := hts (.fieldLink RX6 104 "BookOfWills$Wills" "year" "[I") (by decide +kernel)
  have f7 := hts (.fieldLink RX6 50 "BookOfWills" "sheets" "LBookOfWills$Sheets;") (by decide +kernel)
  have hl := lv_entry ([.ref (h 0), .int v1, .int v2, .int v3, .int v4]) (n := 9) (Nat.le_of_ble_eq_true rfl)
  have hen : entryFrame m args 9 = F0 m 0 ((lg_sl ([.ref (h 0), .int v1, .int v2, .int v3, .int v4]) ++ List.replicate (9 - (lg_sl ([.ref (h 0), .int v1, .int v2, .int v3, .int v4])).length) Slot.unset).toArray) [] := by rw [hargs]; exact lg_entry_eq m _ _
  rw [hen]
  generalize (lg_sl ([.ref (h 0), .int v1, .int v2, .int v3, .int v4]) ++ List.replicate (9 - (lg_sl ([.ref (h 0), .int v1, .int v2, .int v3, .int v4])).length) Slot.unset).toArray = ls at hl ⊢
  have hl : lv_has ls 9 [(0, .ref (h 0)), (1, .int v1), (2, .int v2), (3, .int v3), (4, .int v4)] := hl
  change W p l e rX6_book s m args below meth c s.heap [] 0 0 (MQ below (va_Qi (fun (r : Int32) (u : SX × LX) => post r u.1 ∧ u.2 = L) (xB D (wX h cI cJ)) (xA 53 h)) args s 0 0 (xA 53 h)) (F0 m 0 ls [])
  have hret : ∀ (r : Int32) (S1 : SX) (H : Heap) (locs : List Loc) (ls : Array Slot) (pc : Nat), va_P D vwCl (wX h cI cJ S1 L) H → va_S (xA 53 h) s.heap H locs → post r S1 → decode cX6_book pc = .ok (.ireturn, 1) → W p l e rX6_book s m args below meth c H locs 0 0 (MQ below (va_Qi (fun (r : Int32) (u : SX × LX) => post r u.1 ∧ u.2 = L) (xB D (wX h cI cJ)) (xA 53 h)) args s 0 0 (xA 53 h)) (F0 m pc ls [.int r]) := fun r S1 H locs ls pc hP hS hw hd => W.iret hx hb hr (fun t ht hW => ⟨⟨r, (S1, L), rfl, ⟨hw, rfl⟩, show va_P D vwCl (wX h cI cJ S1 L) t.heap by rw [ht]; exact hP⟩, hS.F ht⟩) hS.2.2 hd
  generalize MQ below (va_Qi (fun (r : Int32) (u : SX × LX) => post r u.1 ∧ u.2 = L) (xB D (wX h cI cJ)) (xA 53 h)) args s 0 0 (xA 53 h) = Q at hret ⊢
  have b63 : ∀ (v5 : Int32) (n63 : Nat) (v7 : Int32) (v8 : Int32) (S : SX) (H : Heap) (locs : List Loc) (ls : Array Slot), lv_has ls 9 [(0, .ref (h 0)), (1, .int v1), (2, .int v2), (5, .int v5), (7, .int v7), (8, .int v8)] → va_P D vwCl (wX h cI cJ S L) H → va_S (xA 53 h) s.heap H locs → kX6_book_b63 L v1 v2 v3 v4 v5 post n63 v7 v8 S → W p l e rX6_book s m args below meth c H locs 0 0 Q (F0 m 63 ls []) := by
    intro v5 n63
    induction n63 with
    | zero => intro v7 v8 S H locs ls hl hP hS hw; exact absurd hw id
    | succ n63 i63 =>
      intro v7 v8 S H locs ls hl hP hS hw
      unfold kX6_book_b63 at hw
      refine lv_iload hx hb dX6_book_63 (lv_at hl 5 rfl) ?_
      refine lv_aload_n hx hb dX6_book_65 rfl (lv_at hl 0 rfl) ?_
      refine va_get (D := D) (ci := 6) (v := .ref (h 1)) (C := RX6) (T := TX6) (N := 8) hx hb hts inX6 hown hK hP 0 wX_0 rfl 0 (by decide) f0 (fun _ h9 => h9) rfl dX6_book_66 ?_
      refine va_get (D := D) (ci := 5) (v := .ref (h 8)) (C := RX5) (T := TX5) (N := 10) hx hb hts inX5 hown hK hP 1 wX_1 rfl 4 (by decide) f2 (fun _ h9 => h9) rfl dX6_book_69 ?_
      refine va_get (D := D) (ci := 4) (v := .int (S 8 0)) (C := RX4) (T := TX4) (N := 5) hx hb hts inX4 hown hK hP 8 wX_8 rfl 0 (by decide) f4 (fun _ h9 => h9) rfl dX6_book_72 ?_
      refine lv_icmp_ge (tgt := 137) hx hb dX6_book_75 (by decide) (fun hc => ?_) (fun hc => ?_)
      · replace hw := And.left hw hc
        refine lv_iload hx hb dX6_book_137 (lv_at hl 3 rfl) ?_
        exact hret _ _ _ _ _ _ hP hS hw dX6_book_139
      · replace hw := And.right hw hc
        refine lv_aload_n hx hb dX6_book_78 rfl (lv_at hl 0 rfl) ?_
        refine va_get (D := D) (ci := 6) (v := .ref (h 1)) (C := RX6) (T := TX6) (N := 8) hx hb hts inX6 hown hK hP 0 wX_0 rfl 0 (by decide) f0 (fun _ h9 => h9) rfl dX6_book_79 ?_
        refine va_get (D := D) (ci := 5) (v := .ref (h 8)) (C := RX5) (T := TX5) (N := 10) hx hb hts inX5 hown hK hP 1 wX_1 rfl 4 (by decide) f2 (fun _ h9 => h9) rfl dX6_book_82 ?_
        refine va_get (D := D) (ci := 4) (v := .ref (h 9)) (C := RX4) (T := TX4) (N := 5) hx hb hts inX4 hown hK hP 8 wX_8 rfl 1 (by decide) f6 (fun _ h9 => h9) rfl dX6_book_85 ?_
        refine lv_iload hx hb dX6_book_88 (lv_at hl 5 rfl) ?_
        obtain ⟨hi, hw⟩ := hw
        refine va_iald hx hb hK hP 9 0 wX_9 rfl hi dX6_book_90 ?_
        refine lv_iload_n hx hb dX6_book_91 rfl (lv_at hl 1 rfl) ?_
        refine lv_icmp_ne (tgt := 131) hx hb dX6_book_92 (by decide) (fun hc => ?_) (fun hc => ?_)
        · replace hw := And.right hw hc
          refine lv_iinc (v := v8 + (1 : Int32)) (lv' := [(8, .int (v8 + (1 : Int32))), (0, .ref (h 0)), (1, .int v1), (2, .int v2), (5, .int v5), (7, .int v7)]) hx hb dX6_book_131 hl (k := 5) rfl rfl (by decide) rfl (fun ls hl => ?_)
          refine lv_goto (tgt := 63) hx hb dX6_book_134 (by decide) ?_
          exact i63 v7 (v8 + (1 : Int32)) S _ _ _ (lv_sub hl [1, 2, 3, 4, 5, 0] rfl) hP hS hw
        · replace hw := And.left hw hc
          refine lv_aload_n hx hb dX6_book_95 rfl (lv_at hl 0 rfl) ?_
          refine va_get (D := D) (ci := 6) (v := .ref (h 1)) (C := RX6) (T := TX6) (N := 8) hx hb hts inX6 hown hK hP 0 wX_0 rfl 0 (by decide) f0 (fun _ h9 => h9) rfl dX6_book_96 ?_
          refine lv_iload hx hb dX6_book_99 (lv_at hl 5 rfl) ?_
          refine lv_iload_n hx hb dX6_book_101 rfl (lv_at hl 1 rfl) ?_
          refine xVi0 (As := [.int v8, .int v1]) (rest := []) hst hE hP hS ⟨hx, hb, hml, hown, hts⟩ (va_recv hK hP (ci := 5) (q := (RX5, TX5, 10)) rfl wX_1) (mX5_isInBook l D h cI cJ t0 hh S L v8 v1 _ hw) (cwV 2 hts gX6_book_X5_isInBook rfl rfl rfl (by decide +kernel) ⟨Nat.le_of_ble_eq_true rfl, Nat.le_of_ble_eq_true rfl⟩) rfl hl.1 rfl (Nat.le_of_ble_eq_true rfl) dX6_book_102 ⟨Nat.zero_le _, Nat.zero_le _⟩ (fun r102 H locs hw hP hS => ?_)
          refine lv_if_eq (tgt := 131) hx hb dX6_book_105 (by decide) (fun hc => ?_) (fun hc => ?_)
          · replace hw := And.left hw hc
            refine lv_iinc (v := v8 + (1 : Int32)) (lv' := [(8, .int (v8 + (1 : Int32))), (0, .ref (h 0)), (1, .int v1), (2, .int v2), (5, .int v5), (7, .int v7)]) hx hb dX6_book_131 hl (k := 5) rfl rfl (by decide) rfl (fun ls hl => ?_)
            refine lv_goto (tgt := 63) hx hb dX6_book_134 (by decide) ?_
            exact i63 v7 (v8 + (1 : Int32)) S _ _ _ (lv_sub hl [1, 2, 3, 4, 5, 0] rfl) hP hS hw
          · replace hw := And.right hw hc
            refine lv_aload_n hx hb dX6_book_108 rfl (lv_at hl 0 rfl) ?_
            refine va_get (D := D) (ci := 6) (v := .ref (h 49)) (C := RX6) (T := TX6) (N := 8) hx hb hts inX6 hown hK hP 0 wX_0 rfl 7 (by decide) f7 (fun _ h9 => h9) rfl dX6_book_109 ?_
            refine lv_iload_n hx hb dX6_book_112 rfl (lv_at hl 2 rfl) ?_
            refine lv_iload hx hb dX6_book_113 (lv_at hl 4 rfl) ?_
            refine lv_aload_n hx hb dX6_book_115 rfl (lv_at hl 0 rfl) ?_
            refine va_get (D := D) (ci := 6) (v := .ref (h 1)) (C := RX6) (T := TX6) (N := 8) hx hb hts inX6 hown hK hP 0 wX_0 rfl 0 (by decide) f0 (fun _ h9 => h9) rfl dX6_book_116 ?_
            refine lv_iload hx hb dX6_book_119 (lv_at hl 5 rfl) ?_
            refine lv_iload_n hx hb dX6_book_121 rfl (lv_at hl 1 rfl) ?_
            refine xVi0 (As := [.int v8, .int v1]) (rest := [.int v7, .int v2, .ref (h 49)]) hst hE hP hS ⟨hx, hb, hml, hown, hts⟩ (va_recv hK hP (ci := 5) (q := (RX5, TX5, 10)) rfl wX_1) (mX5_sworn l D h cI cJ t0 hh S L v8 v1 _ hw) (cwV 2 hts gX6_book_X5_sworn rfl rfl rfl (by decide +kernel) ⟨Nat.le_of_ble_eq_true rfl, Nat.le_of_ble_eq_true rfl⟩) rfl hl.1 rfl (Nat.le_of_ble_eq_true rfl) dX6_book_122 ⟨Nat.zero_le _, Nat.zero_le _⟩ (fun r122 H locs hw hP hS => ?_)
            refine xVv1 (As := [.int v2, .int v7, .int r122]) (rest := []) hst hE hP hS ⟨hx, hb, hml, hown, hts⟩ (va_recv hK hP (ci := 2) (q := (RX2, TX2, 3)) rfl wX_49) (mX2_put l D h cI cJ t0 hh S L v2 v7 r122 _ hw) (cwV 3 hts gX6_book_X2_put rfl rfl rfl (by decide +kernel) ⟨Nat.le_of_ble_eq_true rfl, Nat.le_of_ble_eq_true rfl⟩) rfl hl.1 rfl (Nat.le_of_ble_eq_true rfl) dX6_book_125 ⟨Nat.zero_le _, Nat.zero_le _⟩ (fun S125 H locs hw hP hS => ?_)
            refine lv_iinc (v := v7 + (1 : Int32)) (lv' := [(7, .int (v7 + (1 : Int32))), (0, .ref (h 0)), (1, .int v1), (2, .int v2), (5, .int v5), (8, .int v8)]) hx hb dX6_book_128 hl (k := 4) rfl rfl (by decide) rfl (fun ls hl => ?_)
            refine lv_iinc (v := v8 + (1 : Int32)) (lv' := [(8, .int (v8 + (1 : Int32))), (7, .int (v7 + (1 : Int32))), (0, .ref (h 0)), (1, .int v1), (2, .int v2), (5, .int v5)]) hx hb dX6_book_131 hl (k := 5) rfl rfl (by decide) rfl (fun ls hl => ?_)
            refine lv_goto (tgt := 63) hx hb dX6_book_134 (by decide) ?_
            exact i63 (v7 + (1 : Int32)) (v8 + (1 : Int32)) S125 _ _ _ (lv_sub hl [2, 3, 4, 5, 1, 0] rfl) hP hS hw
  unfold kX6_book at hw
  refine lv_iload_n hx hb dX6_book_0 rfl (lv_at hl 1 rfl) ?_
  refine xSi0 (As := [.int v1]) (rest := []) hst hE hP hS ⟨hx, hb, hml, hown, hts⟩ (mX6_isYear l D h cI cJ t0 hh S L v1 _ hw) (va_cwS 1 hts gX6_book_X6_isYear rfl rfl rfl (by decide +kernel) ⟨Nat.le_of_ble_eq_true rfl, Nat.le_of_ble_eq_true rfl⟩) rfl hl.1 rfl (Nat.le_of_ble_eq_true rfl) dX6_book_1 ⟨Nat.zero_le _, Nat.zero_le _⟩ (fun r1 H locs hw hP hS => ?_)
  refine lv_if_eq (tgt := 21) hx hb dX6_book_4 (by decide) (fun hc => ?_) (fun hc => ?_)
  · replace hw := And.left hw hc
    refine lv_iconst (v := (-1 : Int32)) hx hb dX6_book_21 (by decide) ?_
    exact hret _ _ _ _ _ _ hP hS hw dX6_book_22
  · replace hw := And.right hw hc
    refine lv_iload_n hx hb dX6_book_7 rfl (lv_at hl 2 rfl) ?_
    refine xSi0 (As := [.int v2]) (rest := []) hst hE hP hS ⟨hx, hb, hml, hown, hts⟩ (mX6_isSheet l D h cI cJ t0 hh S L v2 _ hw) (va_cwS 1 hts gX6_book_X6_isSheet rfl rfl rfl (by decide +kernel) ⟨Nat.le_of_ble_eq_true rfl, Nat.le_of_ble_eq_true rfl⟩) rfl hl.1 rfl (Nat.le_of_ble_eq_true rfl) dX6_book_8 ⟨Nat.zero_le _, Nat.zero_le _⟩ (fun r8 H locs hw hP hS => ?_)
    refine lv_if_eq (tgt := 21) hx hb dX6_book_11 (by decide) (fun hc => ?_) (fun hc => ?_)
    · replace hw := And.left hw hc
      refine lv_iconst (v := (-1 : Int32)) hx hb dX6_book_21 (by decide) ?_
      exact hret _ _ _ _ _ _ hP hS hw dX6_book_22
    · replace hw := And.right hw hc
      refine lv_iload_n hx hb dX6_book_14 rfl (lv_at hl 3 rfl) ?_
      refine xSi0 (As := [.int v3]) (rest := []) hst hE hP hS ⟨hx, hb, hml, hown, hts⟩ (mX6_isLane l D h cI cJ t0 hh S L v3 _ hw) (va_cwS 1 hts gX6_book_X6_isLane rfl rfl rfl (by decide +kernel) ⟨Nat.le_of_ble_eq_true rfl, Nat.le_of_ble_eq_true rfl⟩) rfl hl.1 rfl (Nat.le_of_ble_eq_true rfl) dX6_book_15 ⟨Nat.zero_le _, Nat.zero_le _⟩ (fun r15 H locs hw hP hS => ?_)
      refine lv_if_ne (tgt := 23) hx hb dX6_book_18 (by decide) (fun hc => ?_) (fun hc => ?_)
      · replace hw := And.right hw hc
        refine lv_aload_n hx hb dX6_book_23 rfl (lv_at hl 0 rfl) ?_
        refine va_get (D := D) (ci := 6) (v := .ref (h 1)) (C := RX6) (T := TX6) (N := 8) hx hb hts inX6 hown hK hP 0 wX_0 rfl 0 (by decide) f0 (fun _ h9 => h9) rfl dX6_book_24 ?_
        refine lv_iload_n hx hb dX6_book_27 rfl (lv_at hl 1 rfl) ?_
        refine xVi0 (As := [.int v1]) (rest := []) hst hE hP hS ⟨hx, hb, hml, hown, hts⟩ (va_recv hK hP (ci := 5) (q := (RX5, TX5, 10)) rfl wX_1) (mX5_howManyInBook l D h cI cJ t0 hh S L v1 _ hw) (cwV 1 hts gX6_book_X5_howManyInBook rfl rfl rfl (by decide +kernel) ⟨Nat.le_of_ble_eq_true rfl, Nat.le_of_ble_eq_true rfl⟩) rfl hl.1 rfl (Nat.le_of_ble_eq_true rfl) dX6_book_28 ⟨Nat.zero_le _, Nat.zero_le _⟩ (fun r28 H locs hw hP hS => ?_)
        refine lv_istore (lv' := [(5, .int r28), (0, .ref (h 0)), (1, .int v1), (2, .int v2), (3, .int v3), (4, .int v4)]) hx hb dX6_book_31 hl (by decide) rfl (fun ls hl => ?_)
        refine lv_aload_n hx hb dX6_book_33 rfl (lv_at hl 1 rfl) ?_
        refine va_get (D := D) (ci := 6) (v := .ref (h 49)) (C := RX6) (T := TX6) (N := 8) hx hb hts inX6 hown hK hP 0 wX_0 rfl 7 (by decide) f7 (fun _ h9 => h9) rfl dX6_book_34 ?_
        refine lv_iload_n hx hb dX6_book_37 rfl (lv_at hl 3 rfl) ?_
        refine lv_iload_n hx hb dX6_book_38 rfl (lv_at hl 4 rfl) ?_
        refine lv_iload hx hb dX6_book_39 (lv_at hl 5 rfl) ?_
        refine lv_iload hx hb dX6_book_41 (lv_at hl 0 rfl) ?_
        refine xVi0 (As := [.int v2, .int v3, .int v4, .int r28]) (rest := []) hst hE hP hS ⟨hx, hb, hml, hown, hts⟩ (va_recv hK hP (ci := 2) (q := (RX2, TX2, 3)) rfl wX_49) (mX2_refusal l D h cI cJ t0 hh S L v2 v3 v4 r28 _ hw) (cwV 4 hts gX6_book_X2_refusal rfl rfl rfl (by decide +kernel) ⟨Nat.le_of_ble_eq_true rfl, Nat.le_of_ble_eq_true rfl⟩) rfl hl.1 rfl (Nat.le_of_ble_eq_true rfl) dX6_book_43 ⟨Nat.zero_le _, Nat.zero_le _⟩ (fun r43 H locs hw hP hS => ?_)
        refine lv_istore (lv' := [(6, .int r43), (5, .int r28), (0, .ref (h 0)), (1, .int v1), (2, .int v2), (3, .int v3), (4, .int v4)]) hx hb dX6_book_46 hl (by decide) rfl (fun ls hl => ?_)
        refine lv_iload hx hb dX6_book_48 (lv_at hl 0 rfl) ?_
        refine lv_if_eq (tgt := 56) hx hb dX6_book_50 (by decide) (fun hc => ?_) (fun hc => ?_)
        · replace hw := And.left hw hc
          refine lv_iload hx hb dX6_book_56 (lv_at hl 6 rfl) ?_
          refine lv_istore (lv' := [(7, .int v4), (6, .int r43), (5, .int r28), (0, .ref (h 0)), (1, .int v1), (2, .int v2), (3, .int v3), (4, .int v4)]) hx hb dX6_book_58 hl (by decide) rfl (fun ls hl => ?_)
          refine lv_iconst (v := (0 : Int32)) hx hb dX6_book_60 (by decide) ?_
          refine lv_istore (lv' := [(8, .int (0 : Int32)), (7, .int v4), (6, .int r43), (5, .int r28), (0, .ref (h 0)), (1, .int v1), (2, .int v2), (3, .int v3), (4, .int v4)]) hx hb dX6_book_61 hl (by decide) rfl (fun ls hl => ?_)
          obtain ⟨n63, hw⟩ := hw
          exact b63 r28 n63 v4 (0 : Int32) S _ _ _ (lv_sub hl [4, 5, 6, 3, 1, 0] rfl) hP hS hw
        · replace hw := And.right hw hc
          refine lv_iload hx hb dX6_book_53 (lv_at hl 0 rfl) ?_
          exact hret _ _ _ _ _ _ hP hS hw dX6_book_55
      · replace hw := And.left hw hc
        refine lv_iconst (v := (-1 : Int32)) hx hb dX6_book_21 (by decide) ?_
        exact hret _ _ _ _ _ _ hP hS hw dX6_book_22
abbrev rX6_crowds : Room := { frames := 2, cells := 0, slots := 0, locals := 47 }
set_option maxHeartbeats 4000000 in
set_option maxRecDepth 100000 in
theorem mX6_crowds (l : Launch) (D : va_G) (h : Nat → Nat) (cI cJ : ClassId) (t0 : Nat) (hh : xdis 53 h) (S : SX) (L : LX) (v1 : Int32) (v2 : Int32) (v3 : Int32) (post : Int32 → SX → Prop) (hw : kX6_crowds S L v1 v2 v3 post) : Met l yX6_crowds wsX6_crowds rX6_crowds (xPre D (wX h cI cJ) (xE D h cI cJ t0) S L [.ref (h 0), .int v1, .int v2, .int v3]) (va_Qi (fun (r : Int32) (u : SX × LX) => post r u.1 ∧ u.2 = L) (xB D (wX h cI cJ)) (xA 53 h)) 0 0 (xA 53 h) := by
  refine Met.ofW (cc := cX6_crowds) (maxL := 6) (ret := (some .int)) (by decide) rfl ?_
  intro p e s m args below meth c s₁ B hml hv
  obtain ⟨hargs, hP, hE⟩ := hv
  have hx := B.exec
  have hb := B.bytes
  have hr := B.returns
  have hlocks := B.notSynchronized
  have hts := atoms_spec (ws := wsX6_crowds) B.pre
  have hown : s.vm.findClass RX6 = some m.cls := findClass_of_methodNamed B.named
  have hS : va_S (xA 53 h) s.heap s.heap [] := va_S.rf
  have hD : ∀ (S : SX) (L : LX), va_D (xA 53 h) (wX h cI cJ S L) := fun S L => wX_D hh cI cJ S L
  have hK := hE.1
  have hst : xSt (xA 53 h) (xE D h cI cJ t0) := xE_st D h cI cJ t0
  have f0 := hts (.fieldLink RX6 10 "BookOfWills" "world" "LBookOfWills$World;") (by decide +kernel)
  have inX6 : ∀ w ∈ u_ws RX6 TX6 8, w ∈ wsX6_crowds := fun w hw9 => List.mem_cons_of_mem _ (List.mem_append_left _ (List.mem_append_left _ (List.mem_append_right _ hw9)))
  have f2 := hts (.fieldLink RX6 199 "BookOfWills$World" "people" "[I") (by decide +kernel)
  have inX5 : ∀ w ∈ u_ws RX5 TX5 10, w ∈ wsX6_crowds := fun w hw9 => List.mem_cons_of_mem _ (List.mem_append_left _ (List.mem_append_right _ hw9))
  have f4 := hts (.fieldLink RX6 50 "BookOfWills" "sheets" "LBookOfWills$Sheets;") (by decide +kernel)
  have f5 := hts (.constantLong RX6 197 (999999)) (by decide +kernel)
  have hl := lv_entry ([.ref (h 0), .int v1, .int v2, .int v3]) (n := 6) (Nat.le_of_ble_eq_true rfl)
  have hen : entryFrame m args 6 = F0 m 0 ((lg_sl ([.ref (h 0), .int v1, .int v2, .int v3]) ++ List.replicate (6 - (lg_sl ([.ref (h 0), .int v1, .int v2, .int v3])).length) Slot.unset).toArray) [] := by rw [hargs]; exact lg_entry_eq m _ _
  rw [hen]
  generalize (lg_sl ([.ref (h 0), .int v1, .int v2, .int v3]) ++ List.replicate (6 - (lg_sl ([.ref (h 0), .int v1, .int v2, .int v3])).length) Slot.unset).toArray = ls at hl ⊢
  have hl : lv_has ls 6 [(0, .ref (h 0)), (1, .int v1), (2, .int v2), (3, .int v3)] := hl
  change W p l e rX6_crowds s m args below meth c s.heap [] 0 0 (MQ below (va_Qi (fun (r : Int32) (u : SX × LX) => post r u.1 ∧ u.2 = L) (xB D (wX h cI cJ)) (xA 53 h)) args s 0 0 (xA 53 h)) (F0 m 0 ls [])
  have hret : ∀ (r : Int32) (S1 : SX) (H : Heap) (locs : List Loc) (ls : Array Slot) (pc : Nat), va_P D vwCl (wX h cI cJ S1 L) H → va_S (xA 53 h) s.heap H locs → post r S1 → decode cX6_crowds pc = .ok (.ireturn, 1) → W p l e rX6_crowds s m args below meth c H locs 0 0 (MQ below (va_Qi (fun (r : Int32) (u : SX × LX) => post r u.1 ∧ u.2 = L) (xB D (wX h cI cJ)) (xA 53 h)) args s 0 0 (xA 53 h)) (F0 m pc ls [.int r]) := fun r S1 H locs ls pc hP hS hw hd => W.iret hx hb hr (fun t ht hW => ⟨⟨r, (S1, L), rfl, ⟨hw, rfl⟩, show va_P D vwCl (wX h cI cJ S1 L) t.heap by rw [ht]; exact hP⟩, hS.F ht⟩) hS.2.2 hd
  generalize MQ below (va_Qi (fun (r : Int32) (u : SX × LX) => post r u.1 ∧ u.2 = L) (xB D (wX h cI cJ)) (xA 53 h)) args s 0 0 (xA 53 h) = Q at hret ⊢
  have b41 : ∀  (n41 : Nat) (v5 : Int32) (S : SX) (H : Heap) (locs : List Loc) (ls : Array Slot), lv_has ls 6 [(0, .ref (h 0)), (1, .int v1), (3, .int v3), (5, .int v5)] → va_P D vwCl (wX h cI cJ S L) H → va_S (xA 53 h) s.heap H locs → kX6_crowds_b41 L v1 v2 v3 post n41 v5 S → W p l e rX6_crowds s m args below meth c H locs 0 0 Q (F0 m 41 ls []) := by
    intro n41
    induction n41 with
    | zero => intro v5 S H locs ls hl hP hS hw; exact absurd hw id
    | succ n41 i41 =>
      have b83 : ∀  (n83 : Nat) (v5 : Int32) (S : SX) (H : Heap) (locs : List Loc) (ls : Array Slot), lv_has ls 6 [(0, .ref (h 0)), (1, .int v1), (3, .int v3), (5, .int v5)] → va_P D vwCl (wX h cI cJ S L) H → va_S (xA 53 h) s.heap H locs → kX6_crowds_b83 L v1 v2 v3 post n83 v5 S → W p l e rX6_crowds s m args below meth c H locs 0 0 Q (F0 m 83 ls []) := by
        intro n83
        induction n83 with
        | zero => intro v5 S H locs ls hl hP hS hw; exact absurd hw id
        | succ n83 i83 =>
          intro v5 S H locs ls hl hP hS hw
          unfold kX6_crowds_b83 at hw
          refine lv_iload hx hb dX6_crowds_83 (lv_at hl 3 rfl) ?_
          refine lv_bipush (v := (8 : Int32)) hx hb dX6_crowds_85 (by decide) ?_
          refine lv_icmp_ge (tgt := 118) hx hb dX6_crowds_87 (by decide) (fun hc => ?_) (fun hc => ?_)
          · replace hw := And.left hw hc
            refine lv_bipush (v := (8 : Int32)) hx hb dX6_crowds_118 (by decide) ?_
            exact hret _ _ _ _ _ _ hP hS hw dX6_crowds_120
          · replace hw := And.right hw hc
            refine lv_aload_n hx hb dX6_crowds_90 rfl (lv_at hl 0 rfl) ?_
            refine va_get (D := D) (ci := 6) (v := .ref (h 1)) (C := RX6) (T := TX6) (N := 8) hx hb hts inX6 hown hK hP 0 wX_0 rfl 0 (by decide) f0 (fun _ h9 => h9) rfl dX6_crowds_91 ?_
            refine va_get (D := D) (ci := 5) (v := .ref (h 13)) (C := RX5) (T := TX5) (N := 10) hx hb hts inX5 hown hK hP 1 wX_1 rfl 5 (by decide) f2 (fun _ h9 => h9) rfl dX6_crowds_94 ?_
            refine lv_iload hx hb dX6_crowds_97 (lv_at hl 3 rfl) ?_
            refine lv_aload_n hx hb dX6_crowds_99 rfl (lv_at hl 0 rfl) ?_
            refine va_get (D := D) (ci := 6) (v := .ref (h 49)) (C := RX6) (T := TX6) (N := 8) hx hb hts inX6 hown hK hP 0 wX_0 rfl 7 (by decide) f4 (fun _ h9 => h9) rfl dX6_crowds_100 ?_
            refine lv_iload_n hx hb dX6_crowds_103 rfl (lv_at hl 1 rfl) ?_
            refine lv_iload_n hx hb dX6_crowds_104 rfl (lv_at hl 2 rfl) ?_
            refine lv_iload hx hb dX6_crowds_105 (lv_at hl 3 rfl) ?_
            refine lv_iadd hx hb dX6_crowds_107 ?_
            refine xVi0 (As := [.int v1, .int (v3 + v5)]) (rest := [.int v5, .ref (h 13)]) hst hE hP hS ⟨hx, hb, hml, hown, hts⟩ (va_recv hK hP (ci := 2) (q := (RX2, TX2, 3)) rfl wX_49) (mX2_at l D h cI cJ t0 hh S L v1 (v3 + v5) _ hw) (cwV 2 hts gX6_crowds_X2_at rfl rfl rfl (by decide +kernel) ⟨Nat.le_of_ble_eq_true rfl, Nat.le_of_ble_eq_true rfl⟩) rfl hl.1 rfl (Nat.le_of_ble_eq_true rfl) dX6_crowds_108 ⟨Nat.zero_le _, Nat.zero_le _⟩ (fun r108 H locs hw hP hS => ?_)
            obtain ⟨hi, hw⟩ := hw
            refine x_iast (ws2 := wX h cI cJ (xu S 13 v5.toNatClampNeg r108) L) hx hb hK hP (hD _ _) hS 13 0 wX_13 rfl hi dX6_crowds_111 (wX_u13 _ _) (fun H locs hP hS => ?_)
            refine lv_iinc (v := v5 + (1 : Int32)) (lv' := [(5, .int (v5 + (1 : Int32))), (0, .ref (h 0)), (1, .int v1), (3, .int v3)]) hx hb dX6_crowds_112 hl (k := 3) rfl rfl (by decide) rfl (fun ls hl => ?_)
            refine lv_goto (tgt := 83) hx hb dX6_crowds_115 (by decide) ?_
            exact i83 (v5 + (1 : Int32)) (xu S 13 v5.toNatClampNeg r108) _ _ _ (lv_sub hl [1, 2, 3, 0] rfl) hP hS hw
      intro v5 S H locs ls hl hP hS hw
      unfold kX6_crowds_b41 at hw
      refine lv_iload hx hb dX6_crowds_41 (lv_at hl 3 rfl) ?_
      refine lv_bipush (v := (8 : Int32)) hx hb dX6_crowds_43 (by decide) ?_
      refine lv_icmp_ge (tgt := 80) hx hb dX6_crowds_45 (by decide) (fun hc => ?_) (fun hc => ?_)
      · replace hw := And.left hw hc
        refine lv_iconst (v := (0 : Int32)) hx hb dX6_crowds_80 (by decide) ?_
        refine lv_istore (lv' := [(5, .int (0 : Int32)), (0, .ref (h 0)), (1, .int v1), (3, .int v3)]) hx hb dX6_crowds_81 hl (by decide) rfl (fun ls hl => ?_)
        obtain ⟨n83, hw⟩ := hw
        exact b83  n83 (0 : Int32) S _ _ _ (lv_sub hl [1, 2, 3, 0] rfl) hP hS hw
      · replace hw := And.right hw hc
        refine lv_aload_n hx hb dX6_crowds_48 rfl (lv_at hl 0 rfl) ?_
        refine va_get (D := D) (ci := 6) (v := .ref (h 49)) (C := RX6) (T := TX6) (N := 8) hx hb hts inX6 hown hK hP 0 wX_0 rfl 7 (by decide) f4 (fun _ h9 => h9) rfl dX6_crowds_49 ?_
        refine lv_iload_n hx hb dX6_crowds_52 rfl (lv_at hl 1 rfl) ?_
        refine lv_iload_n hx hb dX6_crowds_53 rfl (lv_at hl 2 rfl) ?_
        refine lv_iload hx hb dX6_crowds_54 (lv_at hl 3 rfl) ?_
        refine lv_iadd hx hb dX6_crowds_56 ?_
        refine xVi0 (As := [.int v1, .int (v3 + v5)]) (rest := []) hst hE hP hS ⟨hx, hb, hml, hown, hts⟩ (va_recv hK hP (ci := 2) (q := (RX2, TX2, 3)) rfl wX_49) (mX2_at l D h cI cJ t0 hh S L v1 (v3 + v5) _ hw) (cwV 2 hts gX6_crowds_X2_at rfl rfl rfl (by decide +kernel) ⟨Nat.le_of_ble_eq_true rfl, Nat.le_of_ble_eq_true rfl⟩) rfl hl.1 rfl (Nat.le_of_ble_eq_true rfl) dX6_crowds_57 ⟨Nat.zero_le _, Nat.zero_le _⟩ (fun r57 H locs hw hP hS => ?_)
        refine lv_i2l hx hb dX6_crowds_60 rfl ?_
        refine lv_lconst (v := (1 : Int64)) hx hb dX6_crowds_61 (by decide) ?_
        refine lv_ldc2 (v := (999999 : Int64)) hx hb hown (f5) dX6_crowds_62 ?_
        refine xSi0 (As := [.long r57.toInt64, .long (1 : Int64), .long (999999 : Int64)]) (rest := []) hst hE hP hS ⟨hx, hb, hml, hown, hts⟩ (mX6_isWithin l D h cI cJ t0 hh S L r57.toInt64 (1 : Int64) (999999 : Int64) _ hw) (va_cwS 3 hts gX6_crowds_X6_isWithin rfl rfl rfl (by decide +kernel) ⟨Nat.le_of_ble_eq_true rfl, Nat.le_of_ble_eq_true rfl⟩) rfl hl.1 rfl (Nat.le_of_ble_eq_true rfl) dX6_crowds_65 ⟨Nat.zero_le _, Nat.zero_le _⟩ (fun r65 H locs hw hP hS => ?_)
        refine lv_if_ne (tgt := 74) hx hb dX6_crowds_68 (by decide) (fun hc => ?_) (fun hc => ?_)
        · replace hw := And.right hw hc
          refine lv_iinc (v := v5 + (1 : Int32)) (lv' := [(5, .int (v5 + (1 : Int32))), (0, .ref (h 0)), (1, .int v1), (3, .int v3)]) hx hb dX6_crowds_74 hl (k := 3) rfl rfl (by decide) rfl (fun ls hl => ?_)
          refine lv_goto (tgt := 41) hx hb dX6_crowds_77 (by decide) ?_
          exact i41 (v5 + (1 : Int32)) S _ _ _ (lv_sub hl [1, 2, 3, 0] rfl) hP hS hw
        · replace hw := And.left hw hc
          refine lv_bipush (v := (-2 : Int32)) hx hb dX6_crowds_71 (by decide) ?_
          exact hret _ _ _ _ _ _ hP hS hw dX6_crowds_73
  unfold kX6_crowds at hw
  refine lv_iload_n hx hb dX6_crowds_0 rfl (lv_at hl 1 rfl) ?_
  refine xSi0 (As := [.int v1]) (rest := []) hst hE hP hS ⟨hx, hb, hml, hown, hts⟩ (mX6_isSheet l D h cI cJ t0 hh S L v1 _ hw) (va_cwS 1 hts gX6_crowds_X6_isSheet rfl rfl rfl (by decide +kernel) ⟨Nat.le_of_ble_eq_true rfl, Nat.le_of_ble_eq_true rfl⟩) rfl hl.1 rfl (Nat.le_of_ble_eq_true rfl) dX6_crowds_1 ⟨Nat.zero_le _, Nat.zero_le _⟩ (fun r1 H locs hw hP hS => ?_)
  refine lv_if_eq (tgt := 14) hx hb dX6_crowds_4 (by decide) (fun hc => ?_) (fun hc => ?_)
  · replace hw := And.left hw hc
    refine lv_iconst (v := (-1 : Int32)) hx hb dX6_crowds_14 (by decide) ?_
    exact hret _ _ _ _ _ _ hP hS hw dX6_crowds_15
  · replace hw := And.right hw hc
    refine lv_iload_n hx hb dX6_crowds_7 rfl (lv_at hl 2 rfl) ?_
    refine xSi0 (As := [.int v2]) (rest := []) hst hE hP hS ⟨hx, hb, hml, hown, hts⟩ (mX6_isLane l D h cI cJ t0 hh S L v2 _ hw) (va_cwS 1 hts gX6_crowds_X6_isLane rfl rfl rfl (by decide +kernel) ⟨Nat.le_of_ble_eq_true rfl, Nat.le_of_ble_eq_true rfl⟩) rfl hl.1 rfl (Nat.le_of_ble_eq_true rfl) dX6_crowds_8 ⟨Nat.zero_le _, Nat.zero_le _⟩ (fun r8 H locs hw hP hS => ?_)
    refine lv_if_ne (tgt := 16) hx hb dX6_crowds_11 (by decide) (fun hc => ?_) (fun hc => ?_)
    · replace hw := And.right hw hc
      refine lv_aload_n hx hb dX6_crowds_16 rfl (lv_at hl 0 rfl) ?_
      refine va_get (D := D) (ci := 6) (v := .ref (h 49)) (C := RX6) (T := TX6) (N := 8) hx hb hts inX6 hown hK hP 0 wX_0 rfl 7 (by decide) f4 (fun _ h9 => h9) rfl dX6_crowds_17 ?_
      refine lv_iload_n hx hb dX6_crowds_20 rfl (lv_at hl 1 rfl) ?_
      refine lv_iload_n hx hb dX6_crowds_21 rfl (lv_at hl 2 rfl) ?_
      refine lv_iload_n hx hb dX6_crowds_22 rfl (lv_at hl 3 rfl) ?_
      refine lv_bipush (v := (8 : Int32)) hx hb dX6_crowds_23 (by decide) ?_
      refine xVi0 (As := [.int v1, .int v2, .int v3, .int (8 : Int32)]) (rest := []) hst hE hP hS ⟨hx, hb, hml, hown, hts⟩ (va_recv hK hP (ci := 2) (q := (RX2, TX2, 3)) rfl wX_49) (mX2_refusal l D h cI cJ t0 hh S L v1 v2 v3 (8 : Int32) _ hw) (cwV 4 hts gX6_crowds_X2_refusal rfl rfl rfl (by decide +kernel) ⟨Nat.le_of_ble_eq_true rfl, Nat.le_of_ble_eq_true rfl⟩) rfl hl.1 rfl (Nat.le_of_ble_eq_true rfl) dX6_crowds_25 ⟨Nat.zero_le _, Nat.zero_le _⟩ (fun r25 H locs hw hP hS => ?_)
      refine lv_istore (lv' := [(4, .int r25), (0, .ref (h 0)), (1, .int v1), (2, .int v2), (3, .int v3)]) hx hb dX6_crowds_28 hl (by decide) rfl (fun ls hl => ?_)
      refine lv_iload hx hb dX6_crowds_30 (lv_at hl 0 rfl) ?_
      refine lv_if_eq (tgt := 38) hx hb dX6_crowds_32 (by decide) (fun hc => ?_) (fun hc => ?_)
      · replace hw := And.left hw hc
        refine lv_iconst (v := (0 : Int32)) hx hb dX6_crowds_38 (by decide) ?_
        refine lv_istore (lv' := [(5, .int (0 : Int32)), (4, .int r25), (0, .ref (h 0)), (1, .int v1), (2, .int v2), (3, .int v3)]) hx hb dX6_crowds_39 hl (by decide) rfl (fun ls hl => ?_)
        obtain ⟨n41, hw⟩ := hw
        exact b41  n41 (0 : Int32) S _ _ _ (lv_sub hl [2, 3, 5, 0] rfl) hP hS hw
      · replace hw := And.right hw hc
        refine lv_iload hx hb dX6_crowds_35 (lv_at hl 0 rfl) ?_
        exact hret _ _ _ _ _ _ hP hS hw dX6_crowds_37
    · replace hw := And.left hw hc
      refine lv_iconst (v := (-1 : Int32)) hx hb dX6_crowds_14 (by decide) ?_
      exact hret _ _ _ _ _ _ hP hS hw dX6_crowds_15
abbrev rX6_sheet : Room := { frames := 2, cells := 0, slots := 0, locals := 45 }
set_option maxHeartbeats 4000000 in
set_option maxRecDepth 100000 in
theorem mX6_sheet (l : Launch) (D : va_G) (h : Nat → Nat) (cI cJ : ClassId) (t0 : Nat) (hh : xdis 53 h) (S : SX) (L : LX) (v1 : Int32) (v2 : Int32) (v3 : Int32) (post : Int32 → SX → Prop) (hw : kX6_sheet S L v1 v2 v3 post) : Met l yX6_sheet wsX6_sheet rX6_sheet (xPre D (wX h cI cJ) (xE D h cI cJ t0) S L [.ref (h 0), .int v1, .int v2, .int v3]) (va_Qi (fun (r : Int32) (u : SX × LX) => post r u.1 ∧ u.2 = L) (xB D (wX h cI cJ)) (xA 53 h)) 0 0 (xA 53 h) := by
  refine Met.ofW (cc := cX6_sheet) (maxL := 4) (ret := (some .int)) (by decide) rfl ?_
  intro p e s m args below meth c s₁ B hml hv
  obtain ⟨hargs, hP, hE⟩ := hv
  have hx := B.exec
  have hb := B.bytes
  have hr := B.returns
  have hlocks := B.notSynchronized
  have hts := atoms_spec (ws := wsX6_sheet) B.pre
  have hown : s.vm.findClass RX6 = some m.cls := findClass_of_methodNamed B.named
  have hS : va_S (xA 53 h) s.heap s.heap [] := va_S.rf
  have hD : ∀ (S : SX) (L : LX), va_D (xA 53 h) (wX h cI cJ S L) := fun S L => wX_D hh cI cJ S L
  have hK := hE.1
  have hst : xSt (xA 53 h) (xE D h cI cJ t0) := xE_st D h cI cJ t0
  have f0 := hts (.fieldLink RX6 50 "BookOfWills" "sheets" "LBookOfWills$Sheets;") (by decide +kernel)
  have inX6 : ∀ w ∈ u_ws RX6 TX6 8, w ∈ wsX6_sheet := fun w hw9 => List.mem_cons_of_mem _ (List.mem_append_left _ (List.mem_append_right _ hw9))
  have hl := lv_entry ([.ref (h 0), .int v1, .int v2, .int v3]) (n := 4) (Nat.le_of_ble_eq_true rfl)
  have hen : entryFrame m args 4 = F0 m 0 ((lg_sl ([.ref (h 0), .int v1, .int v2, .int v3]) ++ List.replicate (4 - (lg_sl ([.ref (h 0), .int v1, .int v2, .int v3])).length) Slot.unset).toArray) [] := by rw [hargs]; exact lg_entry_eq m _ _
  rw [hen]
  generalize (lg_sl ([.ref (h 0), .int v1, .int v2, .int v3]) ++ List.replicate (4 - (lg_sl ([.ref (h 0), .int v1, .int v2, .int v3])).length) Slot.unset).toArray = ls at hl ⊢
  have hl : lv_has ls 4 [(0, .ref (h 0)), (1, .int v1), (2, .int v2), (3, .int v3)] := hl
  change W p l e rX6_sheet s m args below meth c s.heap [] 0 0 (MQ below (va_Qi (fun (r : Int32) (u : SX × LX) => post r u.1 ∧ u.2 = L) (xB D (wX h cI cJ)) (xA 53 h)) args s 0 0 (xA 53 h)) (F0 m 0 ls [])
  have hret : ∀ (r : Int32) (S1 : SX) (H : Heap) (locs : List Loc) (ls : Array Slot) (pc : Nat), va_P D vwCl (wX h cI cJ S1 L) H → va_S (xA 53 h) s.heap H locs → post r S1 → decode cX6_sheet pc = .ok (.ireturn, 1) → W p l e rX6_sheet s m args below meth c H locs 0 0 (MQ below (va_Qi (fun (r : Int32) (u : SX × LX) => post r u.1 ∧ u.2 = L) (xB D (wX h cI cJ)) (xA 53 h)) args s 0 0 (xA 53 h)) (F0 m pc ls [.int r]) := fun r S1 H locs ls pc hP hS hw hd => W.iret hx hb hr (fun t ht hW => ⟨⟨r, (S1, L), rfl, ⟨hw, rfl⟩, show va_P D vwCl (wX h cI cJ S1 L) t.heap by rw [ht]; exact hP⟩, hS.F ht⟩) hS.2.2 hd
  generalize MQ below (va_Qi (fun (r : Int32) (u : SX × LX) => post r u.1 ∧ u.2 = L) (xB D (wX h cI cJ)) (xA 53 h)) args s 0 0 (xA 53 h) = Q at hret ⊢
  unfold kX6_sheet at hw
  refine lv_iload_n hx hb dX6_sheet_0 rfl (lv_at hl 1 rfl) ?_
  refine xSi0 (As := [.int v1]) (rest := []) hst hE hP hS ⟨hx, hb, hml, hown, hts⟩ (mX6_isSheet l D h cI cJ t0 hh S L v1 _ hw) (va_cwS 1 hts gX6_sheet_X6_isSheet rfl rfl rfl (by decide +kernel) ⟨Nat.le_of_ble_eq_true rfl, Nat.le_of_ble_eq_true rfl⟩) rfl hl.1 rfl (Nat.le_of_ble_eq_true rfl) dX6_sheet_1 ⟨Nat.zero_le _, Nat.zero_le _⟩ (fun r1 H locs hw hP hS => ?_)
  refine lv_if_eq (tgt := 20) hx hb dX6_sheet_4 (by decide) (fun hc => ?_) (fun hc => ?_)
  · replace hw := And.left hw hc
    refine lv_iconst (v := (-1 : Int32)) hx hb dX6_sheet_20 (by decide) ?_
    exact hret _ _ _ _ _ _ hP hS hw dX6_sheet_21
  · replace hw := And.right hw hc
    refine lv_iload_n hx hb dX6_sheet_7 rfl (lv_at hl 2 rfl) ?_
    refine xSi0 (As := [.int v2]) (rest := []) hst hE hP hS ⟨hx, hb, hml, hown, hts⟩ (mX6_isLane l D h cI cJ t0 hh S L v2 _ hw) (va_cwS 1 hts gX6_sheet_X6_isLane rfl rfl rfl (by decide +kernel) ⟨Nat.le_of_ble_eq_true rfl, Nat.le_of_ble_eq_true rfl⟩) rfl hl.1 rfl (Nat.le_of_ble_eq_true rfl) dX6_sheet_8 ⟨Nat.zero_le _, Nat.zero_le _⟩ (fun r8 H locs hw hP hS => ?_)
    refine lv_if_eq (tgt := 20) hx hb dX6_sheet_11 (by decide) (fun hc => ?_) (fun hc => ?_)
    · replace hw := And.left hw hc
      refine lv_iconst (v := (-1 : Int32)) hx hb dX6_sheet_20 (by decide) ?_
      exact hret _ _ _ _ _ _ hP hS hw dX6_sheet_21
    · replace hw := And.right hw hc
      refine lv_iload_n hx hb dX6_sheet_14 rfl (lv_at hl 3 rfl) ?_
      refine lv_bipush (v := (24 : Int32)) hx hb dX6_sheet_15 (by decide) ?_
      refine lv_icmp_le (tgt := 22) hx hb dX6_sheet_17 (by decide) (fun hc => ?_) (fun hc => ?_)
      · replace hw := And.left hw hc
        refine lv_iload_n hx hb dX6_sheet_22 rfl (lv_at hl 3 rfl) ?_
        refine lv_if_ge (tgt := 29) hx hb dX6_sheet_23 (by decide) (fun hc => ?_) (fun hc => ?_)
        · replace hw := And.left hw hc
          refine lv_aload_n hx hb dX6_sheet_29 rfl (lv_at hl 0 rfl) ?_
          refine va_get (D := D) (ci := 6) (v := .ref (h 49)) (C := RX6) (T := TX6) (N := 8) hx hb hts inX6 hown hK hP 0 wX_0 rfl 7 (by decide) f0 (fun _ h9 => h9) rfl dX6_sheet_30 ?_
          refine lv_iload_n hx hb dX6_sheet_33 rfl (lv_at hl 1 rfl) ?_
          refine lv_iload_n hx hb dX6_sheet_34 rfl (lv_at hl 2 rfl) ?_
          refine lv_iload_n hx hb dX6_sheet_35 rfl (lv_at hl 3 rfl) ?_
          refine xVv1 (As := [.int v1, .int v2, .int v3]) (rest := []) hst hE hP hS ⟨hx, hb, hml, hown, hts⟩ (va_recv hK hP (ci := 2) (q := (RX2, TX2, 3)) rfl wX_49) (mX2_hold l D h cI cJ t0 hh S L v1 v2 v3 _ hw) (cwV 3 hts gX6_sheet_X2_hold rfl rfl rfl (by decide +kernel) ⟨Nat.le_of_ble_eq_true rfl, Nat.le_of_ble_eq_true rfl⟩) rfl hl.1 rfl (Nat.le_of_ble_eq_true rfl) dX6_sheet_36 ⟨Nat.zero_le _, Nat.zero_le _⟩ (fun S36 H locs hw hP hS => ?_)
          refine lv_iload_n hx hb dX6_sheet_39 rfl (lv_at hl 3 rfl) ?_
          exact hret _ _ _ _ _ _ hP hS hw dX6_sheet_40
        · replace hw := And.right hw hc
          refine lv_bipush (v := (-14 : Int32)) hx hb dX6_sheet_26 (by decide) ?_
          exact hret _ _ _ _ _ _ hP hS hw dX6_sheet_28
      · replace hw := And.right hw hc
        refine lv_iconst (v := (-1 : Int32)) hx hb dX6_sheet_20 (by decide) ?_
        exact hret _ _ _ _ _ _ hP hS hw dX6_sheet_21
abbrev rX6_drop : Room := { frames := 2, cells := 0, slots := 0, locals := 45 }
set_option maxHeartbeats 4000000 in
set_option maxRecDepth 100000 in
theorem mX6_drop (l : Launch) (D : va_G) (h : Nat → Nat) (cI cJ : ClassId) (t0 : Nat) (hh : xdis 53 h) (S : SX) (L : LX) (v1 : Int32) (post : Int32 → SX → Prop) (hw : kX6_drop S L v1 post) : Met l yX6_drop wsX6_drop rX6_drop (xPre D (wX h cI cJ) (xE D h cI cJ t0) S L [.ref (h 0), .int v1]) (va_Qi (fun (r : Int32) (u : SX × LX) => post r u.1 ∧ u.2 = L) (xB D (wX h cI cJ)) (xA 53 h)) 0 0 (xA 53 h) := by
  refine Met.ofW (cc := cX6_drop) (maxL := 3) (ret := (some .int)) (by decide) rfl ?_
  intro p e s m args below meth c s₁ B hml hv
  obtain ⟨hargs, hP, hE⟩ := hv
  have hx := B.exec
  have hb := B.bytes
  have hr := B.returns
  have hlocks := B.notSynchronized
  have hts := atoms_spec (ws := wsX6_drop) B.pre
  have hown : s.vm.findClass RX6 = some m.cls := findClass_of_methodNamed B.named
  have hS : va_S (xA 53 h) s.heap s.heap [] := va_S.rf
  have hD : ∀ (S : SX) (L : LX), va_D (xA 53 h) (wX h cI cJ S L) := fun S L => wX_D hh cI cJ S L
  have hK := hE.1
  have hst : xSt (xA 53 h) (xE D h cI cJ t0) := xE_st D h cI cJ t0
  have f0 := hts (.fieldLink RX6 50 "BookOfWills" "sheets" "LBookOfWills$Sheets;") (by decide +kernel)
  have inX6 : ∀ w ∈ u_ws RX6 TX6 8, w ∈ wsX6_drop := fun w hw9 => List.mem_cons_of_mem _ (List.mem_append_left _ (List.mem_append_right _ hw9))
  have f2 := hts (.fieldLink RX6 344 "BookOfWills$Sheets" "size" "[I") (by decide +kernel)
  have inX2 : ∀ w ∈ u_ws RX2 TX2 3, w ∈ wsX6_drop := fun w hw9 => List.mem_cons_of_mem _ (List.mem_append_right _ hw9)
  have hl := lv_entry ([.ref (h 0), .int v1]) (n := 3) (Nat.le_of_ble_eq_true rfl)
  have hen : entryFrame m args 3 = F0 m 0 ((lg_sl ([.ref (h 0), .int v1]) ++ List.replicate (3 - (lg_sl ([.ref (h 0), .int v1])).length) Slot.unset).toArray) [] := by rw [hargs]; exact lg_entry_eq m _ _
  rw [hen]
  generalize (lg_sl ([.ref (h 0), .int v1]) ++ List.replicate (3 - (lg_sl ([.ref (h 0), .int v1])).length) Slot.unset).toArray = ls at hl ⊢
  have hl : lv_has ls 3 [(0, .ref (h 0)), (1, .int v1)] := hl
  change W p l e rX6_drop s m args below meth c s.heap [] 0 0 (MQ below (va_Qi (fun (r : Int32) (u : SX × LX) => post r u.1 ∧ u.2 = L) (xB D (wX h cI cJ)) (xA 53 h)) args s 0 0 (xA 53 h)) (F0 m 0 ls [])
  have hret : ∀ (r : Int32) (S1 : SX) (H : Heap) (locs : List Loc) (ls : Array Slot) (pc : Nat), va_P D vwCl (wX h cI cJ S1 L) H → va_S (xA 53 h) s.heap H locs → post r S1 → decode cX6_drop pc = .ok (.ireturn, 1) → W p l e rX6_drop s m args below meth c H locs 0 0 (MQ below (va_Qi (fun (r : Int32) (u : SX × LX) => post r u.1 ∧ u.2 = L) (xB D (wX h cI cJ)) (xA 53 h)) args s 0 0 (xA 53 h)) (F0 m pc ls [.int r]) := fun r S1 H locs ls pc hP hS hw hd => W.iret hx hb hr (fun t ht hW => ⟨⟨r, (S1, L), rfl, ⟨hw, rfl⟩, show va_P D vwCl (wX h cI cJ S1 L) t.heap by rw [ht]; exact hP⟩, hS.F ht⟩) hS.2.2 hd
  generalize MQ below (va_Qi (fun (r : Int32) (u : SX × LX) => post r u.1 ∧ u.2 = L) (xB D (wX h cI cJ)) (xA 53 h)) args s 0 0 (xA 53 h) = Q at hret ⊢
  unfold kX6_drop at hw
  refine lv_iload_n hx hb dX6_drop_0 rfl (lv_at hl 1 rfl) ?_
  refine xSi0 (As := [.int v1]) (rest := []) hst hE hP hS ⟨hx, hb, hml, hown, hts⟩ (mX6_isSheet l D h cI cJ t0 hh S L v1 _ hw) (va_cwS 1 hts gX6_drop_X6_isSheet rfl rfl rfl (by decide +kernel) ⟨Nat.le_of_ble_eq_true rfl, Nat.le_of_ble_eq_true rfl⟩) rfl hl.1 rfl (Nat.le_of_ble_eq_true rfl) dX6_drop_1 ⟨Nat.zero_le _, Nat.zero_le _⟩ (fun r1 H locs hw hP hS => ?_)
  refine lv_if_ne (tgt := 9) hx hb dX6_drop_4 (by decide) (fun hc => ?_) (fun hc => ?_)
  · replace hw := And.right hw hc
    refine lv_aload_n hx hb dX6_drop_9 rfl (lv_at hl 0 rfl) ?_
    refine va_get (D := D) (ci := 6) (v := .ref (h 49)) (C := RX6) (T := TX6) (N := 8) hx hb hts inX6 hown hK hP 0 wX_0 rfl 7 (by decide) f0 (fun _ h9 => h9) rfl dX6_drop_10 ?_
    refine lv_iload_n hx hb dX6_drop_13 rfl (lv_at hl 1 rfl) ?_
    refine xVi0 (As := [.int v1]) (rest := []) hst hE hP hS ⟨hx, hb, hml, hown, hts⟩ (va_recv hK hP (ci := 2) (q := (RX2, TX2, 3)) rfl wX_49) (mX2_holdsRow l D h cI cJ t0 hh S L v1 _ hw) (cwV 1 hts gX6_drop_X2_holdsRow rfl rfl rfl (by decide +kernel) ⟨Nat.le_of_ble_eq_true rfl, Nat.le_of_ble_eq_true rfl⟩) rfl hl.1 rfl (Nat.le_of_ble_eq_true rfl) dX6_drop_14 ⟨Nat.zero_le _, Nat.zero_le _⟩ (fun r14 H locs hw hP hS => ?_)
    refine lv_if_ne (tgt := 23) hx hb dX6_drop_17 (by decide) (fun hc => ?_) (fun hc => ?_)
    · replace hw := And.right hw hc
      refine lv_aload_n hx hb dX6_drop_23 rfl (lv_at hl 0 rfl) ?_
      refine va_get (D := D) (ci := 6) (v := .ref (h 49)) (C := RX6) (T := TX6) (N := 8) hx hb hts inX6 hown hK hP 0 wX_0 rfl 7 (by decide) f0 (fun _ h9 => h9) rfl dX6_drop_24 ?_
      refine va_get (D := D) (ci := 2) (v := .ref (h 51)) (C := RX2) (T := TX2) (N := 3) hx hb hts inX2 hown hK hP 49 wX_49 rfl 1 (by decide) f2 (fun _ h9 => h9) rfl dX6_drop_27 ?_
      refine lv_iload_n hx hb dX6_drop_30 rfl (lv_at hl 1 rfl) ?_
      obtain ⟨hi, hw⟩ := hw
      refine va_iald hx hb hK hP 51 0 wX_51 rfl hi dX6_drop_31 ?_
      refine lv_istore_n (lv' := [(2, .int (S 51 v1.toNatClampNeg)), (0, .ref (h 0)), (1, .int v1)]) hx hb dX6_drop_32 rfl hl (by decide) rfl (fun ls hl => ?_)
      refine lv_aload_n hx hb dX6_drop_33 rfl (lv_at hl 1 rfl) ?_
      refine va_get (D := D) (ci := 6) (v := .ref (h 49)) (C := RX6) (T := TX6) (N := 8) hx hb hts inX6 hown hK hP 0 wX_0 rfl 7 (by decide) f0 (fun _ h9 => h9) rfl dX6_drop_34 ?_
      refine lv_iload_n hx hb dX6_drop_37 rfl (lv_at hl 2 rfl) ?_
      refine xVv1 (As := [.int v1]) (rest := []) hst hE hP hS ⟨hx, hb, hml, hown, hts⟩ (va_recv hK hP (ci := 2) (q := (RX2, TX2, 3)) rfl wX_49) (mX2_holdNothing l D h cI cJ t0 hh S L v1 _ hw) (cwV 1 hts gX6_drop_X2_holdNothing rfl rfl rfl (by decide +kernel) ⟨Nat.le_of_ble_eq_true rfl, Nat.le_of_ble_eq_true rfl⟩) rfl hl.1 rfl (Nat.le_of_ble_eq_true rfl) dX6_drop_38 ⟨Nat.zero_le _, Nat.zero_le _⟩ (fun S38 H locs hw hP hS => ?_)
      refine lv_iload_n hx hb dX6_drop_41 rfl (lv_at hl 0 rfl) ?_
      exact hret _ _ _ _ _ _ hP hS hw dX6_drop_42
    · replace hw := And.left hw hc
      refine lv_bipush (v := (-11 : Int32)) hx hb dX6_drop_20 (by decide) ?_
      exact hret _ _ _ _ _ _ hP hS hw dX6_drop_22
  · replace hw := And.left hw hc
    refine lv_iconst (v := (-1 : Int32)) hx hb dX6_drop_7 (by decide) ?_
    exact hret _ _ _ _ _ _ hP hS hw dX6_drop_8
abbrev rX6_item : Room := { frames := 2, cells := 0, slots := 0, locals := 47 }
set_option maxHeartbeats 4000000 in
set_option maxRecDepth 100000 in
theorem mX6_item (l : Launch) (D : va_G) (h : Nat → Nat) (cI cJ : ClassId) (t0 : Nat) (hh : xdis 53 h) (S : SX) (L : LX) (v1 : Int32) (v2 : Int32) (v3 : Int32) (v4 : Int32) (post : Int32 → SX → Prop) (hw : kX6_item S L v1 v2 v3 v4 post) : Met l yX6_item wsX6_item rX6_item (xPre D (wX h cI cJ) (xE D h cI cJ t0) S L [.ref (h 0), .int v1, .int v2, .int v3, .int v4]) (va_Qi (fun (r : Int32) (u : SX × LX) => post r u.1 ∧ u.2 = L) (xB D (wX h cI cJ)) (xA 53 h)) 0 0 (xA 53 h) := by
  refine Met.ofW (cc := cX6_item) (maxL := 6) (ret := (some .int)) (by decide) rfl ?_
  intro p e s m args below meth c s₁ B hml hv
  obtain ⟨hargs, hP, hE⟩ := hv
  have hx := B.exec
  have hb := B.bytes
  have hr := B.returns
  have hlocks := B.notSynchronized
  have hts := atoms_spec (ws := wsX6_item) B.pre
  have hown : s.vm.findClass RX6 = some m.cls := findClass_of_methodNamed B.named
  have hS : va_S (xA 53 h) s.heap s.heap [] := va_S.rf
  have hD : ∀ (S : SX) (L : LX), va_D (xA 53 h) (wX h cI cJ S L) := fun S L => wX_D hh cI cJ S L
  have hK := hE.1
  have hst : xSt (xA 53 h) (xE D h cI cJ t0) := xE_st D h cI cJ t0
  have f0 := hts (.fieldLink RX6 50 "BookOfWills" "sheets" "LBookOfWills$Sheets;") (by decide +kernel)
  have inX6 : ∀ w ∈ u_ws RX6 TX6 8, w ∈ wsX6_item := fun w hw9 => List.mem_cons_of_mem _ (List.mem_append_left _ (List.mem_append_right _ hw9))
  have hl := lv_entry ([.ref (h 0), .int v1, .int v2, .int v3, .int v4]) (n := 6) (Nat.le_of_ble_eq_true rfl)
  have hen : entryFrame m args 6 = F0 m 0 ((lg_sl ([.ref (h 0), .int v1, .int v2, .int v3, .int v4]) ++ List.replicate (6 - (lg_sl ([.ref (h 0), .int v1, .int v2, .int v3, .int v4])).length) Slot.unset).toArray) [] := by rw [hargs]; exact lg_entry_eq m _ _
  rw [hen]
  generalize (lg_sl ([.ref (h 0), .int v1, .int v2, .int v3, .int v4]) ++ List.replicate (6 - (lg_sl ([.ref (h 0), .int v1, .int v2, .int v3, .int v4])).length) Slot.unset).toArray = ls at hl ⊢
  have hl : lv_has ls 6 [(0, .ref (h 0)), (1, .int v1), (2, .int v2), (3, .int v3), (4, .int v4)] := hl
  change W p l e rX6_item s m args below meth c s.heap [] 0 0 (MQ below (va_Qi (fun (r : Int32) (u : SX × LX) => post r u.1 ∧ u.2 = L) (xB D (wX h cI cJ)) (xA 53 h)) args s 0 0 (xA 53 h)) (F0 m 0 ls [])
  have hret : ∀ (r : Int32) (S1 : SX) (H : Heap) (locs : List Loc) (ls : Array Slot) (pc : Nat), va_P D vwCl (wX h cI cJ S1 L) H → va_S (xA 53 h) s.heap H locs → post r S1 → decode cX6_item pc = .ok (.ireturn, 1) → W p l e rX6_item s m args below meth c H locs 0 0 (MQ below (va_Qi (fun (r : Int32) (u : SX × LX) => post r u.1 ∧ u.2 = L) (xB D (wX h cI cJ)) (xA 53 h)) args s 0 0 (xA 53 h)) (F0 m pc ls [.int r]) := fun r S1 H locs ls pc hP hS hw hd => W.iret hx hb hr (fun t ht hW => ⟨⟨r, (S1, L), rfl, ⟨hw, rfl⟩, show va_P D vwCl (wX h cI cJ S1 L) t.heap by rw [ht]; exact hP⟩, hS.F ht⟩) hS.2.2 hd
  generalize MQ below (va_Qi (fun (r : Int32) (u : SX × LX) => post r u.1 ∧ u.2 = L) (xB D (wX h cI cJ)) (xA 53 h)) args s 0 0 (xA 53 h) = Q at hret ⊢
  unfold kX6_item at hw
  refine lv_iload_n hx hb dX6_item_0 rfl (lv_at hl 1 rfl) ?_
  refine xSi0 (As := [.int v1]) (rest := []) hst hE hP hS ⟨hx, hb, hml, hown, hts⟩ (mX6_isSheet l D h cI cJ t0 hh S L v1 _ hw) (va_cwS 1 hts gX6_item_X6_isSheet rfl rfl rfl (by decide +kernel) ⟨Nat.le_of_ble_eq_true rfl, Nat.le_of_ble_eq_true rfl⟩) rfl hl.1 rfl (Nat.le_of_ble_eq_true rfl) dX6_item_1 ⟨Nat.zero_le _, Nat.zero_le _⟩ (fun r1 H locs hw hP hS => ?_)
  refine lv_if_eq (tgt := 14) hx hb dX6_item_4 (by decide) (fun hc => ?_) (fun hc => ?_)
  · replace hw := And.left hw hc
    refine lv_iconst (v := (-1 : Int32)) hx hb dX6_item_14 (by decide) ?_
    exact hret _ _ _ _ _ _ hP hS hw dX6_item_15
  · replace hw := And.right hw hc
    refine lv_iload_n hx hb dX6_item_7 rfl (lv_at hl 2 rfl) ?_
    refine xSi0 (As := [.int v2]) (rest := []) hst hE hP hS ⟨hx, hb, hml, hown, hts⟩ (mX6_isLane l D h cI cJ t0 hh S L v2 _ hw) (va_cwS 1 hts gX6_item_X6_isLane rfl rfl rfl (by decide +kernel) ⟨Nat.le_of_ble_eq_true rfl, Nat.le_of_ble_eq_true rfl⟩) rfl hl.1 rfl (Nat.le_of_ble_eq_true rfl) dX6_item_8 ⟨Nat.zero_le _, Nat.zero_le _⟩ (fun r8 H locs hw hP hS => ?_)
    refine lv_if_ne (tgt := 16) hx hb dX6_item_11 (by decide) (fun hc => ?_) (fun hc => ?_)
    · replace hw := And.right hw hc
      refine lv_aload_n hx hb dX6_item_16 rfl (lv_at hl 0 rfl) ?_
      refine va_get (D := D) (ci := 6) (v := .ref (h 49)) (C := RX6) (T := TX6) (N := 8) hx hb hts inX6 hown hK hP 0 wX_0 rfl 7 (by decide) f0 (fun _ h9 => h9) rfl dX6_item_17 ?_
      refine lv_iload_n hx hb dX6_item_20 rfl (lv_at hl 1 rfl) ?_
      refine lv_iload_n hx hb dX6_item_21 rfl (lv_at hl 2 rfl) ?_
      refine lv_iload_n hx hb dX6_item_22 rfl (lv_at hl 3 rfl) ?_
      refine lv_iconst (v := (1 : Int32)) hx hb dX6_item_23 (by decide) ?_
      refine xVi0 (As := [.int v1, .int v2, .int v3, .int (1 : Int32)]) (rest := []) hst hE hP hS ⟨hx, hb, hml, hown, hts⟩ (va_recv hK hP (ci := 2) (q := (RX2, TX2, 3)) rfl wX_49) (mX2_refusal l D h cI cJ t0 hh S L v1 v2 v3 (1 : Int32) _ hw) (cwV 4 hts gX6_item_X2_refusal rfl rfl rfl (by decide +kernel) ⟨Nat.le_of_ble_eq_true rfl, Nat.le_of_ble_eq_true rfl⟩) rfl hl.1 rfl (Nat.le_of_ble_eq_true rfl) dX6_item_24 ⟨Nat.zero_le _, Nat.zero_le _⟩ (fun r24 H locs hw hP hS => ?_)
      refine lv_istore (lv' := [(5, .int r24), (0, .ref (h 0)), (1, .int v1), (2, .int v2), (3, .int v3), (4, .int v4)]) hx hb dX6_item_27 hl (by decide) rfl (fun ls hl => ?_)
      refine lv_iload hx hb dX6_item_29 (lv_at hl 0 rfl) ?_
      refine lv_if_eq (tgt := 37) hx hb dX6_item_31 (by decide) (fun hc => ?_) (fun hc => ?_)
      · replace hw := And.left hw hc
        refine lv_aload_n hx hb dX6_item_37 rfl (lv_at hl 1 rfl) ?_
        refine va_get (D := D) (ci := 6) (v := .ref (h 49)) (C := RX6) (T := TX6) (N := 8) hx hb hts inX6 hown hK hP 0 wX_0 rfl 7 (by decide) f0 (fun _ h9 => h9) rfl dX6_item_38 ?_
        refine lv_iload_n hx hb dX6_item_41 rfl (lv_at hl 2 rfl) ?_
        refine lv_iload_n hx hb dX6_item_42 rfl (lv_at hl 4 rfl) ?_
        refine lv_iload hx hb dX6_item_43 (lv_at hl 5 rfl) ?_
        refine xVv1 (As := [.int v1, .int v3, .int v4]) (rest := []) hst hE hP hS ⟨hx, hb, hml, hown, hts⟩ (va_recv hK hP (ci := 2) (q := (RX2, TX2, 3)) rfl wX_49) (mX2_put l D h cI cJ t0 hh S L v1 v3 v4 _ hw) (cwV 3 hts gX6_item_X2_put rfl rfl rfl (by decide +kernel) ⟨Nat.le_of_ble_eq_true rfl, Nat.le_of_ble_eq_true rfl⟩) rfl hl.1 rfl (Nat.le_of_ble_eq_true rfl) dX6_item_45 ⟨Nat.zero_le _, Nat.zero_le _⟩ (fun S45 H locs hw hP hS => ?_)
        refine lv_iconst (v := (1 : Int32)) hx hb dX6_item_48 (by decide) ?_
        exact hret _ _ _ _ _ _ hP hS hw dX6_item_49
      · replace hw := And.right hw hc
        refine lv_iload hx hb dX6_item_34 (lv_at hl 0 rfl) ?_
        exact hret _ _ _ _ _ _ hP hS hw dX6_item_36
    · replace hw := And.left hw hc
      refine lv_iconst (v := (-1 : Int32)) hx hb dX6_item_14 (by decide) ?_
      exact hret _ _ _ _ _ _ hP hS hw dX6_item_15
abbrev rX6_copy : Room := { frames := 2, cells := 0, slots := 0, locals := 57 }
set_option maxHeartbeats 4000000 in
set_option maxRecDepth 100000 in
theorem mX6_copy (l : Launch) (D : va_G) (h : Nat → Nat) (cI cJ : ClassId) (t0 : Nat) (hh : xdis 53 h) (S : SX) (L : LX) (v1 : Int32) (v2 : Int32) (v3 : Int32) (v4 : Int32) (v5 : Int32) (post : Int32 → SX → Prop) (hw : kX6_copy S L v1 v2 v3 v4 v5 post) : Met l yX6_copy wsX6_copy rX6_copy (xPre D (wX h cI cJ) (xE D h cI cJ t0) S L [.ref (h 0), .int v1, .int v2, .int v3, .int v4, .int v5]) (va_Qi (fun (r : Int32) (u : SX × LX) => post r u.1 ∧ u.2 = L) (xB D (wX h cI cJ)) (xA 53 h)) 0 0 (xA 53 h) := by
  refine Met.ofW (cc := cX6_copy) (maxL := 6) (ret := (some .int)) (by decide) rfl ?_
  intro p e s m args below meth c s₁ B hml hv
  obtain ⟨hargs, hP, hE⟩ := hv
  have hx := B.exec
  have hb := B.bytes
  have hr := B.returns
  have hlocks := B.notSynchronized
  have hts := atoms_spec (ws := wsX6_copy) B.pre
  have hown : s.vm.findClass RX6 = some m.cls := findClass_of_methodNamed B.named
  have hS : va_S (xA 53 h) s.heap s.heap [] := va_S.rf
  have hD : ∀ (S : SX) (L : LX), va_D (xA 53 h) (wX h cI cJ S L) := fun S L => wX_D hh cI cJ S L
  have hK := hE.1
  have hst : xSt (xA 53 h) (xE D h cI cJ t0) := xE_st D h cI cJ t0
  have f0 := hts (.fieldLink RX6 50 "BookOfWills" "sheets" "LBookOfWills$Sheets;") (by decide +kernel)
  have inX6 : ∀ w ∈ u_ws RX6 TX6 8, w ∈ wsX6_copy := fun w hw9 => List.mem_cons_of_mem _ (List.mem_append_left _ (List.mem_append_right _ hw9))
  have f2 := hts (.fieldLink RX6 349 "BookOfWills$Sheets" "lane" "[I") (by decide +kernel)
  have inX2 : ∀ w ∈ u_ws RX2 TX2 3, w ∈ wsX6_copy := fun w hw9 => List.mem_cons_of_mem _ (List.mem_append_right _ hw9)
  have hl := lv_entry ([.ref (h 0), .int v1, .int v2, .int v3, .int v4, .int v5]) (n := 6) (Nat.le_of_ble_eq_true rfl)
  have hen : entryFrame m args 6 = F0 m 0 ((lg_sl ([.ref (h 0), .int v1, .int v2, .int v3, .int v4, .int v5]) ++ List.replicate (6 - (lg_sl ([.ref (h 0), .int v1, .int v2, .int v3, .int v4, .int v5])).length) Slot.unset).toArray) [] := by rw [hargs]; exact lg_entry_eq m _ _
  rw [hen]
  generalize (lg_sl ([.ref (h 0), .int v1, .int v2, .int v3, .int v4, .int v5]) ++ List.replicate (6 - (lg_sl ([.ref (h 0), .int v1, .int v2, .int v3, .int v4, .int v5])).length) Slot.unset).toArray = ls at hl ⊢
  have hl : lv_has ls 6 [(0, .ref (h 0)), (1, .int v1), (2, .int v2), (3, .int v3), (4, .int v4), (5, .int v5)] := hl
  change W p l e rX6_copy s m args below meth c s.heap [] 0 0 (MQ below (va_Qi (fun (r : Int32) (u : SX × LX) => post r u.1 ∧ u.2 = L) (xB D (wX h cI cJ)) (xA 53 h)) args s 0 0 (xA 53 h)) (F0 m 0 ls [])
  have hret : ∀ (r : Int32) (S1 : SX) (H : Heap) (locs : List Loc) (ls : Array Slot) (pc : Nat), va_P D vwCl (wX h cI cJ S1 L) H → va_S (xA 53 h) s.heap H locs → post r S1 → decode cX6_copy pc = .ok (.ireturn, 1) → W p l e rX6_copy s m args below meth c H locs 0 0 (MQ below (va_Qi (fun (r : Int32) (u : SX × LX) => post r u.1 ∧ u.2 = L) (xB D (wX h cI cJ)) (xA 53 h)) args s 0 0 (xA 53 h)) (F0 m pc ls [.int r]) := fun r S1 H locs ls pc hP hS hw hd => W.iret hx hb hr (fun t ht hW => ⟨⟨r, (S1, L), rfl, ⟨hw, rfl⟩, show va_P D vwCl (wX h cI cJ S1 L) t.heap by rw [ht]; exact hP⟩, hS.F ht⟩) hS.2.2 hd
  generalize MQ below (va_Qi (fun (r : Int32) (u : SX × LX) => post r u.1 ∧ u.2 = L) (xB D (wX h cI cJ)) (xA 53 h)) args s 0 0 (xA 53 h) = Q at hret ⊢
  unfold kX6_copy at hw
  refine lv_iload_n hx hb dX6_copy_0 rfl (lv_at hl 1 rfl) ?_
  refine xSi0 (As := [.int v1]) (rest := []) hst hE hP hS ⟨hx, hb, hml, hown, hts⟩ (mX6_isSheet l D h cI cJ t0 hh S L v1 _ hw) (va_cwS 1 hts gX6_copy_X6_isSheet rfl rfl rfl (by decide +kernel) ⟨Nat.le_of_ble_eq_true rfl, Nat.le_of_ble_eq_true rfl⟩) rfl hl.1 rfl (Nat.le_of_ble_eq_true rfl) dX6_copy_1 ⟨Nat.zero_le _, Nat.zero_le _⟩ (fun r1 H locs hw hP hS => ?_)
  refine lv_if_eq (tgt := 14) hx hb dX6_copy_4 (by decide) (fun hc => ?_) (fun hc => ?_)
  · replace hw := And.left hw hc
    refine lv_iconst (v := (-1 : Int32)) hx hb dX6_copy_14 (by decide) ?_
    exact hret _ _ _ _ _ _ hP hS hw dX6_copy_15
  · replace hw := And.right hw hc
    refine lv_iload_n hx hb dX6_copy_7 rfl (lv_at hl 3 rfl) ?_
    refine xSi0 (As := [.int v3]) (rest := []) hst hE hP hS ⟨hx, hb, hml, hown, hts⟩ (mX6_isSheet l D h cI cJ t0 hh S L v3 _ hw) (va_cwS 1 hts gX6_copy_X6_isSheet rfl rfl rfl (by decide +kernel) ⟨Nat.le_of_ble_eq_true rfl, Nat.le_of_ble_eq_true rfl⟩) rfl hl.1 rfl (Nat.le_of_ble_eq_true rfl) dX6_copy_8 ⟨Nat.zero_le _, Nat.zero_le _⟩ (fun r8 H locs hw hP hS => ?_)
    refine lv_if_ne (tgt := 16) hx hb dX6_copy_11 (by decide) (fun hc => ?_) (fun hc => ?_)
    · replace hw := And.right hw hc
      refine lv_aload_n hx hb dX6_copy_16 rfl (lv_at hl 0 rfl) ?_
      refine va_get (D := D) (ci := 6) (v := .ref (h 49)) (C := RX6) (T := TX6) (N := 8) hx hb hts inX6 hown hK hP 0 wX_0 rfl 7 (by decide) f0 (fun _ h9 => h9) rfl dX6_copy_17 ?_
      refine lv_iload_n hx hb dX6_copy_20 rfl (lv_at hl 1 rfl) ?_
      refine xVi0 (As := [.int v1]) (rest := []) hst hE hP hS ⟨hx, hb, hml, hown, hts⟩ (va_recv hK hP (ci := 2) (q := (RX2, TX2, 3)) rfl wX_49) (mX2_holdsRow l D h cI cJ t0 hh S L v1 _ hw) (cwV 1 hts gX6_copy_X2_holdsRow rfl rfl rfl (by decide +kernel) ⟨Nat.le_of_ble_eq_true rfl, Nat.le_of_ble_eq_true rfl⟩) rfl hl.1 rfl (Nat.le_of_ble_eq_true rfl) dX6_copy_21 ⟨Nat.zero_le _, Nat.zero_le _⟩ (fun r21 H locs hw hP hS => ?_)
      refine lv_if_eq (tgt := 38) hx hb dX6_copy_24 (by decide) (fun hc => ?_) (fun hc => ?_)
      · replace hw := And.left hw hc
        refine lv_bipush (v := (-11 : Int32)) hx hb dX6_copy_38 (by decide) ?_
        exact hret _ _ _ _ _ _ hP hS hw dX6_copy_40
      · replace hw := And.right hw hc
        refine lv_aload_n hx hb dX6_copy_27 rfl (lv_at hl 0 rfl) ?_
        refine va_get (D := D) (ci := 6) (v := .ref (h 49)) (C := RX6) (T := TX6) (N := 8) hx hb hts inX6 hown hK hP 0 wX_0 rfl 7 (by decide) f0 (fun _ h9 => h9) rfl dX6_copy_28 ?_
        refine lv_iload_n hx hb dX6_copy_31 rfl (lv_at hl 3 rfl) ?_
        refine xVi0 (As := [.int v3]) (rest := []) hst hE hP hS ⟨hx, hb, hml, hown, hts⟩ (va_recv hK hP (ci := 2) (q := (RX2, TX2, 3)) rfl wX_49) (mX2_holdsRow l D h cI cJ t0 hh S L v3 _ hw) (cwV 1 hts gX6_copy_X2_holdsRow rfl rfl rfl (by decide +kernel) ⟨Nat.le_of_ble_eq_true rfl, Nat.le_of_ble_eq_true rfl⟩) rfl hl.1 rfl (Nat.le_of_ble_eq_true rfl) dX6_copy_32 ⟨Nat.zero_le _, Nat.zero_le _⟩ (fun r32 H locs hw hP hS => ?_)
        refine lv_if_ne (tgt := 41) hx hb dX6_copy_35 (by decide) (fun hc => ?_) (fun hc => ?_)
        · replace hw := And.right hw hc
          refine lv_aload_n hx hb dX6_copy_41 rfl (lv_at hl 0 rfl) ?_
          refine va_get (D := D) (ci := 6) (v := .ref (h 49)) (C := RX6) (T := TX6) (N := 8) hx hb hts inX6 hown hK hP 0 wX_0 rfl 7 (by decide) f0 (fun _ h9 => h9) rfl dX6_copy_42 ?_
          refine va_get (D := D) (ci := 2) (v := .ref (h 50)) (C := RX2) (T := TX2) (N := 3) hx hb hts inX2 hown hK hP 49 wX_49 rfl 0 (by decide) f2 (fun _ h9 => h9) rfl dX6_copy_45 ?_
          refine lv_iload_n hx hb dX6_copy_48 rfl (lv_at hl 1 rfl) ?_
          obtain ⟨hi, hw⟩ := hw
          refine va_iald hx hb hK hP 50 0 wX_50 rfl hi dX6_copy_49 ?_
          refine lv_aload_n hx hb dX6_copy_50 rfl (lv_at hl 0 rfl) ?_
          refine va_get (D := D) (ci := 6) (v := .ref (h 49)) (C := RX6) (T := TX6) (N := 8) hx hb hts inX6 hown hK hP 0 wX_0 rfl 7 (by decide) f0 (fun _ h9 => h9) rfl dX6_copy_51 ?_
          refine va_get (D := D) (ci := 2) (v := .ref (h 50)) (C := RX2) (T := TX2) (N := 3) hx hb hts inX2 hown hK hP 49 wX_49 rfl 0 (by decide) f2 (fun _ h9 => h9) rfl dX6_copy_54 ?_
          refine lv_iload_n hx hb dX6_copy_57 rfl (lv_at hl 3 rfl) ?_
          obtain ⟨hi, hw⟩ := hw
          refine va_iald hx hb hK hP 50 0 wX_50 rfl hi dX6_copy_58 ?_
          refine lv_icmp_eq (tgt := 65) hx hb dX6_copy_59 (by decide) (fun hc => ?_) (fun hc => ?_)
          · replace hw := And.left hw hc
            refine lv_aload_n hx hb dX6_copy_65 rfl (lv_at hl 0 rfl) ?_
            refine va_get (D := D) (ci := 6) (v := .ref (h 49)) (C := RX6) (T := TX6) (N := 8) hx hb hts inX6 hown hK hP 0 wX_0 rfl 7 (by decide) f0 (fun _ h9 => h9) rfl dX6_copy_66 ?_
            refine lv_iload_n hx hb dX6_copy_69 rfl (lv_at hl 1 rfl) ?_
            refine lv_iload_n hx hb dX6_copy_70 rfl (lv_at hl 2 rfl) ?_
            refine lv_iload hx hb dX6_copy_71 (lv_at hl 5 rfl) ?_
            refine xVi0 (As := [.int v1, .int v2, .int v5]) (rest := []) hst hE hP hS ⟨hx, hb, hml, hown, hts⟩ (va_recv hK hP (ci := 2) (q := (RX2, TX2, 3)) rfl wX_49) (mX2_hasItems l D h cI cJ t0 hh S L v1 v2 v5 _ hw) (cwV 3 hts gX6_copy_X2_hasItems rfl rfl rfl (by decide +kernel) ⟨Nat.le_of_ble_eq_true rfl, Nat.le_of_ble_eq_true rfl⟩) rfl hl.1 rfl (Nat.le_of_ble_eq_true rfl) dX6_copy_73 ⟨Nat.zero_le _, Nat.zero_le _⟩ (fun r73 H locs hw hP hS => ?_)
            refine lv_if_eq (tgt := 94) hx hb dX6_copy_76 (by decide) (fun hc => ?_) (fun hc => ?_)
            · replace hw := And.left hw hc
              refine lv_bipush (v := (-13 : Int32)) hx hb dX6_copy_94 (by decide) ?_
              exact hret _ _ _ _ _ _ hP hS hw dX6_copy_96
            · replace hw := And.right hw hc
              refine lv_aload_n hx hb dX6_copy_79 rfl (lv_at hl 0 rfl) ?_
              refine va_get (D := D) (ci := 6) (v := .ref (h 49)) (C := RX6) (T := TX6) (N := 8) hx hb hts inX6 hown hK hP 0 wX_0 rfl 7 (by decide) f0 (fun _ h9 => h9) rfl dX6_copy_80 ?_
              refine lv_iload_n hx hb dX6_copy_83 rfl (lv_at hl 3 rfl) ?_
              refine lv_iload hx hb dX6_copy_84 (lv_at hl 4 rfl) ?_
              refine lv_iload hx hb dX6_copy_86 (lv_at hl 5 rfl) ?_
              refine xVi0 (As := [.int v3, .int v4, .int v5]) (rest := []) hst hE hP hS ⟨hx, hb, hml, hown, hts⟩ (va_recv hK hP (ci := 2) (q := (RX2, TX2, 3)) rfl wX_49) (mX2_hasItems l D h cI cJ t0 hh S L v3 v4 v5 _ hw) (cwV 3 hts gX6_copy_X2_hasItems rfl rfl rfl (by decide +kernel) ⟨Nat.le_of_ble_eq_true rfl, Nat.le_of_ble_eq_true rfl⟩) rfl hl.1 rfl (Nat.le_of_ble_eq_true rfl) dX6_copy_88 ⟨Nat.zero_le _, Nat.zero_le _⟩ (fun r88 H locs hw hP hS => ?_)
              refine lv_if_ne (tgt := 97) hx hb dX6_copy_91 (by decide) (fun hc => ?_) (fun hc => ?_)
              · replace hw := And.right hw hc
                refine lv_aload_n hx hb dX6_copy_97 rfl (lv_at hl 0 rfl) ?_
                refine va_get (D := D) (ci := 6) (v := .ref (h 49)) (C := RX6) (T := TX6) (N := 8) hx hb hts inX6 hown hK hP 0 wX_0 rfl 7 (by decide) f0 (fun _ h9 => h9) rfl dX6_copy_98 ?_
                refine lv_iload_n hx hb dX6_copy_101 rfl (lv_at hl 1 rfl) ?_
                refine lv_iload_n hx hb dX6_copy_102 rfl (lv_at hl 2 rfl) ?_
                refine lv_iload_n hx hb dX6_copy_103 rfl (lv_at hl 3 rfl) ?_
                refine lv_iload hx hb dX6_copy_104 (lv_at hl 4 rfl) ?_
                refine lv_iload hx hb dX6_copy_106 (lv_at hl 5 rfl) ?_
                refine xVv1 (As := [.int v1, .int v2, .int v3, .int v4, .int v5]) (rest := []) hst hE hP hS ⟨hx, hb, hml, hown, hts⟩ (va_recv hK hP (ci := 2) (q := (RX2, TX2, 3)) rfl wX_49) (mX2_move l D h cI cJ t0 hh S L v1 v2 v3 v4 v5 _ hw) (cwV 5 hts gX6_copy_X2_move rfl rfl rfl (by decide +kernel) ⟨Nat.le_of_ble_eq_true rfl, Nat.le_of_ble_eq_true rfl⟩) rfl hl.1 rfl (Nat.le_of_ble_eq_true rfl) dX6_copy_108 ⟨Nat.zero_le _, Nat.zero_le _⟩ (fun S108 H locs hw hP hS => ?_)
                refine lv_iload hx hb dX6_copy_111 (lv_at hl 5 rfl) ?_
                exact hret _ _ _ _ _ _ hP hS hw dX6_copy_113
              · replace hw := And.left hw hc
                refine lv_bipush (v := (-13 : Int32)) hx hb dX6_copy_94 (by decide) ?_
                exact hret _ _ _ _ _ _ hP hS hw dX6_copy_96
          · replace hw := And.right hw hc
            refine lv_bipush (v := (-12 : Int32)) hx hb dX6_copy_62 (by decide) ?_
            exact hret _ _ _ _ _ _ hP hS hw dX6_copy_64
        · replace hw := And.left hw hc
          refine lv_bipush (v := (-11 : Int32)) hx hb dX6_copy_38 (by decide) ?_
          exact hret _ _ _ _ _ _ hP hS hw dX6_copy_40
    · replace hw := And.left hw hc
      refine lv_iconst (v := (-1 : Int32)) hx hb dX6_copy_14 (by decide) ?_
      exact hret _ _ _ _ _ _ hP hS hw dX6_copy_15
