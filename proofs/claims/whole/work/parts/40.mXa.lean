abbrev rX2_holdsRow : Room := { frames := 0, cells := 0, slots := 0, locals := 0 }
set_option maxHeartbeats 4000000 in
set_option maxRecDepth 100000 in
theorem mX2_holdsRow (l : Launch) (D : va_G) (h : Nat → Nat) (cI cJ : ClassId) (t0 : Nat) (hh : xdis 53 h) (S : SX) (L : LX) (v1 : Int32) (post : Int32 → Prop) (hw : kX2_holdsRow S L v1 post) : Met l yX2_holdsRow wsX2_holdsRow rX2_holdsRow (xPre D (wX h cI cJ) (xE D h cI cJ t0) S L [.ref (h 49), .int v1]) (va_Qi (fun (r : Int32) (u : SX × LX) => post r ∧ u.1 = S ∧ u.2 = L) (xB D (wX h cI cJ)) (xA 53 h)) 0 0 (xA 53 h) := by
  refine Met.ofW (cc := cX2_holdsRow) (maxL := 2) (ret := (some .boolean)) (by decide) rfl ?_
  intro p e s m args below meth c s₁ B hml hv
  obtain ⟨hargs, hP, hE⟩ := hv
  have hx := B.exec
  have hb := B.bytes
  have hr := B.returns
  have hlocks := B.notSynchronized
  have hts := atoms_spec (ws := wsX2_holdsRow) B.pre
  have hown : s.vm.findClass RX2 = some m.cls := findClass_of_methodNamed B.named
  have hS : va_S (xA 53 h) s.heap s.heap [] := va_S.rf
  have hD : ∀ (S : SX) (L : LX), va_D (xA 53 h) (wX h cI cJ S L) := fun S L => wX_D hh cI cJ S L
  have hK := hE.1
  have hst : xSt (xA 53 h) (xE D h cI cJ t0) := xE_st D h cI cJ t0
  have f0 := hts (.fieldLink RX2 9 "BookOfWills$Sheets" "lane" "[I") (by decide +kernel)
  have inX2 : ∀ w ∈ u_ws RX2 TX2 3, w ∈ wsX2_holdsRow := fun w hw9 => List.mem_cons_of_mem _ (List.mem_append_right _ hw9)
  have hl := lv_entry ([.ref (h 49), .int v1]) (n := 2) (Nat.le_of_ble_eq_true rfl)
  have hen : entryFrame m args 2 = F0 m 0 ((lg_sl ([.ref (h 49), .int v1]) ++ List.replicate (2 - (lg_sl ([.ref (h 49), .int v1])).length) Slot.unset).toArray) [] := by rw [hargs]; exact lg_entry_eq m _ _
  rw [hen]
  generalize (lg_sl ([.ref (h 49), .int v1]) ++ List.replicate (2 - (lg_sl ([.ref (h 49), .int v1])).length) Slot.unset).toArray = ls at hl ⊢
  have hl : lv_has ls 2 [(0, .ref (h 49)), (1, .int v1)] := hl
  change W p l e rX2_holdsRow s m args below meth c s.heap [] 0 0 (MQ below (va_Qi (fun (r : Int32) (u : SX × LX) => post r ∧ u.1 = S ∧ u.2 = L) (xB D (wX h cI cJ)) (xA 53 h)) args s 0 0 (xA 53 h)) (F0 m 0 ls [])
  have hret : ∀ (r : Int32) (H : Heap) (locs : List Loc) (ls : Array Slot) (pc : Nat), va_P D vwCl (wX h cI cJ S L) H → va_S (xA 53 h) s.heap H locs → post r → narrow .boolean (.int r) = .int r → decode cX2_holdsRow pc = .ok (.ireturn, 1) → W p l e rX2_holdsRow s m args below meth c H locs 0 0 (MQ below (va_Qi (fun (r : Int32) (u : SX × LX) => post r ∧ u.1 = S ∧ u.2 = L) (xB D (wX h cI cJ)) (xA 53 h)) args s 0 0 (xA 53 h)) (F0 m pc ls [.int r]) := fun r H locs ls pc hP hS hw hna hd => W.zret hx hb hr hna (fun t ht hW => ⟨⟨r, (S, L), rfl, ⟨hw, rfl, rfl⟩, show va_P D vwCl (wX h cI cJ S L) t.heap by rw [ht]; exact hP⟩, hS.F ht⟩) hS.2.2 hd
  generalize MQ below (va_Qi (fun (r : Int32) (u : SX × LX) => post r ∧ u.1 = S ∧ u.2 = L) (xB D (wX h cI cJ)) (xA 53 h)) args s 0 0 (xA 53 h) = Q at hret ⊢
  unfold kX2_holdsRow at hw
  refine lv_aload_n hx hb dX2_holdsRow_0 rfl (lv_at hl 0 rfl) ?_
  refine va_get (D := D) (ci := 2) (v := .ref (h 50)) (C := RX2) (T := TX2) (N := 3) hx hb hts inX2 hown hK hP 49 wX_49 rfl 0 (by decide) f0 (fun _ h9 => h9) rfl dX2_holdsRow_1 ?_
  refine lv_iload_n hx hb dX2_holdsRow_4 rfl (lv_at hl 1 rfl) ?_
  obtain ⟨hi, hw⟩ := hw
  refine va_iald hx hb hK hP 50 0 wX_50 rfl hi dX2_holdsRow_5 ?_
  refine lv_iconst (v := (-1 : Int32)) hx hb dX2_holdsRow_6 (by decide) ?_
  refine lv_icmp_eq (tgt := 14) hx hb dX2_holdsRow_7 (by decide) (fun hc => ?_) (fun hc => ?_)
  · replace hw := And.left hw hc
    refine lv_iconst (v := (0 : Int32)) hx hb dX2_holdsRow_14 (by decide) ?_
    exact hret _ _ _ _ _ hP hS hw rfl dX2_holdsRow_15
  · replace hw := And.right hw hc
    refine lv_iconst (v := (1 : Int32)) hx hb dX2_holdsRow_10 (by decide) ?_
    refine lv_goto (tgt := 15) hx hb dX2_holdsRow_11 (by decide) ?_
    exact hret _ _ _ _ _ hP hS hw rfl dX2_holdsRow_15
abbrev rX2_hold : Room := { frames := 0, cells := 0, slots := 0, locals := 0 }
set_option maxHeartbeats 4000000 in
set_option maxRecDepth 100000 in
theorem mX2_hold (l : Launch) (D : va_G) (h : Nat → Nat) (cI cJ : ClassId) (t0 : Nat) (hh : xdis 53 h) (S : SX) (L : LX) (v1 : Int32) (v2 : Int32) (v3 : Int32) (post : SX → Prop) (hw : kX2_hold S L v1 v2 v3 post) : Met l yX2_hold wsX2_hold rX2_hold (xPre D (wX h cI cJ) (xE D h cI cJ t0) S L [.ref (h 49), .int v1, .int v2, .int v3]) (va_Qv (fun (u : SX × LX) => post u.1 ∧ u.2 = L) (xB D (wX h cI cJ)) (xA 53 h)) 0 0 (xA 53 h) := by
  refine Met.ofW (cc := cX2_hold) (maxL := 5) (ret := none) (by decide) rfl ?_
  intro p e s m args below meth c s₁ B hml hv
  obtain ⟨hargs, hP, hE⟩ := hv
  have hx := B.exec
  have hb := B.bytes
  have hr := B.returns
  have hlocks := B.notSynchronized
  have hts := atoms_spec (ws := wsX2_hold) B.pre
  have hown : s.vm.findClass RX2 = some m.cls := findClass_of_methodNamed B.named
  have hS : va_S (xA 53 h) s.heap s.heap [] := va_S.rf
  have hD : ∀ (S : SX) (L : LX), va_D (xA 53 h) (wX h cI cJ S L) := fun S L => wX_D hh cI cJ S L
  have hK := hE.1
  have hst : xSt (xA 53 h) (xE D h cI cJ t0) := xE_st D h cI cJ t0
  have f0 := hts (.fieldLink RX2 18 "BookOfWills$Sheets" "items" "[I") (by decide +kernel)
  have inX2 : ∀ w ∈ u_ws RX2 TX2 3, w ∈ wsX2_hold := fun w hw9 => List.mem_cons_of_mem _ (List.mem_append_right _ hw9)
  have f2 := hts (.fieldLink RX2 9 "BookOfWills$Sheets" "lane" "[I") (by decide +kernel)
  have f3 := hts (.fieldLink RX2 15 "BookOfWills$Sheets" "size" "[I") (by decide +kernel)
  have hl := lv_entry ([.ref (h 49), .int v1, .int v2, .int v3]) (n := 5) (Nat.le_of_ble_eq_true rfl)
  have hen : entryFrame m args 5 = F0 m 0 ((lg_sl ([.ref (h 49), .int v1, .int v2, .int v3]) ++ List.replicate (5 - (lg_sl ([.ref (h 49), .int v1, .int v2, .int v3])).length) Slot.unset).toArray) [] := by rw [hargs]; exact lg_entry_eq m _ _
  rw [hen]
  generalize (lg_sl ([.ref (h 49), .int v1, .int v2, .int v3]) ++ List.replicate (5 - (lg_sl ([.ref (h 49), .int v1, .int v2, .int v3])).length) Slot.unset).toArray = ls at hl ⊢
  have hl : lv_has ls 5 [(0, .ref (h 49)), (1, .int v1), (2, .int v2), (3, .int v3)] := hl
  change W p l e rX2_hold s m args below meth c s.heap [] 0 0 (MQ below (va_Qv (fun (u : SX × LX) => post u.1 ∧ u.2 = L) (xB D (wX h cI cJ)) (xA 53 h)) args s 0 0 (xA 53 h)) (F0 m 0 ls [])
  have hret : ∀ (S1 : SX) (H : Heap) (locs : List Loc) (ls : Array Slot) (pc : Nat), va_P D vwCl (wX h cI cJ S1 L) H → va_S (xA 53 h) s.heap H locs → post S1 → decode cX2_hold pc = .ok (.return_, 1) → W p l e rX2_hold s m args below meth c H locs 0 0 (MQ below (va_Qv (fun (u : SX × LX) => post u.1 ∧ u.2 = L) (xB D (wX h cI cJ)) (xA 53 h)) args s 0 0 (xA 53 h)) (F0 m pc ls []) := fun S1 H locs ls pc hP hS hw hd => W.vret hx hb hr (fun t ht hW => ⟨⟨(S1, L), rfl, ⟨hw, rfl⟩, show va_P D vwCl (wX h cI cJ S1 L) t.heap by rw [ht]; exact hP⟩, hS.F ht⟩) hS.2.2 hd
  generalize MQ below (va_Qv (fun (u : SX × LX) => post u.1 ∧ u.2 = L) (xB D (wX h cI cJ)) (xA 53 h)) args s 0 0 (xA 53 h) = Q at hret ⊢
  have b17 : ∀  (n17 : Nat) (v4 : Int32) (S : SX) (H : Heap) (locs : List Loc) (ls : Array Slot), lv_has ls 5 [(0, .ref (h 49)), (1, .int v1), (4, .int v4)] → va_P D vwCl (wX h cI cJ S L) H → va_S (xA 53 h) s.heap H locs → kX2_hold_b17 L v1 v2 v3 post n17 v4 S → W p l e rX2_hold s m args below meth c H locs 0 0 Q (F0 m 17 ls []) := by
    intro n17
    induction n17 with
    | zero => intro v4 S H locs ls hl hP hS hw; exact absurd hw id
    | succ n17 i17 =>
      intro v4 S H locs ls hl hP hS hw
      unfold kX2_hold_b17 at hw
      refine lv_iload hx hb dX2_hold_17 (lv_at hl 2 rfl) ?_
      refine lv_bipush (v := (24 : Int32)) hx hb dX2_hold_19 (by decide) ?_
      refine lv_icmp_ge (tgt := 43) hx hb dX2_hold_21 (by decide) (fun hc => ?_) (fun hc => ?_)
      · replace hw := And.left hw hc
        exact hret _ _ _ _ _ hP hS hw dX2_hold_43
      · replace hw := And.right hw hc
        refine lv_aload_n hx hb dX2_hold_24 rfl (lv_at hl 0 rfl) ?_
        refine va_get (D := D) (ci := 2) (v := .ref (h 52)) (C := RX2) (T := TX2) (N := 3) hx hb hts inX2 hown hK hP 49 wX_49 rfl 2 (by decide) f0 (fun _ h9 => h9) rfl dX2_hold_25 ?_
        refine lv_iload_n hx hb dX2_hold_28 rfl (lv_at hl 1 rfl) ?_
        refine lv_bipush (v := (24 : Int32)) hx hb dX2_hold_29 (by decide) ?_
        refine lv_imul hx hb dX2_hold_31 ?_
        refine lv_iload hx hb dX2_hold_32 (lv_at hl 2 rfl) ?_
        refine lv_iadd hx hb dX2_hold_34 ?_
        refine lv_iconst (v := (0 : Int32)) hx hb dX2_hold_35 (by decide) ?_
        obtain ⟨hi, hw⟩ := hw
        refine x_iast (ws2 := wX h cI cJ (xu S 52 ((v1 * (24 : Int32)) + v4).toNatClampNeg (0 : Int32)) L) hx hb hK hP (hD _ _) hS 52 0 wX_52 rfl hi dX2_hold_36 (wX_u52 _ _) (fun H locs hP hS => ?_)
        refine lv_iinc (v := v4 + (1 : Int32)) (lv' := [(4, .int (v4 + (1 : Int32))), (0, .ref (h 49)), (1, .int v1)]) hx hb dX2_hold_37 hl (k := 2) rfl rfl (by decide) rfl (fun ls hl => ?_)
        refine lv_goto (tgt := 17) hx hb dX2_hold_40 (by decide) ?_
        exact i17 (v4 + (1 : Int32)) (xu S 52 ((v1 * (24 : Int32)) + v4).toNatClampNeg (0 : Int32)) _ _ _ (lv_sub hl [1, 2, 0] rfl) hP hS hw
  unfold kX2_hold at hw
  refine lv_aload_n hx hb dX2_hold_0 rfl (lv_at hl 0 rfl) ?_
  refine va_get (D := D) (ci := 2) (v := .ref (h 50)) (C := RX2) (T := TX2) (N := 3) hx hb hts inX2 hown hK hP 49 wX_49 rfl 0 (by decide) f2 (fun _ h9 => h9) rfl dX2_hold_1 ?_
  refine lv_iload_n hx hb dX2_hold_4 rfl (lv_at hl 1 rfl) ?_
  refine lv_iload_n hx hb dX2_hold_5 rfl (lv_at hl 2 rfl) ?_
  obtain ⟨hi, hw⟩ := hw
  refine x_iast (ws2 := wX h cI cJ (xu S 50 v1.toNatClampNeg v2) L) hx hb hK hP (hD _ _) hS 50 0 wX_50 rfl hi dX2_hold_6 (wX_u50 _ _) (fun H locs hP hS => ?_)
  refine lv_aload_n hx hb dX2_hold_7 rfl (lv_at hl 0 rfl) ?_
  refine va_get (D := D) (ci := 2) (v := .ref (h 51)) (C := RX2) (T := TX2) (N := 3) hx hb hts inX2 hown hK hP 49 wX_49 rfl 1 (by decide) f3 (fun _ h9 => h9) rfl dX2_hold_8 ?_
  refine lv_iload_n hx hb dX2_hold_11 rfl (lv_at hl 1 rfl) ?_
  refine lv_iload_n hx hb dX2_hold_12 rfl (lv_at hl 3 rfl) ?_
  obtain ⟨hi, hw⟩ := hw
  refine x_iast (ws2 := wX h cI cJ (xu (xu S 50 v1.toNatClampNeg v2) 51 v1.toNatClampNeg v3) L) hx hb hK hP (hD _ _) hS 51 0 wX_51 rfl hi dX2_hold_13 (wX_u51 _ _) (fun H locs hP hS => ?_)
  refine lv_iconst (v := (0 : Int32)) hx hb dX2_hold_14 (by decide) ?_
  refine lv_istore (lv' := [(4, .int (0 : Int32)), (0, .ref (h 49)), (1, .int v1), (2, .int v2), (3, .int v3)]) hx hb dX2_hold_15 hl (by decide) rfl (fun ls hl => ?_)
  obtain ⟨n17, hw⟩ := hw
  exact b17  n17 (0 : Int32) (xu (xu S 50 v1.toNatClampNeg v2) 51 v1.toNatClampNeg v3) _ _ _ (lv_sub hl [1, 2, 0] rfl) hP hS hw
abbrev rX2_holdNothing : Room := { frames := 0, cells := 0, slots := 0, locals := 0 }
set_option maxHeartbeats 4000000 in
set_option maxRecDepth 100000 in
theorem mX2_holdNothing (l : Launch) (D : va_G) (h : Nat → Nat) (cI cJ : ClassId) (t0 : Nat) (hh : xdis 53 h) (S : SX) (L : LX) (v1 : Int32) (post : SX → Prop) (hw : kX2_holdNothing S L v1 post) : Met l yX2_holdNothing wsX2_holdNothing rX2_holdNothing (xPre D (wX h cI cJ) (xE D h cI cJ t0) S L [.ref (h 49), .int v1]) (va_Qv (fun (u : SX × LX) => post u.1 ∧ u.2 = L) (xB D (wX h cI cJ)) (xA 53 h)) 0 0 (xA 53 h) := by
  refine Met.ofW (cc := cX2_holdNothing) (maxL := 2) (ret := none) (by decide) rfl ?_
  intro p e s m args below meth c s₁ B hml hv
  obtain ⟨hargs, hP, hE⟩ := hv
  have hx := B.exec
  have hb := B.bytes
  have hr := B.returns
  have hlocks := B.notSynchronized
  have hts := atoms_spec (ws := wsX2_holdNothing) B.pre
  have hown : s.vm.findClass RX2 = some m.cls := findClass_of_methodNamed B.named
  have hS : va_S (xA 53 h) s.heap s.heap [] := va_S.rf
  have hD : ∀ (S : SX) (L : LX), va_D (xA 53 h) (wX h cI cJ S L) := fun S L => wX_D hh cI cJ S L
  have hK := hE.1
  have hst : xSt (xA 53 h) (xE D h cI cJ t0) := xE_st D h cI cJ t0
  have f0 := hts (.fieldLink RX2 9 "BookOfWills$Sheets" "lane" "[I") (by decide +kernel)
  have inX2 : ∀ w ∈ u_ws RX2 TX2 3, w ∈ wsX2_holdNothing := fun w hw9 => List.mem_cons_of_mem _ (List.mem_append_right _ hw9)
  have f2 := hts (.fieldLink RX2 15 "BookOfWills$Sheets" "size" "[I") (by decide +kernel)
  have hl := lv_entry ([.ref (h 49), .int v1]) (n := 2) (Nat.le_of_ble_eq_true rfl)
  have hen : entryFrame m args 2 = F0 m 0 ((lg_sl ([.ref (h 49), .int v1]) ++ List.replicate (2 - (lg_sl ([.ref (h 49), .int v1])).length) Slot.unset).toArray) [] := by rw [hargs]; exact lg_entry_eq m _ _
  rw [hen]
  generalize (lg_sl ([.ref (h 49), .int v1]) ++ List.replicate (2 - (lg_sl ([.ref (h 49), .int v1])).length) Slot.unset).toArray = ls at hl ⊢
  have hl : lv_has ls 2 [(0, .ref (h 49)), (1, .int v1)] := hl
  change W p l e rX2_holdNothing s m args below meth c s.heap [] 0 0 (MQ below (va_Qv (fun (u : SX × LX) => post u.1 ∧ u.2 = L) (xB D (wX h cI cJ)) (xA 53 h)) args s 0 0 (xA 53 h)) (F0 m 0 ls [])
  have hret : ∀ (S1 : SX) (H : Heap) (locs : List Loc) (ls : Array Slot) (pc : Nat), va_P D vwCl (wX h cI cJ S1 L) H → va_S (xA 53 h) s.heap H locs → post S1 → decode cX2_holdNothing pc = .ok (.return_, 1) → W p l e rX2_holdNothing s m args below meth c H locs 0 0 (MQ below (va_Qv (fun (u : SX × LX) => post u.1 ∧ u.2 = L) (xB D (wX h cI cJ)) (xA 53 h)) args s 0 0 (xA 53 h)) (F0 m pc ls []) := fun S1 H locs ls pc hP hS hw hd => W.vret hx hb hr (fun t ht hW => ⟨⟨(S1, L), rfl, ⟨hw, rfl⟩, show va_P D vwCl (wX h cI cJ S1 L) t.heap by rw [ht]; exact hP⟩, hS.F ht⟩) hS.2.2 hd
  generalize MQ below (va_Qv (fun (u : SX × LX) => post u.1 ∧ u.2 = L) (xB D (wX h cI cJ)) (xA 53 h)) args s 0 0 (xA 53 h) = Q at hret ⊢
  unfold kX2_holdNothing at hw
  refine lv_aload_n hx hb dX2_holdNothing_0 rfl (lv_at hl 0 rfl) ?_
  refine va_get (D := D) (ci := 2) (v := .ref (h 50)) (C := RX2) (T := TX2) (N := 3) hx hb hts inX2 hown hK hP 49 wX_49 rfl 0 (by decide) f0 (fun _ h9 => h9) rfl dX2_holdNothing_1 ?_
  refine lv_iload_n hx hb dX2_holdNothing_4 rfl (lv_at hl 1 rfl) ?_
  refine lv_iconst (v := (-1 : Int32)) hx hb dX2_holdNothing_5 (by decide) ?_
  obtain ⟨hi, hw⟩ := hw
  refine x_iast (ws2 := wX h cI cJ (xu S 50 v1.toNatClampNeg (-1 : Int32)) L) hx hb hK hP (hD _ _) hS 50 0 wX_50 rfl hi dX2_holdNothing_6 (wX_u50 _ _) (fun H locs hP hS => ?_)
  refine lv_aload_n hx hb dX2_holdNothing_7 rfl (lv_at hl 0 rfl) ?_
  refine va_get (D := D) (ci := 2) (v := .ref (h 51)) (C := RX2) (T := TX2) (N := 3) hx hb hts inX2 hown hK hP 49 wX_49 rfl 1 (by decide) f2 (fun _ h9 => h9) rfl dX2_holdNothing_8 ?_
  refine lv_iload_n hx hb dX2_holdNothing_11 rfl (lv_at hl 1 rfl) ?_
  refine lv_iconst (v := (0 : Int32)) hx hb dX2_holdNothing_12 (by decide) ?_
  obtain ⟨hi, hw⟩ := hw
  refine x_iast (ws2 := wX h cI cJ (xu (xu S 50 v1.toNatClampNeg (-1 : Int32)) 51 v1.toNatClampNeg (0 : Int32)) L) hx hb hK hP (hD _ _) hS 51 0 wX_51 rfl hi dX2_holdNothing_13 (wX_u51 _ _) (fun H locs hP hS => ?_)
  exact hret _ _ _ _ _ hP hS hw dX2_holdNothing_14
abbrev rX2_hasItems : Room := { frames := 0, cells := 0, slots := 0, locals := 0 }
set_option maxHeartbeats 4000000 in
set_option maxRecDepth 100000 in
theorem mX2_hasItems (l : Launch) (D : va_G) (h : Nat → Nat) (cI cJ : ClassId) (t0 : Nat) (hh : xdis 53 h) (S : SX) (L : LX) (v1 : Int32) (v2 : Int32) (v3 : Int32) (post : Int32 → Prop) (hw : kX2_hasItems S L v1 v2 v3 post) : Met l yX2_hasItems wsX2_hasItems rX2_hasItems (xPre D (wX h cI cJ) (xE D h cI cJ t0) S L [.ref (h 49), .int v1, .int v2, .int v3]) (va_Qi (fun (r : Int32) (u : SX × LX) => post r ∧ u.1 = S ∧ u.2 = L) (xB D (wX h cI cJ)) (xA 53 h)) 0 0 (xA 53 h) := by
  refine Met.ofW (cc := cX2_hasItems) (maxL := 4) (ret := (some .boolean)) (by decide) rfl ?_
  intro p e s m args below meth c s₁ B hml hv
  obtain ⟨hargs, hP, hE⟩ := hv
  have hx := B.exec
  have hb := B.bytes
  have hr := B.returns
  have hlocks := B.notSynchronized
  have hts := atoms_spec (ws := wsX2_hasItems) B.pre
  have hown : s.vm.findClass RX2 = some m.cls := findClass_of_methodNamed B.named
  have hS : va_S (xA 53 h) s.heap s.heap [] := va_S.rf
  have hD : ∀ (S : SX) (L : LX), va_D (xA 53 h) (wX h cI cJ S L) := fun S L => wX_D hh cI cJ S L
  have hK := hE.1
  have hst : xSt (xA 53 h) (xE D h cI cJ t0) := xE_st D h cI cJ t0
  have f0 := hts (.fieldLink RX2 15 "BookOfWills$Sheets" "size" "[I") (by decide +kernel)
  have inX2 : ∀ w ∈ u_ws RX2 TX2 3, w ∈ wsX2_hasItems := fun w hw9 => List.mem_cons_of_mem _ (List.mem_append_right _ hw9)
  have hl := lv_entry ([.ref (h 49), .int v1, .int v2, .int v3]) (n := 4) (Nat.le_of_ble_eq_true rfl)
  have hen : entryFrame m args 4 = F0 m 0 ((lg_sl ([.ref (h 49), .int v1, .int v2, .int v3]) ++ List.replicate (4 - (lg_sl ([.ref (h 49), .int v1, .int v2, .int v3])).length) Slot.unset).toArray) [] := by rw [hargs]; exact lg_entry_eq m _ _
  rw [hen]
  generalize (lg_sl ([.ref (h 49), .int v1, .int v2, .int v3]) ++ List.replicate (4 - (lg_sl ([.ref (h 49), .int v1, .int v2, .int v3])).length) Slot.unset).toArray = ls at hl ⊢
  have hl : lv_has ls 4 [(0, .ref (h 49)), (1, .int v1), (2, .int v2), (3, .int v3)] := hl
  change W p l e rX2_hasItems s m args below meth c s.heap [] 0 0 (MQ below (va_Qi (fun (r : Int32) (u : SX × LX) => post r ∧ u.1 = S ∧ u.2 = L) (xB D (wX h cI cJ)) (xA 53 h)) args s 0 0 (xA 53 h)) (F0 m 0 ls [])
  have hret : ∀ (r : Int32) (H : Heap) (locs : List Loc) (ls : Array Slot) (pc : Nat), va_P D vwCl (wX h cI cJ S L) H → va_S (xA 53 h) s.heap H locs → post r → narrow .boolean (.int r) = .int r → decode cX2_hasItems pc = .ok (.ireturn, 1) → W p l e rX2_hasItems s m args below meth c H locs 0 0 (MQ below (va_Qi (fun (r : Int32) (u : SX × LX) => post r ∧ u.1 = S ∧ u.2 = L) (xB D (wX h cI cJ)) (xA 53 h)) args s 0 0 (xA 53 h)) (F0 m pc ls [.int r]) := fun r H locs ls pc hP hS hw hna hd => W.zret hx hb hr hna (fun t ht hW => ⟨⟨r, (S, L), rfl, ⟨hw, rfl, rfl⟩, show va_P D vwCl (wX h cI cJ S L) t.heap by rw [ht]; exact hP⟩, hS.F ht⟩) hS.2.2 hd
  generalize MQ below (va_Qi (fun (r : Int32) (u : SX × LX) => post r ∧ u.1 = S ∧ u.2 = L) (xB D (wX h cI cJ)) (xA 53 h)) args s 0 0 (xA 53 h) = Q at hret ⊢
  unfold kX2_hasItems at hw
  refine lv_iload_n hx hb dX2_hasItems_0 rfl (lv_at hl 2 rfl) ?_
  refine lv_if_lt (tgt := 24) hx hb dX2_hasItems_1 (by decide) (fun hc => ?_) (fun hc => ?_)
  · replace hw := And.left hw hc
    refine lv_iconst (v := (0 : Int32)) hx hb dX2_hasItems_24 (by decide) ?_
    exact hret _ _ _ _ _ hP hS hw rfl dX2_hasItems_25
  · replace hw := And.right hw hc
    refine lv_iload_n hx hb dX2_hasItems_4 rfl (lv_at hl 3 rfl) ?_
    refine lv_if_lt (tgt := 24) hx hb dX2_hasItems_5 (by decide) (fun hc => ?_) (fun hc => ?_)
    · replace hw := And.left hw hc
      refine lv_iconst (v := (0 : Int32)) hx hb dX2_hasItems_24 (by decide) ?_
      exact hret _ _ _ _ _ hP hS hw rfl dX2_hasItems_25
    · replace hw := And.right hw hc
      refine lv_iload_n hx hb dX2_hasItems_8 rfl (lv_at hl 2 rfl) ?_
      refine lv_aload_n hx hb dX2_hasItems_9 rfl (lv_at hl 0 rfl) ?_
      refine va_get (D := D) (ci := 2) (v := .ref (h 51)) (C := RX2) (T := TX2) (N := 3) hx hb hts inX2 hown hK hP 49 wX_49 rfl 1 (by decide) f0 (fun _ h9 => h9) rfl dX2_hasItems_10 ?_
      refine lv_iload_n hx hb dX2_hasItems_13 rfl (lv_at hl 1 rfl) ?_
      obtain ⟨hi, hw⟩ := hw
      refine va_iald hx hb hK hP 51 0 wX_51 rfl hi dX2_hasItems_14 ?_
      refine lv_iload_n hx hb dX2_hasItems_15 rfl (lv_at hl 3 rfl) ?_
      refine lv_isub hx hb dX2_hasItems_16 ?_
      refine lv_icmp_gt (tgt := 24) hx hb dX2_hasItems_17 (by decide) (fun hc => ?_) (fun hc => ?_)
      · replace hw := And.left hw hc
        refine lv_iconst (v := (0 : Int32)) hx hb dX2_hasItems_24 (by decide) ?_
        exact hret _ _ _ _ _ hP hS hw rfl dX2_hasItems_25
      · replace hw := And.right hw hc
        refine lv_iconst (v := (1 : Int32)) hx hb dX2_hasItems_20 (by decide) ?_
        refine lv_goto (tgt := 25) hx hb dX2_hasItems_21 (by decide) ?_
        exact hret _ _ _ _ _ hP hS hw rfl dX2_hasItems_25
abbrev rX2_refusal : Room := { frames := 1, cells := 0, slots := 0, locals := 23 }
set_option maxHeartbeats 4000000 in
set_option maxRecDepth 100000 in
theorem mX2_refusal (l : Launch) (D : va_G) (h : Nat → Nat) (cI cJ : ClassId) (t0 : Nat) (hh : xdis 53 h) (S : SX) (L : LX) (v1 : Int32) (v2 : Int32) (v3 : Int32) (v4 : Int32) (post : Int32 → Prop) (hw : kX2_refusal S L v1 v2 v3 v4 post) : Met l yX2_refusal wsX2_refusal rX2_refusal (xPre D (wX h cI cJ) (xE D h cI cJ t0) S L [.ref (h 49), .int v1, .int v2, .int v3, .int v4]) (va_Qi (fun (r : Int32) (u : SX × LX) => post r ∧ u.1 = S ∧ u.2 = L) (xB D (wX h cI cJ)) (xA 53 h)) 0 0 (xA 53 h) := by
  refine Met.ofW (cc := cX2_refusal) (maxL := 5) (ret := (some .int)) (by decide) rfl ?_
  intro p e s m args below meth c s₁ B hml hv
  obtain ⟨hargs, hP, hE⟩ := hv
  have hx := B.exec
  have hb := B.bytes
  have hr := B.returns
  have hlocks := B.notSynchronized
  have hts := atoms_spec (ws := wsX2_refusal) B.pre
  have hown : s.vm.findClass RX2 = some m.cls := findClass_of_methodNamed B.named
  have hS : va_S (xA 53 h) s.heap s.heap [] := va_S.rf
  have hD : ∀ (S : SX) (L : LX), va_D (xA 53 h) (wX h cI cJ S L) := fun S L => wX_D hh cI cJ S L
  have hK := hE.1
  have hst : xSt (xA 53 h) (xE D h cI cJ t0) := xE_st D h cI cJ t0
  have f0 := hts (.fieldLink RX2 9 "BookOfWills$Sheets" "lane" "[I") (by decide +kernel)
  have inX2 : ∀ w ∈ u_ws RX2 TX2 3, w ∈ wsX2_refusal := fun w hw9 => List.mem_cons_of_mem _ (List.mem_append_right _ hw9)
  have hl := lv_entry ([.ref (h 49), .int v1, .int v2, .int v3, .int v4]) (n := 5) (Nat.le_of_ble_eq_true rfl)
  have hen : entryFrame m args 5 = F0 m 0 ((lg_sl ([.ref (h 49), .int v1, .int v2, .int v3, .int v4]) ++ List.replicate (5 - (lg_sl ([.ref (h 49), .int v1, .int v2, .int v3, .int v4])).length) Slot.unset).toArray) [] := by rw [hargs]; exact lg_entry_eq m _ _
  rw [hen]
  generalize (lg_sl ([.ref (h 49), .int v1, .int v2, .int v3, .int v4]) ++ List.replicate (5 - (lg_sl ([.ref (h 49), .int v1, .int v2, .int v3, .int v4])).length) Slot.unset).toArray = ls at hl ⊢
  have hl : lv_has ls 5 [(0, .ref (h 49)), (1, .int v1), (2, .int v2), (3, .int v3), (4, .int v4)] := hl
  change W p l e rX2_refusal s m args below meth c s.heap [] 0 0 (MQ below (va_Qi (fun (r : Int32) (u : SX × LX) => post r ∧ u.1 = S ∧ u.2 = L) (xB D (wX h cI cJ)) (xA 53 h)) args s 0 0 (xA 53 h)) (F0 m 0 ls [])
  have hret : ∀ (r : Int32) (H : Heap) (locs : List Loc) (ls : Array Slot) (pc : Nat), va_P D vwCl (wX h cI cJ S L) H → va_S (xA 53 h) s.heap H locs → post r → decode cX2_refusal pc = .ok (.ireturn, 1) → W p l e rX2_refusal s m args below meth c H locs 0 0 (MQ below (va_Qi (fun (r : Int32) (u : SX × LX) => post r ∧ u.1 = S ∧ u.2 = L) (xB D (wX h cI cJ)) (xA 53 h)) args s 0 0 (xA 53 h)) (F0 m pc ls [.int r]) := fun r H locs ls pc hP hS hw hd => W.iret hx hb hr (fun t ht hW => ⟨⟨r, (S, L), rfl, ⟨hw, rfl, rfl⟩, show va_P D vwCl (wX h cI cJ S L) t.heap by rw [ht]; exact hP⟩, hS.F ht⟩) hS.2.2 hd
  generalize MQ below (va_Qi (fun (r : Int32) (u : SX × LX) => post r ∧ u.1 = S ∧ u.2 = L) (xB D (wX h cI cJ)) (xA 53 h)) args s 0 0 (xA 53 h) = Q at hret ⊢
  unfold kX2_refusal at hw
  refine lv_aload_n hx hb dX2_refusal_0 rfl (lv_at hl 0 rfl) ?_
  refine lv_iload_n hx hb dX2_refusal_1 rfl (lv_at hl 1 rfl) ?_
  refine xVi0 (As := [.int v1]) (rest := []) hst hE hP hS ⟨hx, hb, hml, hown, hts⟩ (va_recv hK hP (ci := 2) (q := (RX2, TX2, 3)) rfl wX_49) (mX2_holdsRow l D h cI cJ t0 hh S L v1 _ hw) (cwV 1 hts gX2_refusal_X2_holdsRow rfl rfl rfl (by decide +kernel) ⟨Nat.le_of_ble_eq_true rfl, Nat.le_of_ble_eq_true rfl⟩) rfl hl.1 rfl (Nat.le_of_ble_eq_true rfl) dX2_refusal_2 ⟨Nat.zero_le _, Nat.zero_le _⟩ (fun r2 H locs hw hP hS => ?_)
  refine lv_if_ne (tgt := 11) hx hb dX2_refusal_5 (by decide) (fun hc => ?_) (fun hc => ?_)
  · replace hw := And.right hw hc
    refine lv_aload_n hx hb dX2_refusal_11 rfl (lv_at hl 0 rfl) ?_
    refine va_get (D := D) (ci := 2) (v := .ref (h 50)) (C := RX2) (T := TX2) (N := 3) hx hb hts inX2 hown hK hP 49 wX_49 rfl 0 (by decide) f0 (fun _ h9 => h9) rfl dX2_refusal_12 ?_
    refine lv_iload_n hx hb dX2_refusal_15 rfl (lv_at hl 1 rfl) ?_
    obtain ⟨hi, hw⟩ := hw
    refine va_iald hx hb hK hP 50 0 wX_50 rfl hi dX2_refusal_16 ?_
    refine lv_iload_n hx hb dX2_refusal_17 rfl (lv_at hl 2 rfl) ?_
    refine lv_icmp_eq (tgt := 24) hx hb dX2_refusal_18 (by decide) (fun hc => ?_) (fun hc => ?_)
    · replace hw := And.left hw hc
      refine lv_aload_n hx hb dX2_refusal_24 rfl (lv_at hl 0 rfl) ?_
      refine lv_iload_n hx hb dX2_refusal_25 rfl (lv_at hl 1 rfl) ?_
      refine lv_iload_n hx hb dX2_refusal_26 rfl (lv_at hl 3 rfl) ?_
      refine lv_iload hx hb dX2_refusal_27 (lv_at hl 4 rfl) ?_
      refine xVi0 (As := [.int v1, .int v3, .int v4]) (rest := []) hst hE hP hS ⟨hx, hb, hml, hown, hts⟩ (va_recv hK hP (ci := 2) (q := (RX2, TX2, 3)) rfl wX_49) (mX2_hasItems l D h cI cJ t0 hh S L v1 v3 v4 _ hw) (cwV 3 hts gX2_refusal_X2_hasItems rfl rfl rfl (by decide +kernel) ⟨Nat.le_of_ble_eq_true rfl, Nat.le_of_ble_eq_true rfl⟩) rfl hl.1 rfl (Nat.le_of_ble_eq_true rfl) dX2_refusal_29 ⟨Nat.zero_le _, Nat.zero_le _⟩ (fun r29 H locs hw hP hS => ?_)
      refine lv_if_eq (tgt := 39) hx hb dX2_refusal_32 (by decide) (fun hc => ?_) (fun hc => ?_)
      · replace hw := And.left hw hc
        refine lv_bipush (v := (-13 : Int32)) hx hb dX2_refusal_39 (by decide) ?_
        exact hret _ _ _ _ _ hP hS hw dX2_refusal_41
      · replace hw := And.right hw hc
        refine lv_iconst (v := (0 : Int32)) hx hb dX2_refusal_35 (by decide) ?_
        refine lv_goto (tgt := 41) hx hb dX2_refusal_36 (by decide) ?_
        exact hret _ _ _ _ _ hP hS hw dX2_refusal_41
    · replace hw := And.right hw hc
      refine lv_bipush (v := (-12 : Int32)) hx hb dX2_refusal_21 (by decide) ?_
      exact hret _ _ _ _ _ hP hS hw dX2_refusal_23
  · replace hw := And.left hw hc
    refine lv_bipush (v := (-11 : Int32)) hx hb dX2_refusal_8 (by decide) ?_
    exact hret _ _ _ _ _ hP hS hw dX2_refusal_10
abbrev rX2_at : Room := { frames := 1, cells := 0, slots := 0, locals := 23 }
set_option maxHeartbeats 4000000 in
set_option maxRecDepth 100000 in
theorem mX2_at (l : Launch) (D : va_G) (h : Nat → Nat) (cI cJ : ClassId) (t0 : Nat) (hh : xdis 53 h) (S : SX) (L : LX) (v1 : Int32) (v2 : Int32) (post : Int32 → Prop) (hw : kX2_at S L v1 v2 post) : Met l yX2_at wsX2_at rX2_at (xPre D (wX h cI cJ) (xE D h cI cJ t0) S L [.ref (h 49), .int v1, .int v2]) (va_Qi (fun (r : Int32) (u : SX × LX) => post r ∧ u.1 = S ∧ u.2 = L) (xB D (wX h cI cJ)) (xA 53 h)) 0 0 (xA 53 h) := by
  refine Met.ofW (cc := cX2_at) (maxL := 3) (ret := (some .int)) (by decide) rfl ?_
  intro p e s m args below meth c s₁ B hml hv
  obtain ⟨hargs, hP, hE⟩ := hv
  have hx := B.exec
  have hb := B.bytes
  have hr := B.returns
  have hlocks := B.notSynchronized
  have hts := atoms_spec (ws := wsX2_at) B.pre
  have hown : s.vm.findClass RX2 = some m.cls := findClass_of_methodNamed B.named
  have hS : va_S (xA 53 h) s.heap s.heap [] := va_S.rf
  have hD : ∀ (S : SX) (L : LX), va_D (xA 53 h) (wX h cI cJ S L) := fun S L => wX_D hh cI cJ S L
  have hK := hE.1
  have hst : xSt (xA 53 h) (xE D h cI cJ t0) := xE_st D h cI cJ t0
  have f0 := hts (.fieldLink RX2 18 "BookOfWills$Sheets" "items" "[I") (by decide +kernel)
  have inX2 : ∀ w ∈ u_ws RX2 TX2 3, w ∈ wsX2_at := fun w hw9 => List.mem_cons_of_mem _ (List.mem_append_right _ hw9)
  have hl := lv_entry ([.ref (h 49), .int v1, .int v2]) (n := 3) (Nat.le_of_ble_eq_true rfl)
  have hen : entryFrame m args 3 = F0 m 0 ((lg_sl ([.ref (h 49), .int v1, .int v2]) ++ List.replicate (3 - (lg_sl ([.ref (h 49), .int v1, .int v2])).length) Slot.unset).toArray) [] := by rw [hargs]; exact lg_entry_eq m _ _
  rw [hen]
  generalize (lg_sl ([.ref (h 49), .int v1, .int v2]) ++ List.replicate (3 - (lg_sl ([.ref (h 49), .int v1, .int v2])).length) Slot.unset).toArray = ls at hl ⊢
  have hl : lv_has ls 3 [(0, .ref (h 49)), (1, .int v1), (2, .int v2)] := hl
  change W p l e rX2_at s m args below meth c s.heap [] 0 0 (MQ below (va_Qi (fun (r : Int32) (u : SX × LX) => post r ∧ u.1 = S ∧ u.2 = L) (xB D (wX h cI cJ)) (xA 53 h)) args s 0 0 (xA 53 h)) (F0 m 0 ls [])
  have hret : ∀ (r : Int32) (H : Heap) (locs : List Loc) (ls : Array Slot) (pc : Nat), va_P D vwCl (wX h cI cJ S L) H → va_S (xA 53 h) s.heap H locs → post r → decode cX2_at pc = .ok (.ireturn, 1) → W p l e rX2_at s m args below meth c H locs 0 0 (MQ below (va_Qi (fun (r : Int32) (u : SX × LX) => post r ∧ u.1 = S ∧ u.2 = L) (xB D (wX h cI cJ)) (xA 53 h)) args s 0 0 (xA 53 h)) (F0 m pc ls [.int r]) := fun r H locs ls pc hP hS hw hd => W.iret hx hb hr (fun t ht hW => ⟨⟨r, (S, L), rfl, ⟨hw, rfl, rfl⟩, show va_P D vwCl (wX h cI cJ S L) t.heap by rw [ht]; exact hP⟩, hS.F ht⟩) hS.2.2 hd
  generalize MQ below (va_Qi (fun (r : Int32) (u : SX × LX) => post r ∧ u.1 = S ∧ u.2 = L) (xB D (wX h cI cJ)) (xA 53 h)) args s 0 0 (xA 53 h) = Q at hret ⊢
  unfold kX2_at at hw
  refine lv_aload_n hx hb dX2_at_0 rfl (lv_at hl 0 rfl) ?_
  refine lv_iload_n hx hb dX2_at_1 rfl (lv_at hl 1 rfl) ?_
  refine lv_iload_n hx hb dX2_at_2 rfl (lv_at hl 2 rfl) ?_
  refine lv_iconst (v := (1 : Int32)) hx hb dX2_at_3 (by decide) ?_
  refine xVi0 (As := [.int v1, .int v2, .int (1 : Int32)]) (rest := []) hst hE hP hS ⟨hx, hb, hml, hown, hts⟩ (va_recv hK hP (ci := 2) (q := (RX2, TX2, 3)) rfl wX_49) (mX2_hasItems l D h cI cJ t0 hh S L v1 v2 (1 : Int32) _ hw) (cwV 3 hts gX2_at_X2_hasItems rfl rfl rfl (by decide +kernel) ⟨Nat.le_of_ble_eq_true rfl, Nat.le_of_ble_eq_true rfl⟩) rfl hl.1 rfl (Nat.le_of_ble_eq_true rfl) dX2_at_4 ⟨Nat.zero_le _, Nat.zero_le _⟩ (fun r4 H locs hw hP hS => ?_)
  refine lv_if_eq (tgt := 24) hx hb dX2_at_7 (by decide) (fun hc => ?_) (fun hc => ?_)
  · replace hw := And.left hw hc
    refine lv_iconst (v := (0 : Int32)) hx hb dX2_at_24 (by decide) ?_
    exact hret _ _ _ _ _ hP hS hw dX2_at_25
  · replace hw := And.right hw hc
    refine lv_aload_n hx hb dX2_at_10 rfl (lv_at hl 0 rfl) ?_
    refine va_get (D := D) (ci := 2) (v := .ref (h 52)) (C := RX2) (T := TX2) (N := 3) hx hb hts inX2 hown hK hP 49 wX_49 rfl 2 (by decide) f0 (fun _ h9 => h9) rfl dX2_at_11 ?_
    refine lv_iload_n hx hb dX2_at_14 rfl (lv_at hl 1 rfl) ?_
    refine lv_bipush (v := (24 : Int32)) hx hb dX2_at_15 (by decide) ?_
    refine lv_imul hx hb dX2_at_17 ?_
    refine lv_iload_n hx hb dX2_at_18 rfl (lv_at hl 2 rfl) ?_
    refine lv_iadd hx hb dX2_at_19 ?_
    obtain ⟨hi, hw⟩ := hw
    refine va_iald hx hb hK hP 52 0 wX_52 rfl hi dX2_at_20 ?_
    refine lv_goto (tgt := 25) hx hb dX2_at_21 (by decide) ?_
    exact hret _ _ _ _ _ hP hS hw dX2_at_25
abbrev rX2_narrowed : Room := { frames := 0, cells := 0, slots := 0, locals := 0 }
set_option maxHeartbeats 4000000 in
set_option maxRecDepth 100000 in
theorem mX2_narrowed (l : Launch) (D : va_G) (h : Nat → Nat) (cI cJ : ClassId) (t0 : Nat) (hh : xdis 53 h) (S : SX) (L : LX) (v0 : Int32) (v1 : Int32) (post : Int32 → Prop) (hw : kX2_narrowed S L v0 v1 post) : Met l yX2_narrowed wsX2_narrowed rX2_narrowed (xPre D (wX h cI cJ) (xE D h cI cJ t0) S L [.int v0, .int v1]) (va_Qi (fun (r : Int32) (u : SX × LX) => post r ∧ u.1 = S ∧ u.2 = L) (xB D (wX h cI cJ)) (xA 53 h)) 0 0 (xA 53 h) := by
  refine Met.ofW (cc := cX2_narrowed) (maxL := 2) (ret := (some .int)) (by decide) rfl ?_
  intro p e s m args below meth c s₁ B hml hv
  obtain ⟨hargs, hP, hE⟩ := hv
  have hx := B.exec
  have hb := B.bytes
  have hr := B.returns
  have hlocks := B.notSynchronized
  have hts := atoms_spec (ws := wsX2_narrowed) B.pre
  have hown : s.vm.findClass RX2 = some m.cls := findClass_of_methodNamed B.named
  have hS : va_S (xA 53 h) s.heap s.heap [] := va_S.rf
  have hD : ∀ (S : SX) (L : LX), va_D (xA 53 h) (wX h cI cJ S L) := fun S L => wX_D hh cI cJ S L
  have hK := hE.1
  have hst : xSt (xA 53 h) (xE D h cI cJ t0) := xE_st D h cI cJ t0
  skip
  have hl := lv_entry ([.int v0, .int v1]) (n := 2) (Nat.le_of_ble_eq_true rfl)
  have hen : entryFrame m args 2 = F0 m 0 ((lg_sl ([.int v0, .int v1]) ++ List.replicate (2 - (lg_sl ([.int v0, .int v1])).length) Slot.unset).toArray) [] := by rw [hargs]; exact lg_entry_eq m _ _
  rw [hen]
  generalize (lg_sl ([.int v0, .int v1]) ++ List.replicate (2 - (lg_sl ([.int v0, .int v1])).length) Slot.unset).toArray = ls at hl ⊢
  have hl : lv_has ls 2 [(0, .int v0), (1, .int v1)] := hl
  change W p l e rX2_narrowed s m args below meth c s.heap [] 0 0 (MQ below (va_Qi (fun (r : Int32) (u : SX × LX) => post r ∧ u.1 = S ∧ u.2 = L) (xB D (wX h cI cJ)) (xA 53 h)) args s 0 0 (xA 53 h)) (F0 m 0 ls [])
  have hret : ∀ (r : Int32) (H : Heap) (locs : List Loc) (ls : Array Slot) (pc : Nat), va_P D vwCl (wX h cI cJ S L) H → va_S (xA 53 h) s.heap H locs → post r → decode cX2_narrowed pc = .ok (.ireturn, 1) → W p l e rX2_narrowed s m args below meth c H locs 0 0 (MQ below (va_Qi (fun (r : Int32) (u : SX × LX) => post r ∧ u.1 = S ∧ u.2 = L) (xB D (wX h cI cJ)) (xA 53 h)) args s 0 0 (xA 53 h)) (F0 m pc ls [.int r]) := fun r H locs ls pc hP hS hw hd => W.iret hx hb hr (fun t ht hW => ⟨⟨r, (S, L), rfl, ⟨hw, rfl, rfl⟩, show va_P D vwCl (wX h cI cJ S L) t.heap by rw [ht]; exact hP⟩, hS.F ht⟩) hS.2.2 hd
  generalize MQ below (va_Qi (fun (r : Int32) (u : SX × LX) => post r ∧ u.1 = S ∧ u.2 = L) (xB D (wX h cI cJ)) (xA 53 h)) args s 0 0 (xA 53 h) = Q at hret ⊢
  unfold kX2_narrowed at hw
  refine lv_iload_n hx hb dX2_narrowed_0 rfl (lv_at hl 0 rfl) ?_
  by_cases hc0 : v0 = (0 : Int32)
  · replace hw := And.left (hw) hc0
    refine lv_lookup (off := 27) (tgt := 28) hx hb dX2_narrowed_1 (by decide) (by rw [hc0]; decide) (by decide) ?_
    refine lv_iload_n hx hb dX2_narrowed_28 rfl (lv_at hl 1 rfl) ?_
    refine lv_i2b hx hb dX2_narrowed_29 rfl ?_
    exact hret _ _ _ _ _ hP hS hw dX2_narrowed_30
  by_cases hc1 : v0 = (1 : Int32)
  · replace hw := And.left (And.right (hw)) hc1
    refine lv_lookup (off := 30) (tgt := 31) hx hb dX2_narrowed_1 (by decide) (by rw [hc1]; decide) (by decide) ?_
    refine lv_iload_n hx hb dX2_narrowed_31 rfl (lv_at hl 1 rfl) ?_
    refine lv_i2s hx hb dX2_narrowed_32 rfl ?_
    exact hret _ _ _ _ _ hP hS hw dX2_narrowed_33
  replace hw := And.right (And.right (hw)) hc0 hc1
  refine lv_lookup (off := 33) (tgt := 34) hx hb dX2_narrowed_1 (by decide) (by simp only [lookupswitch.offset_cons, lookupswitch.offset_nil]; rw [if_neg (fun q => hc0 (x_ofI q))]; rw [if_neg (fun q => hc1 (x_ofI q))]) (by decide) ?_
  refine lv_iload_n hx hb dX2_narrowed_34 rfl (lv_at hl 1 rfl) ?_
  exact hret _ _ _ _ _ hP hS hw dX2_narrowed_35
abbrev rX2_put : Room := { frames := 1, cells := 0, slots := 0, locals := 23 }
set_option maxHeartbeats 4000000 in
set_option maxRecDepth 100000 in
theorem mX2_put (l : Launch) (D : va_G) (h : Nat → Nat) (cI cJ : ClassId) (t0 : Nat) (hh : xdis 53 h) (S : SX) (L : LX) (v1 : Int32) (v2 : Int32) (v3 : Int32) (post : SX → Prop) (hw : kX2_put S L v1 v2 v3 post) : Met l yX2_put wsX2_put rX2_put (xPre D (wX h cI cJ) (xE D h cI cJ t0) S L [.ref (h 49), .int v1, .int v2, .int v3]) (va_Qv (fun (u : SX × LX) => post u.1 ∧ u.2 = L) (xB D (wX h cI cJ)) (xA 53 h)) 0 0 (xA 53 h) := by
  refine Met.ofW (cc := cX2_put) (maxL := 4) (ret := none) (by decide) rfl ?_
  intro p e s m args below meth c s₁ B hml hv
  obtain ⟨hargs, hP, hE⟩ := hv
  have hx := B.exec
  have hb := B.bytes
  have hr := B.returns
  have hlocks := B.notSynchronized
  have hts := atoms_spec (ws := wsX2_put) B.pre
  have hown : s.vm.findClass RX2 = some m.cls := findClass_of_methodNamed B.named
  have hS : va_S (xA 53 h) s.heap s.heap [] := va_S.rf
  have hD : ∀ (S : SX) (L : LX), va_D (xA 53 h) (wX h cI cJ S L) := fun S L => wX_D hh cI cJ S L
  have hK := hE.1
  have hst : xSt (xA 53 h) (xE D h cI cJ t0) := xE_st D h cI cJ t0
  have f0 := hts (.fieldLink RX2 18 "BookOfWills$Sheets" "items" "[I") (by decide +kernel)
  have inX2 : ∀ w ∈ u_ws RX2 TX2 3, w ∈ wsX2_put := fun w hw9 => List.mem_cons_of_mem _ (List.mem_append_right _ hw9)
  have f2 := hts (.fieldLink RX2 9 "BookOfWills$Sheets" "lane" "[I") (by decide +kernel)
  have hl := lv_entry ([.ref (h 49), .int v1, .int v2, .int v3]) (n := 4) (Nat.le_of_ble_eq_true rfl)
  have hen : entryFrame m args 4 = F0 m 0 ((lg_sl ([.ref (h 49), .int v1, .int v2, .int v3]) ++ List.replicate (4 - (lg_sl ([.ref (h 49), .int v1, .int v2, .int v3])).length) Slot.unset).toArray) [] := by rw [hargs]; exact lg_entry_eq m _ _
  rw [hen]
  generalize (lg_sl ([.ref (h 49), .int v1, .int v2, .int v3]) ++ List.replicate (4 - (lg_sl ([.ref (h 49), .int v1, .int v2, .int v3])).length) Slot.unset).toArray = ls at hl ⊢
  have hl : lv_has ls 4 [(0, .ref (h 49)), (1, .int v1), (2, .int v2), (3, .int v3)] := hl
  change W p l e rX2_put s m args below meth c s.heap [] 0 0 (MQ below (va_Qv (fun (u : SX × LX) => post u.1 ∧ u.2 = L) (xB D (wX h cI cJ)) (xA 53 h)) args s 0 0 (xA 53 h)) (F0 m 0 ls [])
  have hret : ∀ (S1 : SX) (H : Heap) (locs : List Loc) (ls : Array Slot) (pc : Nat), va_P D vwCl (wX h cI cJ S1 L) H → va_S (xA 53 h) s.heap H locs → post S1 → decode cX2_put pc = .ok (.return_, 1) → W p l e rX2_put s m args below meth c H locs 0 0 (MQ below (va_Qv (fun (u : SX × LX) => post u.1 ∧ u.2 = L) (xB D (wX h cI cJ)) (xA 53 h)) args s 0 0 (xA 53 h)) (F0 m pc ls []) := fun S1 H locs ls pc hP hS hw hd => W.vret hx hb hr (fun t ht hW => ⟨⟨(S1, L), rfl, ⟨hw, rfl⟩, show va_P D vwCl (wX h cI cJ S1 L) t.heap by rw [ht]; exact hP⟩, hS.F ht⟩) hS.2.2 hd
  generalize MQ below (va_Qv (fun (u : SX × LX) => post u.1 ∧ u.2 = L) (xB D (wX h cI cJ)) (xA 53 h)) args s 0 0 (xA 53 h) = Q at hret ⊢
  unfold kX2_put at hw
  refine lv_aload_n hx hb dX2_put_0 rfl (lv_at hl 0 rfl) ?_
  refine lv_iload_n hx hb dX2_put_1 rfl (lv_at hl 1 rfl) ?_
  refine lv_iload_n hx hb dX2_put_2 rfl (lv_at hl 2 rfl) ?_
  refine lv_iconst (v := (1 : Int32)) hx hb dX2_put_3 (by decide) ?_
  refine xVi0 (As := [.int v1, .int v2, .int (1 : Int32)]) (rest := []) hst hE hP hS ⟨hx, hb, hml, hown, hts⟩ (va_recv hK hP (ci := 2) (q := (RX2, TX2, 3)) rfl wX_49) (mX2_hasItems l D h cI cJ t0 hh S L v1 v2 (1 : Int32) _ hw) (cwV 3 hts gX2_put_X2_hasItems rfl rfl rfl (by decide +kernel) ⟨Nat.le_of_ble_eq_true rfl, Nat.le_of_ble_eq_true rfl⟩) rfl hl.1 rfl (Nat.le_of_ble_eq_true rfl) dX2_put_4 ⟨Nat.zero_le _, Nat.zero_le _⟩ (fun r4 H locs hw hP hS => ?_)
  refine lv_if_eq (tgt := 31) hx hb dX2_put_7 (by decide) (fun hc => ?_) (fun hc => ?_)
  · replace hw := And.left hw hc
    exact hret _ _ _ _ _ hP hS hw dX2_put_31
  · replace hw := And.right hw hc
    refine lv_aload_n hx hb dX2_put_10 rfl (lv_at hl 0 rfl) ?_
    refine va_get (D := D) (ci := 2) (v := .ref (h 52)) (C := RX2) (T := TX2) (N := 3) hx hb hts inX2 hown hK hP 49 wX_49 rfl 2 (by decide) f0 (fun _ h9 => h9) rfl dX2_put_11 ?_
    refine lv_iload_n hx hb dX2_put_14 rfl (lv_at hl 1 rfl) ?_
    refine lv_bipush (v := (24 : Int32)) hx hb dX2_put_15 (by decide) ?_
    refine lv_imul hx hb dX2_put_17 ?_
    refine lv_iload_n hx hb dX2_put_18 rfl (lv_at hl 2 rfl) ?_
    refine lv_iadd hx hb dX2_put_19 ?_
    refine lv_aload_n hx hb dX2_put_20 rfl (lv_at hl 0 rfl) ?_
    refine va_get (D := D) (ci := 2) (v := .ref (h 50)) (C := RX2) (T := TX2) (N := 3) hx hb hts inX2 hown hK hP 49 wX_49 rfl 0 (by decide) f2 (fun _ h9 => h9) rfl dX2_put_21 ?_
    refine lv_iload_n hx hb dX2_put_24 rfl (lv_at hl 1 rfl) ?_
    obtain ⟨hi, hw⟩ := hw
    refine va_iald hx hb hK hP 50 0 wX_50 rfl hi dX2_put_25 ?_
    refine lv_iload_n hx hb dX2_put_26 rfl (lv_at hl 3 rfl) ?_
    refine xSi0 (As := [.int (S 50 v1.toNatClampNeg), .int v3]) (rest := [.int ((v1 * (24 : Int32)) + v2), .ref (h 52)]) hst hE hP hS ⟨hx, hb, hml, hown, hts⟩ (mX2_narrowed l D h cI cJ t0 hh S L (S 50 v1.toNatClampNeg) v3 _ hw) (va_cwS 2 hts gX2_put_X2_narrowed rfl rfl rfl (by decide +kernel) ⟨Nat.le_of_ble_eq_true rfl, Nat.le_of_ble_eq_true rfl⟩) rfl hl.1 rfl (Nat.le_of_ble_eq_true rfl) dX2_put_27 ⟨Nat.zero_le _, Nat.zero_le _⟩ (fun r27 H locs hw hP hS => ?_)
    obtain ⟨hi, hw⟩ := hw
    refine x_iast (ws2 := wX h cI cJ (xu S 52 ((v1 * (24 : Int32)) + v2).toNatClampNeg r27) L) hx hb hK hP (hD _ _) hS 52 0 wX_52 rfl hi dX2_put_30 (wX_u52 _ _) (fun H locs hP hS => ?_)
    exact hret _ _ _ _ _ hP hS hw dX2_put_31
abbrev rX2_move : Room := { frames := 1, cells := 0, slots := 0, locals := 32 }
set_option maxHeartbeats 4000000 in
set_option maxRecDepth 100000 in
theorem mX2_move (l : Launch) (D : va_G) (h : Nat → Nat) (cI cJ : ClassId) (t0 : Nat) (hh : xdis 53 h) (S : SX) (L : LX) (v1 : Int32) (v2 : Int32) (v3 : Int32) (v4 : Int32) (v5 : Int32) (post : SX → Prop) (hw : kX2_move S L v1 v2 v3 v4 v5 post) : Met l yX2_move wsX2_move rX2_move (xPre D (wX h cI cJ) (xE D h cI cJ t0) S L [.ref (h 49), .int v1, .int v2, .int v3, .int v4, .int v5]) (va_Qv (fun (u : SX × LX) => post u.1 ∧ u.2 = L) (xB D (wX h cI cJ)) (xA 53 h)) 0 0 (xA 53 h) := by
  refine Met.ofW (cc := cX2_move) (maxL := 6) (ret := none) (by decide) rfl ?_
  intro p e s m args below meth c s₁ B hml hv
  obtain ⟨hargs, hP, hE⟩ := hv
  have hx := B.exec
  have hb := B.bytes
  have hr := B.returns
  have hlocks := B.notSynchronized
  have hts := atoms_spec (ws := wsX2_move) B.pre
  have hown : s.vm.findClass RX2 = some m.cls := findClass_of_methodNamed B.named
  have hS : va_S (xA 53 h) s.heap s.heap [] := va_S.rf
  have hD : ∀ (S : SX) (L : LX), va_D (xA 53 h) (wX h cI cJ S L) := fun S L => wX_D hh cI cJ S L
  have hK := hE.1
  have hst : xSt (xA 53 h) (xE D h cI cJ t0) := xE_st D h cI cJ t0
  have f0 := hts (.fieldLink RX2 18 "BookOfWills$Sheets" "items" "[I") (by decide +kernel)
  have inX2 : ∀ w ∈ u_ws RX2 TX2 3, w ∈ wsX2_move := fun w hw9 => List.mem_cons_of_mem _ (List.mem_append_right _ hw9)
  have f2 := hts (.methodLink RX2 33 arraycopyName) (by decide +kernel)
  have f3 := hts (.native arraycopyName) (by decide +kernel)
  have f4 := hts (.static arraycopyName) (by decide +kernel)
  have f5 := hts (.initialized "java/lang/System") (by decide +kernel)
  have hl := lv_entry ([.ref (h 49), .int v1, .int v2, .int v3, .int v4, .int v5]) (n := 6) (Nat.le_of_ble_eq_true rfl)
  have hen : entryFrame m args 6 = F0 m 0 ((lg_sl ([.ref (h 49), .int v1, .int v2, .int v3, .int v4, .int v5]) ++ List.replicate (6 - (lg_sl ([.ref (h 49), .int v1, .int v2, .int v3, .int v4, .int v5])).length) Slot.unset).toArray) [] := by rw [hargs]; exact lg_entry_eq m _ _
  rw [hen]
  generalize (lg_sl ([.ref (h 49), .int v1, .int v2, .int v3, .int v4, .int v5]) ++ List.replicate (6 - (lg_sl ([.ref (h 49), .int v1, .int v2, .int v3, .int v4, .int v5])).length) Slot.unset).toArray = ls at hl ⊢
  have hl : lv_has ls 6 [(0, .ref (h 49)), (1, .int v1), (2, .int v2), (3, .int v3), (4, .int v4), (5, .int v5)] := hl
  change W p l e rX2_move s m args below meth c s.heap [] 0 0 (MQ below (va_Qv (fun (u : SX × LX) => post u.1 ∧ u.2 = L) (xB D (wX h cI cJ)) (xA 53 h)) args s 0 0 (xA 53 h)) (F0 m 0 ls [])
  have hret : ∀ (S1 : SX) (H : Heap) (locs : List Loc) (ls : Array Slot) (pc : Nat), va_P D vwCl (wX h cI cJ S1 L) H → va_S (xA 53 h) s.heap H locs → post S1 → decode cX2_move pc = .ok (.return_, 1) → W p l e rX2_move s m args below meth c H locs 0 0 (MQ below (va_Qv (fun (u : SX × LX) => post u.1 ∧ u.2 = L) (xB D (wX h cI cJ)) (xA 53 h)) args s 0 0 (xA 53 h)) (F0 m pc ls []) := fun S1 H locs ls pc hP hS hw hd => W.vret hx hb hr (fun t ht hW => ⟨⟨(S1, L), rfl, ⟨hw, rfl⟩, show va_P D vwCl (wX h cI cJ S1 L) t.heap by rw [ht]; exact hP⟩, hS.F ht⟩) hS.2.2 hd
  generalize MQ below (va_Qv (fun (u : SX × LX) => post u.1 ∧ u.2 = L) (xB D (wX h cI cJ)) (xA 53 h)) args s 0 0 (xA 53 h) = Q at hret ⊢
  unfold kX2_move at hw
  refine lv_aload_n hx hb dX2_move_0 rfl (lv_at hl 0 rfl) ?_
  refine va_get (D := D) (ci := 2) (v := .ref (h 52)) (C := RX2) (T := TX2) (N := 3) hx hb hts inX2 hown hK hP 49 wX_49 rfl 2 (by decide) f0 (fun _ h9 => h9) rfl dX2_move_1 ?_
  refine lv_iload_n hx hb dX2_move_4 rfl (lv_at hl 1 rfl) ?_
  refine lv_bipush (v := (24 : Int32)) hx hb dX2_move_5 (by decide) ?_
  refine lv_imul hx hb dX2_move_7 ?_
  refine lv_iload_n hx hb dX2_move_8 rfl (lv_at hl 2 rfl) ?_
  refine lv_iadd hx hb dX2_move_9 ?_
  refine lv_aload_n hx hb dX2_move_10 rfl (lv_at hl 0 rfl) ?_
  refine va_get (D := D) (ci := 2) (v := .ref (h 52)) (C := RX2) (T := TX2) (N := 3) hx hb hts inX2 hown hK hP 49 wX_49 rfl 2 (by decide) f0 (fun _ h9 => h9) rfl dX2_move_11 ?_
  refine lv_iload_n hx hb dX2_move_14 rfl (lv_at hl 3 rfl) ?_
  refine lv_bipush (v := (24 : Int32)) hx hb dX2_move_15 (by decide) ?_
  refine lv_imul hx hb dX2_move_17 ?_
  refine lv_iload hx hb dX2_move_18 (lv_at hl 4 rfl) ?_
  refine lv_iadd hx hb dX2_move_20 ?_
  refine lv_iload hx hb dX2_move_21 (lv_at hl 5 rfl) ?_
  obtain ⟨hi, hw⟩ := hw
  refine x_copyi (ws2 := wX h cI cJ (xcp S 52 52 ((v1 * (24 : Int32)) + v2).toNatClampNeg ((v3 * (24 : Int32)) + v4).toNatClampNeg v5.toNatClampNeg) L) hx hb (hml.trans hl.1.symm) hown f2 f3 f4 f5 hK hP (hD _ _) hS 52 52 0 wX_52 wX_52 rfl hi.1 hi.2.1 hi.2.2.1 hi.2.2.2.1 hi.2.2.2.2 (Nat.le_of_ble_eq_true rfl) (Nat.le_of_ble_eq_true rfl) dX2_move_23 (wX_c52 _ _ _ _) (fun H locs hP hS => ?_)
  exact hret _ _ _ _ _ hP hS hw dX2_move_26
abbrev rX5_seen : Room := { frames := 0, cells := 0, slots := 0, locals := 0 }
set_option maxHeartbeats 4000000 in
set_option maxRecDepth 100000 in
theorem mX5_seen (l : Launch) (D : va_G) (h : Nat → Nat) (cI cJ : ClassId) (t0 : Nat) (hh : xdis 53 h) (S : SX) (L : LX) (v1 : Int32) (v2 : Int32) (post : Int32 → Prop) (hw : kX5_seen S L v1 v2 post) : Met l yX5_seen wsX5_seen rX5_seen (xPre D (wX h cI cJ) (xE D h cI cJ t0) S L [.ref (h 1), .int v1, .int v2]) (va_Qi (fun (r : Int32) (u : SX × LX) => post r ∧ u.1 = S ∧ u.2 = L) (xB D (wX h cI cJ)) (xA 53 h)) 0 0 (xA 53 h) := by
  refine Met.ofW (cc := cX5_seen) (maxL := 6) (ret := (some .int)) (by decide) rfl ?_
  intro p e s m args below meth c s₁ B hml hv
  obtain ⟨hargs, hP, hE⟩ := hv
  have hx := B.exec
  have hb := B.bytes
  have hr := B.returns
  have hlocks := B.notSynchronized
  have hts := atoms_spec (ws := wsX5_seen) B.pre
  have hown : s.vm.findClass RX5 = some m.cls := findClass_of_methodNamed B.named
  have hS : va_S (xA 53 h) s.heap s.heap [] := va_S.rf
  have hD : ∀ (S : SX) (L : LX), va_D (xA 53 h) (wX h cI cJ S L) := fun S L => wX_D hh cI cJ S L
  have hK := hE.1
  have hst : xSt (xA 53 h) (xE D h cI cJ t0) := xE_st D h cI cJ t0
  have f0 := hts (.fieldLink RX5 30 "BookOfWills$World" "wills" "LBookOfWills$Wills;") (by decide +kernel)
  have inX5 : ∀ w ∈ u_ws RX5 TX5 10, w ∈ wsX5_seen := fun w hw9 => List.mem_cons_of_mem _ (List.mem_append_left _ (List.mem_append_left _ (List.mem_append_right _ hw9)))
  have f2 := hts (.fieldLink RX5 72 "BookOfWills$Wills" "had" "[I") (by decide +kernel)
  have inX4 : ∀ w ∈ u_ws RX4 TX4 5, w ∈ wsX5_seen := fun w hw9 => List.mem_cons_of_mem _ (List.mem_append_right _ hw9)
  have f4 := hts (.fieldLink RX5 23 "BookOfWills$World" "laws" "LBookOfWills$Laws;") (by decide +kernel)
  have f5 := hts (.fieldLink RX5 66 "BookOfWills$Laws" "marks" "[I") (by decide +kernel)
  have inX0 : ∀ w ∈ u_ws RX0 TX0 4, w ∈ wsX5_seen := fun w hw9 => List.mem_cons_of_mem _ (List.mem_append_left _ (List.mem_append_right _ hw9))
  have f7 := hts (.fieldLink RX5 69 "BookOfWills$Wills" "sex" "[I") (by decide +kernel)
  have hl := lv_entry ([.ref (h 1), .int v1, .int v2]) (n := 6) (Nat.le_of_ble_eq_true rfl)
  have hen : entryFrame m args 6 = F0 m 0 ((lg_sl ([.ref (h 1), .int v1, .int v2]) ++ List.replicate (6 - (lg_sl ([.ref (h 1), .int v1, .int v2])).length) Slot.unset).toArray) [] := by rw [hargs]; exact lg_entry_eq m _ _
  rw [hen]
  generalize (lg_sl ([.ref (h 1), .int v1, .int v2]) ++ List.replicate (6 - (lg_sl ([.ref (h 1), .int v1, .int v2])).length) Slot.unset).toArray = ls at hl ⊢
  have hl : lv_has ls 6 [(0, .ref (h 1)), (1, .int v1), (2, .int v2)] := hl
  change W p l e rX5_seen s m args below meth c s.heap [] 0 0 (MQ below (va_Qi (fun (r : Int32) (u : SX × LX) => post r ∧ u.1 = S ∧ u.2 = L) (xB D (wX h cI cJ)) (xA 53 h)) args s 0 0 (xA 53 h)) (F0 m 0 ls [])
  have hret : ∀ (r : Int32) (H : Heap) (locs : List Loc) (ls : Array Slot) (pc : Nat), va_P D vwCl (wX h cI cJ S L) H → va_S (xA 53 h) s.heap H locs → post r → decode cX5_seen pc = .ok (.ireturn, 1) → W p l e rX5_seen s m args below meth c H locs 0 0 (MQ below (va_Qi (fun (r : Int32) (u : SX × LX) => post r ∧ u.1 = S ∧ u.2 = L) (xB D (wX h cI cJ)) (xA 53 h)) args s 0 0 (xA 53 h)) (F0 m pc ls [.int r]) := fun r H locs ls pc hP hS hw hd => W.iret hx hb hr (fun t ht hW => ⟨⟨r, (S, L), rfl, ⟨hw, rfl, rfl⟩, show va_P D vwCl (wX h cI cJ S L) t.heap by rw [ht]; exact hP⟩, hS.F ht⟩) hS.2.2 hd
  generalize MQ below (va_Qi (fun (r : Int32) (u : SX × LX) => post r ∧ u.1 = S ∧ u.2 = L) (xB D (wX h cI cJ)) (xA 53 h)) args s 0 0 (xA 53 h) = Q at hret ⊢
  have b32 : ∀ (v3 : Int32) (H : Heap) (locs : List Loc) (ls : Array Slot), lv_has ls 6 [(0, .ref (h 1)), (1, .int v1), (3, .int v3)] → va_P D vwCl (wX h cI cJ S L) H → va_S (xA 53 h) s.heap H locs → kX5_seen_b32 S L v1 v2 post v3 → W p l e rX5_seen s m args below meth c H locs 0 0 Q (F0 m 32 ls []) := by
    have b48 : ∀ (v3 : Int32) (n48 : Nat) (v4 : Int32) (v5 : Int32) (H : Heap) (locs : List Loc) (ls : Array Slot), lv_has ls 6 [(0, .ref (h 1)), (1, .int v1), (3, .int v3), (4, .int v4), (5, .int v5)] → va_P D vwCl (wX h cI cJ S L) H → va_S (xA 53 h) s.heap H locs → kX5_seen_b48 S L v1 v2 v3 post n48 v4 v5 → W p l e rX5_seen s m args below meth c H locs 0 0 Q (F0 m 48 ls []) := by
      intro v3 n48
      induction n48 with
      | zero => intro v4 v5 H locs ls hl hP hS hw; exact absurd hw id
      | succ n48 i48 =>
        intro v4 v5 H locs ls hl hP hS hw
        unfold kX5_seen_b48 at hw
        refine lv_iload hx hb dX5_seen_48 (lv_at hl 4 rfl) ?_
        refine lv_iconst (v := (4 : Int32)) hx hb dX5_seen_50 (by decide) ?_
        refine lv_icmp_ge (tgt := 91) hx hb dX5_seen_51 (by decide) (fun hc => ?_) (fun hc => ?_)
        · replace hw := And.left hw hc
          refine lv_iload hx hb dX5_seen_91 (lv_at hl 3 rfl) ?_
          exact hret _ _ _ _ _ hP hS hw dX5_seen_93
        · replace hw := And.right hw hc
          refine lv_iload_n hx hb dX5_seen_54 rfl (lv_at hl 2 rfl) ?_
          refine lv_iload hx hb dX5_seen_55 (lv_at hl 4 rfl) ?_
          refine lv_iconst (v := (1 : Int32)) hx hb dX5_seen_57 (by decide) ?_
          refine lv_isub hx hb dX5_seen_58 ?_
          refine lv_ishr hx hb dX5_seen_59 ?_
          refine lv_iconst (v := (1 : Int32)) hx hb dX5_seen_60 (by decide) ?_
          refine lv_iand hx hb dX5_seen_61 ?_
          refine lv_iconst (v := (1 : Int32)) hx hb dX5_seen_62 (by decide) ?_
          refine lv_icmp_ne (tgt := 85) hx hb dX5_seen_63 (by decide) (fun hc => ?_) (fun hc => ?_)
          · replace hw := And.right hw hc
            refine lv_iinc (v := v5 + (1 : Int32)) (lv' := [(5, .int (v5 + (1 : Int32))), (0, .ref (h 1)), (1, .int v1), (3, .int v3), (4, .int v4)]) hx hb dX5_seen_85 hl (k := 4) rfl rfl (by decide) rfl (fun ls hl => ?_)
            refine lv_goto (tgt := 48) hx hb dX5_seen_88 (by decide) ?_
            exact i48 v4 (v5 + (1 : Int32)) _ _ _ (lv_sub hl [1, 2, 3, 4, 0] rfl) hP hS hw
          · replace hw := And.left hw hc
            refine lv_iload hx hb dX5_seen_66 (lv_at hl 3 rfl) ?_
            refine lv_aload_n hx hb dX5_seen_68 rfl (lv_at hl 0 rfl) ?_
            refine va_get (D := D) (ci := 5) (v := .ref (h 8)) (C := RX5) (T := TX5) (N := 10) hx hb hts inX5 hown hK hP 1 wX_1 rfl 4 (by decide) f0 (fun _ h9 => h9) rfl dX5_seen_69 ?_
            refine va_get (D := D) (ci := 4) (v := .ref (h 12)) (C := RX4) (T := TX4) (N := 5) hx hb hts inX4 hown hK hP 8 wX_8 rfl 4 (by decide) f2 (fun _ h9 => h9) rfl dX5_seen_72 ?_
            refine lv_iload_n hx hb dX5_seen_75 rfl (lv_at hl 1 rfl) ?_
            refine lv_iconst (v := (4 : Int32)) hx hb dX5_seen_76 (by decide) ?_
            refine lv_imul hx hb dX5_seen_77 ?_
            refine lv_iload hx hb dX5_seen_78 (lv_at hl 4 rfl) ?_
            refine lv_iadd hx hb dX5_seen_80 ?_
            obtain ⟨hi, hw⟩ := hw
            refine va_iald hx hb hK hP 12 0 wX_12 rfl hi dX5_seen_81 ?_
            refine lv_iadd hx hb dX5_seen_82 ?_
            refine lv_istore (lv' := [(4, .int (v4 + (S 12 ((v1 * (4 : Int32)) + v5).toNatClampNeg))), (0, .ref (h 1)), (1, .int v1), (3, .int v3), (5, .int v5)]) hx hb dX5_seen_83 hl (by decide) rfl (fun ls hl => ?_)
            refine lv_iinc (v := v5 + (1 : Int32)) (lv' := [(5, .int (v5 + (1 : Int32))), (4, .int (v4 + (S 12 ((v1 * (4 : Int32)) + v5).toNatClampNeg))), (0, .ref (h 1)), (1, .int v1), (3, .int v3)]) hx hb dX5_seen_85 hl (k := 4) rfl rfl (by decide) rfl (fun ls hl => ?_)
            refine lv_goto (tgt := 48) hx hb dX5_seen_88 (by decide) ?_
            exact i48 (v4 + (S 12 ((v1 * (4 : Int32)) + v5).toNatClampNeg)) (v5 + (1 : Int32)) _ _ _ (lv_sub hl [2, 3, 4, 1, 0] rfl) hP hS hw
    intro v3 H locs ls hl hP hS hw
    unfold kX5_seen_b32 at hw
    refine lv_aload_n hx hb dX5_seen_32 rfl (lv_at hl 0 rfl) ?_
    refine va_get (D := D) (ci := 5) (v := .ref (h 8)) (C := RX5) (T := TX5) (N := 10) hx hb hts inX5 hown hK hP 1 wX_1 rfl 4 (by decide) f0 (fun _ h9 => h9) rfl dX5_seen_33 ?_
    refine va_get (D := D) (ci := 4) (v := .ref (h 12)) (C := RX4) (T := TX4) (N := 5) hx hb hts inX4 hown hK hP 8 wX_8 rfl 4 (by decide) f2 (fun _ h9 => h9) rfl dX5_seen_36 ?_
    refine lv_iload_n hx hb dX5_seen_39 rfl (lv_at hl 1 rfl) ?_
    refine lv_iconst (v := (4 : Int32)) hx hb dX5_seen_40 (by decide) ?_
    refine lv_imul hx hb dX5_seen_41 ?_
    obtain ⟨hi, hw⟩ := hw
    refine va_iald hx hb hK hP 12 0 wX_12 rfl hi dX5_seen_42 ?_
    refine lv_istore (lv' := [(4, .int (S 12 (v1 * (4 : Int32)).toNatClampNeg)), (0, .ref (h 1)), (1, .int v1), (3, .int v3)]) hx hb dX5_seen_43 hl (by decide) rfl (fun ls hl => ?_)
    refine lv_iconst (v := (1 : Int32)) hx hb dX5_seen_45 (by decide) ?_
    refine lv_istore (lv' := [(5, .int (1 : Int32)), (4, .int (S 12 (v1 * (4 : Int32)).toNatClampNeg)), (0, .ref (h 1)), (1, .int v1), (3, .int v3)]) hx hb dX5_seen_46 hl (by decide) rfl (fun ls hl => ?_)
    obtain ⟨n48, hw⟩ := hw
    exact b48 v3 n48 (S 12 (v1 * (4 : Int32)).toNatClampNeg) (1 : Int32) _ _ _ (lv_sub hl [2, 3, 4, 1, 0] rfl) hP hS hw
  unfold kX5_seen at hw
  refine lv_aload_n hx hb dX5_seen_0 rfl (lv_at hl 0 rfl) ?_
  refine va_get (D := D) (ci := 5) (v := .ref (h 3)) (C := RX5) (T := TX5) (N := 10) hx hb hts inX5 hown hK hP 1 wX_1 rfl 3 (by decide) f4 (fun _ h9 => h9) rfl dX5_seen_1 ?_
  refine va_get (D := D) (ci := 0) (v := .ref (h 7)) (C := RX0) (T := TX0) (N := 4) hx hb hts inX0 hown hK hP 3 wX_3 rfl 3 (by decide) f5 (fun _ h9 => h9) rfl dX5_seen_4 ?_
  refine lv_iload_n hx hb dX5_seen_7 rfl (lv_at hl 2 rfl) ?_
  obtain ⟨hi, hw⟩ := hw
  refine va_iald hx hb hK hP 7 0 wX_7 rfl hi dX5_seen_8 ?_
  refine lv_istore_n (lv' := [(3, .int (S 7 v2.toNatClampNeg)), (0, .ref (h 1)), (1, .int v1), (2, .int v2)]) hx hb dX5_seen_9 rfl hl (by decide) rfl (fun ls hl => ?_)
  refine lv_aload_n hx hb dX5_seen_10 rfl (lv_at hl 1 rfl) ?_
  refine va_get (D := D) (ci := 5) (v := .ref (h 8)) (C := RX5) (T := TX5) (N := 10) hx hb hts inX5 hown hK hP 1 wX_1 rfl 4 (by decide) f0 (fun _ h9 => h9) rfl dX5_seen_11 ?_
  refine va_get (D := D) (ci := 4) (v := .ref (h 11)) (C := RX4) (T := TX4) (N := 5) hx hb hts inX4 hown hK hP 8 wX_8 rfl 3 (by decide) f7 (fun _ h9 => h9) rfl dX5_seen_14 ?_
  refine lv_iload_n hx hb dX5_seen_17 rfl (lv_at hl 2 rfl) ?_
  obtain ⟨hi, hw⟩ := hw
  refine va_iald hx hb hK hP 11 0 wX_11 rfl hi dX5_seen_18 ?_
  refine lv_iconst (v := (1 : Int32)) hx hb dX5_seen_19 (by decide) ?_
  refine lv_icmp_ne (tgt := 32) hx hb dX5_seen_20 (by decide) (fun hc => ?_) (fun hc => ?_)
  · replace hw := And.right hw hc
    exact b32 (S 7 v2.toNatClampNeg) _ _ _ (lv_sub hl [1, 2, 0] rfl) hP hS hw
  · replace hw := And.left hw hc
    refine lv_iload_n hx hb dX5_seen_23 rfl (lv_at hl 0 rfl) ?_
    refine lv_bipush (v := (8 : Int32)) hx hb dX5_seen_24 (by decide) ?_
    refine lv_iand hx hb dX5_seen_26 ?_
    refine lv_if_ne (tgt := 32) hx hb dX5_seen_27 (by decide) (fun hc => ?_) (fun hc => ?_)
    · replace hw := And.right hw hc
      exact b32 (S 7 v2.toNatClampNeg) _ _ _ (lv_sub hl [1, 2, 0] rfl) hP hS hw
    · replace hw := And.left hw hc
      refine lv_iconst (v := (0 : Int32)) hx hb dX5_seen_30 (by decide) ?_
      exact hret _ _ _ _ _ hP hS hw dX5_seen_31
abbrev rX5_sworn : Room := { frames := 1, cells := 0, slots := 0, locals := 25 }
set_option maxHeartbeats 4000000 in
set_option maxRecDepth 100000 in
theorem mX5_sworn (l : Launch) (D : va_G) (h : Nat → Nat) (cI cJ : ClassId) (t0 : Nat) (hh : xdis 53 h) (S : SX) (L : LX) (v1 : Int32) (v2 : Int32) (post : Int32 → Prop) (hw : kX5_sworn S L v1 v2 post) : Met l yX5_sworn wsX5_sworn rX5_sworn (xPre D (wX h cI cJ) (xE D h cI cJ t0) S L [.ref (h 1), .int v1, .int v2]) (va_Qi (fun (r : Int32) (u : SX × LX) => post r ∧ u.1 = S ∧ u.2 = L) (xB D (wX h cI cJ)) (xA 53 h)) 0 0 (xA 53 h) := by
  refine Met.ofW (cc := cX5_sworn) (maxL := 5) (ret := (some .int)) (by decide) rfl ?_
  intro p e s m args below meth c s₁ B hml hv
  obtain ⟨hargs, hP, hE⟩ := hv
  have hx := B.exec
  have hb := B.bytes
  have hr := B.returns
  have hlocks := B.notSynchronized
  have hts := atoms_spec (ws := wsX5_sworn) B.pre
  have hown : s.vm.findClass RX5 = some m.cls := findClass_of_methodNamed B.named
  have hS : va_S (xA 53 h) s.heap s.heap [] := va_S.rf
  have hD : ∀ (S : SX) (L : LX), va_D (xA 53 h) (wX h cI cJ S L) := fun S L => wX_D hh cI cJ S L
  have hK := hE.1
  have hst : xSt (xA 53 h) (xE D h cI cJ t0) := xE_st D h cI cJ t0
  have f0 := hts (.fieldLink RX5 23 "BookOfWills$World" "laws" "LBookOfWills$Laws;") (by decide +kernel)
  have inX5 : ∀ w ∈ u_ws RX5 TX5 10, w ∈ wsX5_sworn := fun w hw9 => List.mem_cons_of_mem _ (List.mem_append_left _ (List.mem_append_left _ (List.mem_append_right _ hw9)))
  have f2 := hts (.fieldLink RX5 79 "BookOfWills$Laws" "line" "[I") (by decide +kernel)
  have inX0 : ∀ w ∈ u_ws RX0 TX0 4, w ∈ wsX5_sworn := fun w hw9 => List.mem_cons_of_mem _ (List.mem_append_left _ (List.mem_append_right _ hw9))
  have f4 := hts (.fieldLink RX5 82 "BookOfWills$Laws" "keen" "[I") (by decide +kernel)
  have hl := lv_entry ([.ref (h 1), .int v1, .int v2]) (n := 5) (Nat.le_of_ble_eq_true rfl)
  have hen : entryFrame m args 5 = F0 m 0 ((lg_sl ([.ref (h 1), .int v1, .int v2]) ++ List.replicate (5 - (lg_sl ([.ref (h 1), .int v1, .int v2])).length) Slot.unset).toArray) [] := by rw [hargs]; exact lg_entry_eq m _ _
  rw [hen]
  generalize (lg_sl ([.ref (h 1), .int v1, .int v2]) ++ List.replicate (5 - (lg_sl ([.ref (h 1), .int v1, .int v2])).length) Slot.unset).toArray = ls at hl ⊢
  have hl : lv_has ls 5 [(0, .ref (h 1)), (1, .int v1), (2, .int v2)] := hl
  change W p l e rX5_sworn s m args below meth c s.heap [] 0 0 (MQ below (va_Qi (fun (r : Int32) (u : SX × LX) => post r ∧ u.1 = S ∧ u.2 = L) (xB D (wX h cI cJ)) (xA 53 h)) args s 0 0 (xA 53 h)) (F0 m 0 ls [])
  have hret : ∀ (r : Int32) (H : Heap) (locs : List Loc) (ls : Array Slot) (pc : Nat), va_P D vwCl (wX h cI cJ S L) H → va_S (xA 53 h) s.heap H locs → post r → decode cX5_sworn pc = .ok (.ireturn, 1) → W p l e rX5_sworn s m args below meth c H locs 0 0 (MQ below (va_Qi (fun (r : Int32) (u : SX × LX) => post r ∧ u.1 = S ∧ u.2 = L) (xB D (wX h cI cJ)) (xA 53 h)) args s 0 0 (xA 53 h)) (F0 m pc ls [.int r]) := fun r H locs ls pc hP hS hw hd => W.iret hx hb hr (fun t ht hW => ⟨⟨r, (S, L), rfl, ⟨hw, rfl, rfl⟩, show va_P D vwCl (wX h cI cJ S L) t.heap by rw [ht]; exact hP⟩, hS.F ht⟩) hS.2.2 hd
  generalize MQ below (va_Qi (fun (r : Int32) (u : SX × LX) => post r ∧ u.1 = S ∧ u.2 = L) (xB D (wX h cI cJ)) (xA 53 h)) args s 0 0 (xA 53 h) = Q at hret ⊢
  unfold kX5_sworn at hw
  refine lv_aload_n hx hb dX5_sworn_0 rfl (lv_at hl 0 rfl) ?_
  refine lv_iload_n hx hb dX5_sworn_1 rfl (lv_at hl 1 rfl) ?_
  refine lv_iload_n hx hb dX5_sworn_2 rfl (lv_at hl 2 rfl) ?_
  refine xVi0 (As := [.int v1, .int v2]) (rest := []) hst hE hP hS ⟨hx, hb, hml, hown, hts⟩ (va_recv hK hP (ci := 5) (q := (RX5, TX5, 10)) rfl wX_1) (mX5_seen l D h cI cJ t0 hh S L v1 v2 _ hw) (cwV 2 hts gX5_sworn_X5_seen rfl rfl rfl (by decide +kernel) ⟨Nat.le_of_ble_eq_true rfl, Nat.le_of_ble_eq_true rfl⟩) rfl hl.1 rfl (Nat.le_of_ble_eq_true rfl) dX5_sworn_3 ⟨Nat.zero_le _, Nat.zero_le _⟩ (fun r3 H locs hw hP hS => ?_)
  refine lv_istore_n (lv' := [(3, .int r3), (0, .ref (h 1)), (1, .int v1), (2, .int v2)]) hx hb dX5_sworn_6 rfl hl (by decide) rfl (fun ls hl => ?_)
  refine lv_aload_n hx hb dX5_sworn_7 rfl (lv_at hl 1 rfl) ?_
  refine va_get (D := D) (ci := 5) (v := .ref (h 3)) (C := RX5) (T := TX5) (N := 10) hx hb hts inX5 hown hK hP 1 wX_1 rfl 3 (by decide) f0 (fun _ h9 => h9) rfl dX5_sworn_8 ?_
  refine va_get (D := D) (ci := 0) (v := .ref (h 5)) (C := RX0) (T := TX0) (N := 4) hx hb hts inX0 hown hK hP 3 wX_3 rfl 1 (by decide) f2 (fun _ h9 => h9) rfl dX5_sworn_11 ?_
  refine lv_iload_n hx hb dX5_sworn_14 rfl (lv_at hl 3 rfl) ?_
  obtain ⟨hi, hw⟩ := hw
  refine va_iald hx hb hK hP 5 0 wX_5 rfl hi dX5_sworn_15 ?_
  refine lv_istore (lv' := [(4, .int (S 5 v2.toNatClampNeg)), (3, .int r3), (0, .ref (h 1)), (1, .int v1), (2, .int v2)]) hx hb dX5_sworn_16 hl (by decide) rfl (fun ls hl => ?_)
  refine lv_iload hx hb dX5_sworn_18 (lv_at hl 0 rfl) ?_
  refine lv_if_le (tgt := 50) hx hb dX5_sworn_20 (by decide) (fun hc => ?_) (fun hc => ?_)
  · replace hw := And.left hw hc
    refine lv_iload_n hx hb dX5_sworn_50 rfl (lv_at hl 1 rfl) ?_
    exact hret _ _ _ _ _ hP hS hw dX5_sworn_51
  · replace hw := And.right hw hc
    refine lv_iload_n hx hb dX5_sworn_23 rfl (lv_at hl 1 rfl) ?_
    refine lv_iload hx hb dX5_sworn_24 (lv_at hl 0 rfl) ?_
    refine lv_icmp_le (tgt := 50) hx hb dX5_sworn_26 (by decide) (fun hc => ?_) (fun hc => ?_)
    · replace hw := And.left hw hc
      refine lv_iload_n hx hb dX5_sworn_50 rfl (lv_at hl 1 rfl) ?_
      exact hret _ _ _ _ _ hP hS hw dX5_sworn_51
    · replace hw := And.right hw hc
      refine lv_iload_n hx hb dX5_sworn_29 rfl (lv_at hl 1 rfl) ?_
      refine lv_iload hx hb dX5_sworn_30 (lv_at hl 0 rfl) ?_
      refine lv_isub hx hb dX5_sworn_32 ?_
      refine lv_aload_n hx hb dX5_sworn_33 rfl (lv_at hl 2 rfl) ?_
      refine va_get (D := D) (ci := 5) (v := .ref (h 3)) (C := RX5) (T := TX5) (N := 10) hx hb hts inX5 hown hK hP 1 wX_1 rfl 3 (by decide) f0 (fun _ h9 => h9) rfl dX5_sworn_34 ?_
      refine va_get (D := D) (ci := 0) (v := .ref (h 6)) (C := RX0) (T := TX0) (N := 4) hx hb hts inX0 hown hK hP 3 wX_3 rfl 2 (by decide) f4 (fun _ h9 => h9) rfl dX5_sworn_37 ?_
      refine lv_iload_n hx hb dX5_sworn_40 rfl (lv_at hl 4 rfl) ?_
      obtain ⟨hi, hw⟩ := hw
      refine va_iald hx hb hK hP 6 0 wX_6 rfl hi dX5_sworn_41 ?_
      refine lv_icmp_gt (tgt := 50) hx hb dX5_sworn_42 (by decide) (fun hc => ?_) (fun hc => ?_)
      · replace hw := And.left hw hc
        refine lv_iload_n hx hb dX5_sworn_50 rfl (lv_at hl 1 rfl) ?_
        exact hret _ _ _ _ _ hP hS hw dX5_sworn_51
      · replace hw := And.right hw hc
        refine lv_iload hx hb dX5_sworn_45 (lv_at hl 0 rfl) ?_
        refine lv_goto (tgt := 51) hx hb dX5_sworn_47 (by decide) ?_
        exact hret _ _ _ _ _ hP hS hw dX5_sworn_51
abbrev rX5_isInBook : Room := { frames := 2, cells := 0, slots := 0, locals := 49 }
set_option maxHeartbeats 4000000 in
set_option maxRecDepth 100000 in
theorem mX5_isInBook (l : Launch) (D : va_G) (h : Nat → Nat) (cI cJ : ClassId) (t0 : Nat) (hh : xdis 53 h) (S : SX) (L : LX) (v1 : Int32) (v2 : Int32) (post : Int32 → Prop) (hw : kX5_isInBook S L v1 v2 post) : Met l yX5_isInBook wsX5_isInBook rX5_isInBook (xPre D (wX h cI cJ) (xE D h cI cJ t0) S L [.ref (h 1), .int v1, .int v2]) (va_Qi (fun (r : Int32) (u : SX × LX) => post r ∧ u.1 = S ∧ u.2 = L) (xB D (wX h cI cJ)) (xA 53 h)) 0 0 (xA 53 h) := by
  refine Met.ofW (cc := cX5_isInBook) (maxL := 4) (ret := (some .boolean)) (by decide) rfl ?_
  intro p e s m args below meth c s₁ B hml hv
  obtain ⟨hargs, hP, hE⟩ := hv
  have hx := B.exec
  have hb := B.bytes
  have hr := B.returns
  have hlocks := B.notSynchronized
  have hts := atoms_spec (ws := wsX5_isInBook) B.pre
  have hown : s.vm.findClass RX5 = some m.cls := findClass_of_methodNamed B.named
  have hS : va_S (xA 53 h) s.heap s.heap [] := va_S.rf
  have hD : ∀ (S : SX) (L : LX), va_D (xA 53 h) (wX h cI cJ S L) := fun S L => wX_D hh cI cJ S L
  have hK := hE.1
  have hst : xSt (xA 53 h) (xE D h cI cJ t0) := xE_st D h cI cJ t0
  have f0 := hts (.fieldLink RX5 23 "BookOfWills$World" "laws" "LBookOfWills$Laws;") (by decide +kernel)
  have inX5 : ∀ w ∈ u_ws RX5 TX5 10, w ∈ wsX5_isInBook := fun w hw9 => List.mem_cons_of_mem _ (List.mem_append_left _ (List.mem_append_left _ (List.mem_append_right _ hw9)))
  have f2 := hts (.fieldLink RX5 88 "BookOfWills$Laws" "floor" "[I") (by decide +kernel)
  have inX0 : ∀ w ∈ u_ws RX0 TX0 4, w ∈ wsX5_isInBook := fun w hw9 => List.mem_cons_of_mem _ (List.mem_append_left _ (List.mem_append_right _ hw9))
  have hl := lv_entry ([.ref (h 1), .int v1, .int v2]) (n := 4) (Nat.le_of_ble_eq_true rfl)
  have hen : entryFrame m args 4 = F0 m 0 ((lg_sl ([.ref (h 1), .int v1, .int v2]) ++ List.replicate (4 - (lg_sl ([.ref (h 1), .int v1, .int v2])).length) Slot.unset).toArray) [] := by rw [hargs]; exact lg_entry_eq m _ _
  rw [hen]
  generalize (lg_sl ([.ref (h 1), .int v1, .int v2]) ++ List.replicate (4 - (lg_sl ([.ref (h 1), .int v1, .int v2])).length) Slot.unset).toArray = ls at hl ⊢
  have hl : lv_has ls 4 [(0, .ref (h 1)), (1, .int v1), (2, .int v2)] := hl
  change W p l e rX5_isInBook s m args below meth c s.heap [] 0 0 (MQ below (va_Qi (fun (r : Int32) (u : SX × LX) => post r ∧ u.1 = S ∧ u.2 = L) (xB D (wX h cI cJ)) (xA 53 h)) args s 0 0 (xA 53 h)) (F0 m 0 ls [])
  have hret : ∀ (r : Int32) (H : Heap) (locs : List Loc) (ls : Array Slot) (pc : Nat), va_P D vwCl (wX h cI cJ S L) H → va_S (xA 53 h) s.heap H locs → post r → narrow .boolean (.int r) = .int r → decode cX5_isInBook pc = .ok (.ireturn, 1) → W p l e rX5_isInBook s m args below meth c H locs 0 0 (MQ below (va_Qi (fun (r : Int32) (u : SX × LX) => post r ∧ u.1 = S ∧ u.2 = L) (xB D (wX h cI cJ)) (xA 53 h)) args s 0 0 (xA 53 h)) (F0 m pc ls [.int r]) := fun r H locs ls pc hP hS hw hna hd => W.zret hx hb hr hna (fun t ht hW => ⟨⟨r, (S, L), rfl, ⟨hw, rfl, rfl⟩, show va_P D vwCl (wX h cI cJ S L) t.heap by rw [ht]; exact hP⟩, hS.F ht⟩) hS.2.2 hd
  generalize MQ below (va_Qi (fun (r : Int32) (u : SX × LX) => post r ∧ u.1 = S ∧ u.2 = L) (xB D (wX h cI cJ)) (xA 53 h)) args s 0 0 (xA 53 h) = Q at hret ⊢
  unfold kX5_isInBook at hw
  refine lv_aload_n hx hb dX5_isInBook_0 rfl (lv_at hl 0 rfl) ?_
  refine lv_iload_n hx hb dX5_isInBook_1 rfl (lv_at hl 1 rfl) ?_
  refine lv_iload_n hx hb dX5_isInBook_2 rfl (lv_at hl 2 rfl) ?_
  refine xVi0 (As := [.int v1, .int v2]) (rest := []) hst hE hP hS ⟨hx, hb, hml, hown, hts⟩ (va_recv hK hP (ci := 5) (q := (RX5, TX5, 10)) rfl wX_1) (mX5_sworn l D h cI cJ t0 hh S L v1 v2 _ hw) (cwV 2 hts gX5_isInBook_X5_sworn rfl rfl rfl (by decide +kernel) ⟨Nat.le_of_ble_eq_true rfl, Nat.le_of_ble_eq_true rfl⟩) rfl hl.1 rfl (Nat.le_of_ble_eq_true rfl) dX5_isInBook_3 ⟨Nat.zero_le _, Nat.zero_le _⟩ (fun r3 H locs hw hP hS => ?_)
  refine lv_istore_n (lv' := [(3, .int r3), (0, .ref (h 1)), (1, .int v1), (2, .int v2)]) hx hb dX5_isInBook_6 rfl hl (by decide) rfl (fun ls hl => ?_)
  refine lv_iload_n hx hb dX5_isInBook_7 rfl (lv_at hl 0 rfl) ?_
  refine lv_if_le (tgt := 28) hx hb dX5_isInBook_8 (by decide) (fun hc => ?_) (fun hc => ?_)
  · replace hw := And.left hw hc
    refine lv_iconst (v := (0 : Int32)) hx hb dX5_isInBook_28 (by decide) ?_
    exact hret _ _ _ _ _ hP hS hw rfl dX5_isInBook_29
  · replace hw := And.right hw hc
    refine lv_iload_n hx hb dX5_isInBook_11 rfl (lv_at hl 0 rfl) ?_
    refine lv_aload_n hx hb dX5_isInBook_12 rfl (lv_at hl 1 rfl) ?_
    refine va_get (D := D) (ci := 5) (v := .ref (h 3)) (C := RX5) (T := TX5) (N := 10) hx hb hts inX5 hown hK hP 1 wX_1 rfl 3 (by decide) f0 (fun _ h9 => h9) rfl dX5_isInBook_13 ?_
    refine va_get (D := D) (ci := 0) (v := .ref (h 4)) (C := RX0) (T := TX0) (N := 4) hx hb hts inX0 hown hK hP 3 wX_3 rfl 0 (by decide) f2 (fun _ h9 => h9) rfl dX5_isInBook_16 ?_
    refine lv_iload_n hx hb dX5_isInBook_19 rfl (lv_at hl 3 rfl) ?_
    obtain ⟨hi, hw⟩ := hw
    refine va_iald hx hb hK hP 4 0 wX_4 rfl hi dX5_isInBook_20 ?_
    refine lv_icmp_lt (tgt := 28) hx hb dX5_isInBook_21 (by decide) (fun hc => ?_) (fun hc => ?_)
    · replace hw := And.left hw hc
      refine lv_iconst (v := (0 : Int32)) hx hb dX5_isInBook_28 (by decide) ?_
      exact hret _ _ _ _ _ hP hS hw rfl dX5_isInBook_29
    · replace hw := And.right hw hc
      refine lv_iconst (v := (1 : Int32)) hx hb dX5_isInBook_24 (by decide) ?_
      refine lv_goto (tgt := 29) hx hb dX5_isInBook_25 (by decide) ?_
      exact hret _ _ _ _ _ hP hS hw rfl dX5_isInBook_29
abbrev rX5_isRich : Room := { frames := 2, cells := 0, slots := 0, locals := 49 }
set_option maxHeartbeats 4000000 in
set_option maxRecDepth 100000 in
theorem mX5_isRich (l : Launch) (D : va_G) (h : Nat → Nat) (cI cJ : ClassId) (t0 : Nat) (hh : xdis 53 h) (S : SX) (L : LX) (v1 : Int32) (v2 : Int32) (post : Int32 → Prop) (hw : kX5_isRich S L v1 v2 post) : Met l yX5_isRich wsX5_isRich rX5_isRich (xPre D (wX h cI cJ) (xE D h cI cJ t0) S L [.ref (h 1), .int v1, .int v2]) (va_Qi (fun (r : Int32) (u : SX × LX) => post r ∧ u.1 = S ∧ u.2 = L) (xB D (wX h cI cJ)) (xA 53 h)) 0 0 (xA 53 h) := by
  refine Met.ofW (cc := cX5_isRich) (maxL := 3) (ret := (some .boolean)) (by decide) rfl ?_
  intro p e s m args below meth c s₁ B hml hv
  obtain ⟨hargs, hP, hE⟩ := hv
  have hx := B.exec
  have hb := B.bytes
  have hr := B.returns
  have hlocks := B.notSynchronized
  have hts := atoms_spec (ws := wsX5_isRich) B.pre
  have hown : s.vm.findClass RX5 = some m.cls := findClass_of_methodNamed B.named
  have hS : va_S (xA 53 h) s.heap s.heap [] := va_S.rf
  have hD : ∀ (S : SX) (L : LX), va_D (xA 53 h) (wX h cI cJ S L) := fun S L => wX_D hh cI cJ S L
  have hK := hE.1
  have hst : xSt (xA 53 h) (xE D h cI cJ t0) := xE_st D h cI cJ t0
  have f0 := hts (.fieldLink RX5 16 "BookOfWills$World" "riches" "I") (by decide +kernel)
  have inX5 : ∀ w ∈ u_ws RX5 TX5 10, w ∈ wsX5_isRich := fun w hw9 => List.mem_cons_of_mem _ (List.mem_append_left _ (List.mem_append_left _ (List.mem_append_right _ hw9)))
  have hl := lv_entry ([.ref (h 1), .int v1, .int v2]) (n := 3) (Nat.le_of_ble_eq_true rfl)
  have hen : entryFrame m args 3 = F0 m 0 ((lg_sl ([.ref (h 1), .int v1, .int v2]) ++ List.replicate (3 - (lg_sl ([.ref (h 1), .int v1, .int v2])).length) Slot.unset).toArray) [] := by rw [hargs]; exact lg_entry_eq m _ _
  rw [hen]
  generalize (lg_sl ([.ref (h 1), .int v1, .int v2]) ++ List.replicate (3 - (lg_sl ([.ref (h 1), .int v1, .int v2])).length) Slot.unset).toArray = ls at hl ⊢
  have hl : lv_has ls 3 [(0, .ref (h 1)), (1, .int v1), (2, .int v2)] := hl
  change W p l e rX5_isRich s m args below meth c s.heap [] 0 0 (MQ below (va_Qi (fun (r : Int32) (u : SX × LX) => post r ∧ u.1 = S ∧ u.2 = L) (xB D (wX h cI cJ)) (xA 53 h)) args s 0 0 (xA 53 h)) (F0 m 0 ls [])
  have hret : ∀ (r : Int32) (H : Heap) (locs : List Loc) (ls : Array Slot) (pc : Nat), va_P D vwCl (wX h cI cJ S L) H → va_S (xA 53 h) s.heap H locs → post r → narrow .boolean (.int r) = .int r → decode cX5_isRich pc = .ok (.ireturn, 1) → W p l e rX5_isRich s m args below meth c H locs 0 0 (MQ below (va_Qi (fun (r : Int32) (u : SX × LX) => post r ∧ u.1 = S ∧ u.2 = L) (xB D (wX h cI cJ)) (xA 53 h)) args s 0 0 (xA 53 h)) (F0 m pc ls [.int r]) := fun r H locs ls pc hP hS hw hna hd => W.zret hx hb hr hna (fun t ht hW => ⟨⟨r, (S, L), rfl, ⟨hw, rfl, rfl⟩, show va_P D vwCl (wX h cI cJ S L) t.heap by rw [ht]; exact hP⟩, hS.F ht⟩) hS.2.2 hd
  generalize MQ below (va_Qi (fun (r : Int32) (u : SX × LX) => post r ∧ u.1 = S ∧ u.2 = L) (xB D (wX h cI cJ)) (xA 53 h)) args s 0 0 (xA 53 h) = Q at hret ⊢
  unfold kX5_isRich at hw
  refine lv_aload_n hx hb dX5_isRich_0 rfl (lv_at hl 0 rfl) ?_
  refine lv_iload_n hx hb dX5_isRich_1 rfl (lv_at hl 1 rfl) ?_
  refine lv_iload_n hx hb dX5_isRich_2 rfl (lv_at hl 2 rfl) ?_
  refine xVi0 (As := [.int v1, .int v2]) (rest := []) hst hE hP hS ⟨hx, hb, hml, hown, hts⟩ (va_recv hK hP (ci := 5) (q := (RX5, TX5, 10)) rfl wX_1) (mX5_sworn l D h cI cJ t0 hh S L v1 v2 _ hw) (cwV 2 hts gX5_isRich_X5_sworn rfl rfl rfl (by decide +kernel) ⟨Nat.le_of_ble_eq_true rfl, Nat.le_of_ble_eq_true rfl⟩) rfl hl.1 rfl (Nat.le_of_ble_eq_true rfl) dX5_isRich_3 ⟨Nat.zero_le _, Nat.zero_le _⟩ (fun r3 H locs hw hP hS => ?_)
  refine lv_aload_n hx hb dX5_isRich_6 rfl (lv_at hl 0 rfl) ?_
  refine va_get (D := D) (ci := 5) (v := .int (S 1 0)) (C := RX5) (T := TX5) (N := 10) hx hb hts inX5 hown hK hP 1 wX_1 rfl 1 (by decide) f0 (fun _ h9 => h9) rfl dX5_isRich_7 ?_
  refine lv_icmp_lt (tgt := 17) hx hb dX5_isRich_10 (by decide) (fun hc => ?_) (fun hc => ?_)
  · replace hw := And.left hw hc
    refine lv_iconst (v := (0 : Int32)) hx hb dX5_isRich_17 (by decide) ?_
    exact hret _ _ _ _ _ hP hS hw rfl dX5_isRich_18
  · replace hw := And.right hw hc
    refine lv_iconst (v := (1 : Int32)) hx hb dX5_isRich_13 (by decide) ?_
    refine lv_goto (tgt := 18) hx hb dX5_isRich_14 (by decide) ?_
    exact hret _ _ _ _ _ hP hS hw rfl dX5_isRich_18
abbrev rX5_weight : Room := { frames := 3, cells := 0, slots := 0, locals := 71 }
set_option maxHeartbeats 4000000 in
set_option maxRecDepth 100000 in
theorem mX5_weight (l : Launch) (D : va_G) (h : Nat → Nat) (cI cJ : ClassId) (t0 : Nat) (hh : xdis 53 h) (S : SX) (L : LX) (v1 : Int32) (v2 : Int32) (post : Int32 → Prop) (hw : kX5_weight S L v1 v2 post) : Met l yX5_weight wsX5_weight rX5_weight (xPre D (wX h cI cJ) (xE D h cI cJ t0) S L [.ref (h 1), .int v1, .int v2]) (va_Qi (fun (r : Int32) (u : SX × LX) => post r ∧ u.1 = S ∧ u.2 = L) (xB D (wX h cI cJ)) (xA 53 h)) 0 0 (xA 53 h) := by
  refine Met.ofW (cc := cX5_weight) (maxL := 3) (ret := (some .int)) (by decide) rfl ?_
  intro p e s m args below meth c s₁ B hml hv
  obtain ⟨hargs, hP, hE⟩ := hv
  have hx := B.exec
  have hb := B.bytes
  have hr := B.returns
  have hlocks := B.notSynchronized
  have hts := atoms_spec (ws := wsX5_weight) B.pre
  have hown : s.vm.findClass RX5 = some m.cls := findClass_of_methodNamed B.named
  have hS : va_S (xA 53 h) s.heap s.heap [] := va_S.rf
  have hD : ∀ (S : SX) (L : LX), va_D (xA 53 h) (wX h cI cJ S L) := fun S L => wX_D hh cI cJ S L
  have hK := hE.1
  have hst : xSt (xA 53 h) (xE D h cI cJ t0) := xE_st D h cI cJ t0
  have f0 := hts (.fieldLink RX5 9 "BookOfWills$World" "lives" "[I") (by decide +kernel)
  have inX5 : ∀ w ∈ u_ws RX5 TX5 10, w ∈ wsX5_weight := fun w hw9 => List.mem_cons_of_mem _ (List.mem_append_left _ (List.mem_append_left _ (List.mem_append_right _ hw9)))
  have f2 := hts (.fieldLink RX5 30 "BookOfWills$World" "wills" "LBookOfWills$Wills;") (by decide +kernel)
  have f3 := hts (.fieldLink RX5 95 "BookOfWills$Wills" "age" "[I") (by decide +kernel)
  have inX4 : ∀ w ∈ u_ws RX4 TX4 5, w ∈ wsX5_weight := fun w hw9 => List.mem_cons_of_mem _ (List.mem_append_left _ (List.mem_append_right _ hw9))
  have f5 := hts (.fieldLink RX5 53 "BookOfWills$World" "more" "I") (by decide +kernel)
  have hl := lv_entry ([.ref (h 1), .int v1, .int v2]) (n := 3) (Nat.le_of_ble_eq_true rfl)
  have hen : entryFrame m args 3 = F0 m 0 ((lg_sl ([.ref (h 1), .int v1, .int v2]) ++ List.replicate (3 - (lg_sl ([.ref (h 1), .int v1, .int v2])).length) Slot.unset).toArray) [] := by rw [hargs]; exact lg_entry_eq m _ _
  rw [hen]
  generalize (lg_sl ([.ref (h 1), .int v1, .int v2]) ++ List.replicate (3 - (lg_sl ([.ref (h 1), .int v1, .int v2])).length) Slot.unset).toArray = ls at hl ⊢
  have hl : lv_has ls 3 [(0, .ref (h 1)), (1, .int v1), (2, .int v2)] := hl
  change W p l e rX5_weight s m args below meth c s.heap [] 0 0 (MQ below (va_Qi (fun (r : Int32) (u : SX × LX) => post r ∧ u.1 = S ∧ u.2 = L) (xB D (wX h cI cJ)) (xA 53 h)) args s 0 0 (xA 53 h)) (F0 m 0 ls [])
  have hret : ∀ (r : Int32) (H : Heap) (locs : List Loc) (ls : Array Slot) (pc : Nat), va_P D vwCl (wX h cI cJ S L) H → va_S (xA 53 h) s.heap H locs → post r → decode cX5_weight pc = .ok (.ireturn, 1) → W p l e rX5_weight s m args below meth c H locs 0 0 (MQ below (va_Qi (fun (r : Int32) (u : SX × LX) => post r ∧ u.1 = S ∧ u.2 = L) (xB D (wX h cI cJ)) (xA 53 h)) args s 0 0 (xA 53 h)) (F0 m pc ls [.int r]) := fun r H locs ls pc hP hS hw hd => W.iret hx hb hr (fun t ht hW => ⟨⟨r, (S, L), rfl, ⟨hw, rfl, rfl⟩, show va_P D vwCl (wX h cI cJ S L) t.heap by rw [ht]; exact hP⟩, hS.F ht⟩) hS.2.2 hd
  generalize MQ below (va_Qi (fun (r : Int32) (u : SX × LX) => post r ∧ u.1 = S ∧ u.2 = L) (xB D (wX h cI cJ)) (xA 53 h)) args s 0 0 (xA 53 h) = Q at hret ⊢
  unfold kX5_weight at hw
  refine lv_aload_n hx hb dX5_weight_0 rfl (lv_at hl 0 rfl) ?_
  refine lv_iload_n hx hb dX5_weight_1 rfl (lv_at hl 1 rfl) ?_
  refine lv_iload_n hx hb dX5_weight_2 rfl (lv_at hl 2 rfl) ?_
  refine xVi0 (As := [.int v1, .int v2]) (rest := []) hst hE hP hS ⟨hx, hb, hml, hown, hts⟩ (va_recv hK hP (ci := 5) (q := (RX5, TX5, 10)) rfl wX_1) (mX5_isRich l D h cI cJ t0 hh S L v1 v2 _ hw) (cwV 2 hts gX5_weight_X5_isRich rfl rfl rfl (by decide +kernel) ⟨Nat.le_of_ble_eq_true rfl, Nat.le_of_ble_eq_true rfl⟩) rfl hl.1 rfl (Nat.le_of_ble_eq_true rfl) dX5_weight_3 ⟨Nat.zero_le _, Nat.zero_le _⟩ (fun r3 H locs hw hP hS => ?_)
  refine lv_if_eq (tgt := 19) hx hb dX5_weight_6 (by decide) (fun hc => ?_) (fun hc => ?_)
  · replace hw := And.left hw hc
    refine lv_bipush (v := (100 : Int32)) hx hb dX5_weight_19 (by decide) ?_
    refine lv_aload_n hx hb dX5_weight_21 rfl (lv_at hl 0 rfl) ?_
    refine va_get (D := D) (ci := 5) (v := .ref (h 2)) (C := RX5) (T := TX5) (N := 10) hx hb hts inX5 hown hK hP 1 wX_1 rfl 0 (by decide) f0 (fun _ h9 => h9) rfl dX5_weight_22 ?_
    refine lv_aload_n hx hb dX5_weight_25 rfl (lv_at hl 0 rfl) ?_
    refine va_get (D := D) (ci := 5) (v := .ref (h 8)) (C := RX5) (T := TX5) (N := 10) hx hb hts inX5 hown hK hP 1 wX_1 rfl 4 (by decide) f2 (fun _ h9 => h9) rfl dX5_weight_26 ?_
    refine va_get (D := D) (ci := 4) (v := .ref (h 10)) (C := RX4) (T := TX4) (N := 5) hx hb hts inX4 hown hK hP 8 wX_8 rfl 2 (by decide) f3 (fun _ h9 => h9) rfl dX5_weight_29 ?_
    refine lv_iload_n hx hb dX5_weight_32 rfl (lv_at hl 1 rfl) ?_
    obtain ⟨hi, hw⟩ := hw
    refine va_iald hx hb hK hP 10 0 wX_10 rfl hi dX5_weight_33 ?_
    obtain ⟨hi, hw⟩ := hw
    refine va_iald hx hb hK hP 2 0 wX_2 rfl hi dX5_weight_34 ?_
    refine lv_imul hx hb dX5_weight_35 ?_
    exact hret _ _ _ _ _ hP hS hw dX5_weight_36
  · replace hw := And.right hw hc
    refine lv_bipush (v := (100 : Int32)) hx hb dX5_weight_9 (by decide) ?_
    refine lv_aload_n hx hb dX5_weight_11 rfl (lv_at hl 0 rfl) ?_
    refine va_get (D := D) (ci := 5) (v := .int (S 1 1)) (C := RX5) (T := TX5) (N := 10) hx hb hts inX5 hown hK hP 1 wX_1 rfl 2 (by decide) f5 (fun _ h9 => h9) rfl dX5_weight_12 ?_
    refine lv_iadd hx hb dX5_weight_15 ?_
    refine lv_goto (tgt := 21) hx hb dX5_weight_16 (by decide) ?_
    refine lv_aload_n hx hb dX5_weight_21 rfl (lv_at hl 0 rfl) ?_
    refine va_get (D := D) (ci := 5) (v := .ref (h 2)) (C := RX5) (T := TX5) (N := 10) hx hb hts inX5 hown hK hP 1 wX_1 rfl 0 (by decide) f0 (fun _ h9 => h9) rfl dX5_weight_22 ?_
    refine lv_aload_n hx hb dX5_weight_25 rfl (lv_at hl 0 rfl) ?_
    refine va_get (D := D) (ci := 5) (v := .ref (h 8)) (C := RX5) (T := TX5) (N := 10) hx hb hts inX5 hown hK hP 1 wX_1 rfl 4 (by decide) f2 (fun _ h9 => h9) rfl dX5_weight_26 ?_
    refine va_get (D := D) (ci := 4) (v := .ref (h 10)) (C := RX4) (T := TX4) (N := 5) hx hb hts inX4 hown hK hP 8 wX_8 rfl 2 (by decide) f3 (fun _ h9 => h9) rfl dX5_weight_29 ?_
    refine lv_iload_n hx hb dX5_weight_32 rfl (lv_at hl 1 rfl) ?_
    obtain ⟨hi, hw⟩ := hw
    refine va_iald hx hb hK hP 10 0 wX_10 rfl hi dX5_weight_33 ?_
    obtain ⟨hi, hw⟩ := hw
    refine va_iald hx hb hK hP 2 0 wX_2 rfl hi dX5_weight_34 ?_
    refine lv_imul hx hb dX5_weight_35 ?_
    exact hret _ _ _ _ _ hP hS hw dX5_weight_36
abbrev rX5_kind : Room := { frames := 3, cells := 0, slots := 0, locals := 72 }
set_option maxHeartbeats 4000000 in
set_option maxRecDepth 100000 in
theorem mX5_kind (l : Launch) (D : va_G) (h : Nat → Nat) (cI cJ : ClassId) (t0 : Nat) (hh : xdis 53 h) (S : SX) (L : LX) (v1 : Int32) (post : Int32 → Prop) (hw : kX5_kind S L v1 post) : Met l yX5_kind wsX5_kind rX5_kind (xPre D (wX h cI cJ) (xE D h cI cJ t0) S L [.ref (h 1), .int v1]) (va_Qi (fun (r : Int32) (u : SX × LX) => post r ∧ u.1 = S ∧ u.2 = L) (xB D (wX h cI cJ)) (xA 53 h)) 0 0 (xA 53 h) := by
  refine Met.ofW (cc := cX5_kind) (maxL := 3) (ret := (some .int)) (by decide) rfl ?_
  intro p e s m args below meth c s₁ B hml hv
  obtain ⟨hargs, hP, hE⟩ := hv
  have hx := B.exec
  have hb := B.bytes
  have hr := B.returns
  have hlocks := B.notSynchronized
  have hts := atoms_spec (ws := wsX5_kind) B.pre
  have hown : s.vm.findClass RX5 = some m.cls := findClass_of_methodNamed B.named
  have hS : va_S (xA 53 h) s.heap s.heap [] := va_S.rf
  have hD : ∀ (S : SX) (L : LX), va_D (xA 53 h) (wX h cI cJ S L) := fun S L => wX_D hh cI cJ S L
  have hK := hE.1
  have hst : xSt (xA 53 h) (xE D h cI cJ t0) := xE_st D h cI cJ t0
  have f0 := hts (.fieldLink RX5 30 "BookOfWills$World" "wills" "LBookOfWills$Wills;") (by decide +kernel)
  have inX5 : ∀ w ∈ u_ws RX5 TX5 10, w ∈ wsX5_kind := fun w hw9 => List.mem_cons_of_mem _ (List.mem_append_left _ (List.mem_append_left _ (List.mem_append_right _ hw9)))
  have f2 := hts (.fieldLink RX5 98 "BookOfWills$Wills" "year" "[I") (by decide +kernel)
  have inX4 : ∀ w ∈ u_ws RX4 TX4 5, w ∈ wsX5_kind := fun w hw9 => List.mem_cons_of_mem _ (List.mem_append_left _ (List.mem_append_right _ hw9))
  have hl := lv_entry ([.ref (h 1), .int v1]) (n := 3) (Nat.le_of_ble_eq_true rfl)
  have hen : entryFrame m args 3 = F0 m 0 ((lg_sl ([.ref (h 1), .int v1]) ++ List.replicate (3 - (lg_sl ([.ref (h 1), .int v1])).length) Slot.unset).toArray) [] := by rw [hargs]; exact lg_entry_eq m _ _
  rw [hen]
  generalize (lg_sl ([.ref (h 1), .int v1]) ++ List.replicate (3 - (lg_sl ([.ref (h 1), .int v1])).length) Slot.unset).toArray = ls at hl ⊢
  have hl : lv_has ls 3 [(0, .ref (h 1)), (1, .int v1)] := hl
  change W p l e rX5_kind s m args below meth c s.heap [] 0 0 (MQ below (va_Qi (fun (r : Int32) (u : SX × LX) => post r ∧ u.1 = S ∧ u.2 = L) (xB D (wX h cI cJ)) (xA 53 h)) args s 0 0 (xA 53 h)) (F0 m 0 ls [])
  have hret : ∀ (r : Int32) (H : Heap) (locs : List Loc) (ls : Array Slot) (pc : Nat), va_P D vwCl (wX h cI cJ S L) H → va_S (xA 53 h) s.heap H locs → post r → decode cX5_kind pc = .ok (.ireturn, 1) → W p l e rX5_kind s m args below meth c H locs 0 0 (MQ below (va_Qi (fun (r : Int32) (u : SX × LX) => post r ∧ u.1 = S ∧ u.2 = L) (xB D (wX h cI cJ)) (xA 53 h)) args s 0 0 (xA 53 h)) (F0 m pc ls [.int r]) := fun r H locs ls pc hP hS hw hd => W.iret hx hb hr (fun t ht hW => ⟨⟨r, (S, L), rfl, ⟨hw, rfl, rfl⟩, show va_P D vwCl (wX h cI cJ S L) t.heap by rw [ht]; exact hP⟩, hS.F ht⟩) hS.2.2 hd
  generalize MQ below (va_Qi (fun (r : Int32) (u : SX × LX) => post r ∧ u.1 = S ∧ u.2 = L) (xB D (wX h cI cJ)) (xA 53 h)) args s 0 0 (xA 53 h) = Q at hret ⊢
  unfold kX5_kind at hw
  refine lv_aload_n hx hb dX5_kind_0 rfl (lv_at hl 0 rfl) ?_
  refine va_get (D := D) (ci := 5) (v := .ref (h 8)) (C := RX5) (T := TX5) (N := 10) hx hb hts inX5 hown hK hP 1 wX_1 rfl 4 (by decide) f0 (fun _ h9 => h9) rfl dX5_kind_1 ?_
  refine va_get (D := D) (ci := 4) (v := .ref (h 9)) (C := RX4) (T := TX4) (N := 5) hx hb hts inX4 hown hK hP 8 wX_8 rfl 1 (by decide) f2 (fun _ h9 => h9) rfl dX5_kind_4 ?_
  refine lv_iload_n hx hb dX5_kind_7 rfl (lv_at hl 1 rfl) ?_
  obtain ⟨hi, hw⟩ := hw
  refine va_iald hx hb hK hP 9 0 wX_9 rfl hi dX5_kind_8 ?_
  refine lv_istore_n (lv' := [(2, .int (S 9 v1.toNatClampNeg)), (0, .ref (h 1)), (1, .int v1)]) hx hb dX5_kind_9 rfl hl (by decide) rfl (fun ls hl => ?_)
  refine lv_aload_n hx hb dX5_kind_10 rfl (lv_at hl 1 rfl) ?_
  refine lv_iload_n hx hb dX5_kind_11 rfl (lv_at hl 2 rfl) ?_
  refine lv_iload_n hx hb dX5_kind_12 rfl (lv_at hl 0 rfl) ?_
  refine xVi0 (As := [.int v1, .int (S 9 v1.toNatClampNeg)]) (rest := []) hst hE hP hS ⟨hx, hb, hml, hown, hts⟩ (va_recv hK hP (ci := 5) (q := (RX5, TX5, 10)) rfl wX_1) (mX5_isInBook l D h cI cJ t0 hh S L v1 (S 9 v1.toNatClampNeg) _ hw) (cwV 2 hts gX5_kind_X5_isInBook rfl rfl rfl (by decide +kernel) ⟨Nat.le_of_ble_eq_true rfl, Nat.le_of_ble_eq_true rfl⟩) rfl hl.1 rfl (Nat.le_of_ble_eq_true rfl) dX5_kind_13 ⟨Nat.zero_le _, Nat.zero_le _⟩ (fun r13 H locs hw hP hS => ?_)
  refine lv_if_ne (tgt := 21) hx hb dX5_kind_16 (by decide) (fun hc => ?_) (fun hc => ?_)
  · replace hw := And.right hw hc
    refine lv_aload_n hx hb dX5_kind_21 rfl (lv_at hl 1 rfl) ?_
    refine lv_iload_n hx hb dX5_kind_22 rfl (lv_at hl 2 rfl) ?_
    refine lv_iload_n hx hb dX5_kind_23 rfl (lv_at hl 0 rfl) ?_
    refine xVi0 (As := [.int v1, .int (S 9 v1.toNatClampNeg)]) (rest := []) hst hE hP hS ⟨hx, hb, hml, hown, hts⟩ (va_recv hK hP (ci := 5) (q := (RX5, TX5, 10)) rfl wX_1) (mX5_sworn l D h cI cJ t0 hh S L v1 (S 9 v1.toNatClampNeg) _ hw) (cwV 2 hts gX5_kind_X5_sworn rfl rfl rfl (by decide +kernel) ⟨Nat.le_of_ble_eq_true rfl, Nat.le_of_ble_eq_true rfl⟩) rfl hl.1 rfl (Nat.le_of_ble_eq_true rfl) dX5_kind_24 ⟨Nat.zero_le _, Nat.zero_le _⟩ (fun r24 H locs hw hP hS => ?_)
    refine lv_aload_n hx hb dX5_kind_27 rfl (lv_at hl 1 rfl) ?_
    refine lv_iload_n hx hb dX5_kind_28 rfl (lv_at hl 2 rfl) ?_
    refine lv_iload_n hx hb dX5_kind_29 rfl (lv_at hl 0 rfl) ?_
    refine xVi0 (As := [.int v1, .int (S 9 v1.toNatClampNeg)]) (rest := [.int r24]) hst hE hP hS ⟨hx, hb, hml, hown, hts⟩ (va_recv hK hP (ci := 5) (q := (RX5, TX5, 10)) rfl wX_1) (mX5_seen l D h cI cJ t0 hh S L v1 (S 9 v1.toNatClampNeg) _ hw) (cwV 2 hts gX5_kind_X5_seen rfl rfl rfl (by decide +kernel) ⟨Nat.le_of_ble_eq_true rfl, Nat.le_of_ble_eq_true rfl⟩) rfl hl.1 rfl (Nat.le_of_ble_eq_true rfl) dX5_kind_30 ⟨Nat.zero_le _, Nat.zero_le _⟩ (fun r30 H locs hw hP hS => ?_)
    refine lv_icmp_eq (tgt := 38) hx hb dX5_kind_33 (by decide) (fun hc => ?_) (fun hc => ?_)
    · replace hw := And.left hw hc
      refine lv_aload_n hx hb dX5_kind_38 rfl (lv_at hl 1 rfl) ?_
      refine lv_iload_n hx hb dX5_kind_39 rfl (lv_at hl 2 rfl) ?_
      refine lv_iload_n hx hb dX5_kind_40 rfl (lv_at hl 0 rfl) ?_
      refine xVi0 (As := [.int v1, .int (S 9 v1.toNatClampNeg)]) (rest := []) hst hE hP hS ⟨hx, hb, hml, hown, hts⟩ (va_recv hK hP (ci := 5) (q := (RX5, TX5, 10)) rfl wX_1) (mX5_isRich l D h cI cJ t0 hh S L v1 (S 9 v1.toNatClampNeg) _ hw) (cwV 2 hts gX5_kind_X5_isRich rfl rfl rfl (by decide +kernel) ⟨Nat.le_of_ble_eq_true rfl, Nat.le_of_ble_eq_true rfl⟩) rfl hl.1 rfl (Nat.le_of_ble_eq_true rfl) dX5_kind_41 ⟨Nat.zero_le _, Nat.zero_le _⟩ (fun r41 H locs hw hP hS => ?_)
      refine lv_if_eq (tgt := 51) hx hb dX5_kind_44 (by decide) (fun hc => ?_) (fun hc => ?_)
      · replace hw := And.left hw hc
        refine lv_iconst (v := (0 : Int32)) hx hb dX5_kind_51 (by decide) ?_
        exact hret _ _ _ _ _ hP hS hw dX5_kind_52
      · replace hw := And.right hw hc
        refine lv_iconst (v := (3 : Int32)) hx hb dX5_kind_47 (by decide) ?_
        refine lv_goto (tgt := 52) hx hb dX5_kind_48 (by decide) ?_
        exact hret _ _ _ _ _ hP hS hw dX5_kind_52
    · replace hw := And.right hw hc
      refine lv_iconst (v := (2 : Int32)) hx hb dX5_kind_36 (by decide) ?_
      exact hret _ _ _ _ _ hP hS hw dX5_kind_37
  · replace hw := And.left hw hc
    refine lv_iconst (v := (1 : Int32)) hx hb dX5_kind_19 (by decide) ?_
    exact hret _ _ _ _ _ hP hS hw dX5_kind_20
abbrev rX5_howManyOfKind : Room := { frames := 4, cells := 0, slots := 0, locals := 94 }
set_option maxHeartbeats 4000000 in
set_option maxRecDepth 100000 in
theorem mX5_howManyOfKind (l : Launch) (D : va_G) (h : Nat → Nat) (cI cJ : ClassId) (t0 : Nat) (hh : xdis 53 h) (S : SX) (L : LX) (v1 : Int32) (post : Int32 → Prop) (hw : kX5_howManyOfKind S L v1 post) : Met l yX5_howManyOfKind wsX5_howManyOfKind rX5_howManyOfKind (xPre D (wX h cI cJ) (xE D h cI cJ t0) S L [.ref (h 1), .int v1]) (va_Qi (fun (r : Int32) (u : SX × LX) => post r ∧ u.1 = S ∧ u.2 = L) (xB D (wX h cI cJ)) (xA 53 h)) 0 0 (xA 53 h) := by
  refine Met.ofW (cc := cX5_howManyOfKind) (maxL := 4) (ret := (some .int)) (by decide) rfl ?_
  intro p e s m args below meth c s₁ B hml hv
  obtain ⟨hargs, hP, hE⟩ := hv
  have hx := B.exec
  have hb := B.bytes
  have hr := B.returns
  have hlocks := B.notSynchronized
  have hts := atoms_spec (ws := wsX5_howManyOfKind) B.pre
  have hown : s.vm.findClass RX5 = some m.cls := findClass_of_methodNamed B.named
  have hS : va_S (xA 53 h) s.heap s.heap [] := va_S.rf
  have hD : ∀ (S : SX) (L : LX), va_D (xA 53 h) (wX h cI cJ S L) := fun S L => wX_D hh cI cJ S L
  have hK := hE.1
  have hst : xSt (xA 53 h) (xE D h cI cJ t0) := xE_st D h cI cJ t0
  have f0 := hts (.fieldLink RX5 30 "BookOfWills$World" "wills" "LBookOfWills$Wills;") (by decide +kernel)
  have inX5 : ∀ w ∈ u_ws RX5 TX5 10, w ∈ wsX5_howManyOfKind := fun w hw9 => List.mem_cons_of_mem _ (List.mem_append_left _ (List.mem_append_left _ (List.mem_append_right _ hw9)))
  have f2 := hts (.fieldLink RX5 104 "BookOfWills$Wills" "size" "I") (by decide +kernel)
  have inX4 : ∀ w ∈ u_ws RX4 TX4 5, w ∈ wsX5_howManyOfKind := fun w hw9 => List.mem_cons_of_mem _ (List.mem_append_left _ (List.mem_append_right _ hw9))
  have hl := lv_entry ([.ref (h 1), .int v1]) (n := 4) (Nat.le_of_ble_eq_true rfl)
  have hen : entryFrame m args 4 = F0 m 0 ((lg_sl ([.ref (h 1), .int v1]) ++ List.replicate (4 - (lg_sl ([.ref (h 1), .int v1])).length) Slot.unset).toArray) [] := by rw [hargs]; exact lg_entry_eq m _ _
  rw [hen]
  generalize (lg_sl ([.ref (h 1), .int v1]) ++ List.replicate (4 - (lg_sl ([.ref (h 1), .int v1])).length) Slot.unset).toArray = ls at hl ⊢
  have hl : lv_has ls 4 [(0, .ref (h 1)), (1, .int v1)] := hl
  change W p l e rX5_howManyOfKind s m args below meth c s.heap [] 0 0 (MQ below (va_Qi (fun (r : Int32) (u : SX × LX) => post r ∧ u.1 = S ∧ u.2 = L) (xB D (wX h cI cJ)) (xA 53 h)) args s 0 0 (xA 53 h)) (F0 m 0 ls [])
  have hret : ∀ (r : Int32) (H : Heap) (locs : List Loc) (ls : Array Slot) (pc : Nat), va_P D vwCl (wX h cI cJ S L) H → va_S (xA 53 h) s.heap H locs → post r → decode cX5_howManyOfKind pc = .ok (.ireturn, 1) → W p l e rX5_howManyOfKind s m args below meth c H locs 0 0 (MQ below (va_Qi (fun (r : Int32) (u : SX × LX) => post r ∧ u.1 = S ∧ u.2 = L) (xB D (wX h cI cJ)) (xA 53 h)) args s 0 0 (xA 53 h)) (F0 m pc ls [.int r]) := fun r H locs ls pc hP hS hw hd => W.iret hx hb hr (fun t ht hW => ⟨⟨r, (S, L), rfl, ⟨hw, rfl, rfl⟩, show va_P D vwCl (wX h cI cJ S L) t.heap by rw [ht]; exact hP⟩, hS.F ht⟩) hS.2.2 hd
  generalize MQ below (va_Qi (fun (r : Int32) (u : SX × LX) => post r ∧ u.1 = S ∧ u.2 = L) (xB D (wX h cI cJ)) (xA 53 h)) args s 0 0 (xA 53 h) = Q at hret ⊢
  have b4 : ∀  (n4 : Nat) (v2 : Int32) (v3 : Int32) (H : Heap) (locs : List Loc) (ls : Array Slot), lv_has ls 4 [(0, .ref (h 1)), (1, .int v1), (2, .int v2), (3, .int v3)] → va_P D vwCl (wX h cI cJ S L) H → va_S (xA 53 h) s.heap H locs → kX5_howManyOfKind_b4 S L v1 post n4 v2 v3 → W p l e rX5_howManyOfKind s m args below meth c H locs 0 0 Q (F0 m 4 ls []) := by
    intro n4
    induction n4 with
    | zero => intro v2 v3 H locs ls hl hP hS hw; exact absurd hw id
    | succ n4 i4 =>
      intro v2 v3 H locs ls hl hP hS hw
      unfold kX5_howManyOfKind_b4 at hw
      refine lv_iload_n hx hb dX5_howManyOfKind_4 rfl (lv_at hl 3 rfl) ?_
      refine lv_aload_n hx hb dX5_howManyOfKind_5 rfl (lv_at hl 0 rfl) ?_
      refine va_get (D := D) (ci := 5) (v := .ref (h 8)) (C := RX5) (T := TX5) (N := 10) hx hb hts inX5 hown hK hP 1 wX_1 rfl 4 (by decide) f0 (fun _ h9 => h9) rfl dX5_howManyOfKind_6 ?_
      refine va_get (D := D) (ci := 4) (v := .int (S 8 0)) (C := RX4) (T := TX4) (N := 5) hx hb hts inX4 hown hK hP 8 wX_8 rfl 0 (by decide) f2 (fun _ h9 => h9) rfl dX5_howManyOfKind_9 ?_
      refine lv_icmp_ge (tgt := 33) hx hb dX5_howManyOfKind_12 (by decide) (fun hc => ?_) (fun hc => ?_)
      · replace hw := And.left hw hc
        refine lv_iload_n hx hb dX5_howManyOfKind_33 rfl (lv_at hl 2 rfl) ?_
        exact hret _ _ _ _ _ hP hS hw dX5_howManyOfKind_34
      · replace hw := And.right hw hc
        refine lv_aload_n hx hb dX5_howManyOfKind_15 rfl (lv_at hl 0 rfl) ?_
        refine lv_iload_n hx hb dX5_howManyOfKind_16 rfl (lv_at hl 3 rfl) ?_
        refine xVi0 (As := [.int v3]) (rest := []) hst hE hP hS ⟨hx, hb, hml, hown, hts⟩ (va_recv hK hP (ci := 5) (q := (RX5, TX5, 10)) rfl wX_1) (mX5_kind l D h cI cJ t0 hh S L v3 _ hw) (cwV 1 hts gX5_howManyOfKind_X5_kind rfl rfl rfl (by decide +kernel) ⟨Nat.le_of_ble_eq_true rfl, Nat.le_of_ble_eq_true rfl⟩) rfl hl.1 rfl (Nat.le_of_ble_eq_true rfl) dX5_howManyOfKind_17 ⟨Nat.zero_le _, Nat.zero_le _⟩ (fun r17 H locs hw hP hS => ?_)
        refine lv_iload_n hx hb dX5_howManyOfKind_20 rfl (lv_at hl 1 rfl) ?_
        refine lv_icmp_ne (tgt := 27) hx hb dX5_howManyOfKind_21 (by decide) (fun hc => ?_) (fun hc => ?_)
        · replace hw := And.right hw hc
          refine lv_iinc (v := v3 + (1 : Int32)) (lv' := [(3, .int (v3 + (1 : Int32))), (0, .ref (h 1)), (1, .int v1), (2, .int v2)]) hx hb dX5_howManyOfKind_27 hl (k := 3) rfl rfl (by decide) rfl (fun ls hl => ?_)
          refine lv_goto (tgt := 4) hx hb dX5_howManyOfKind_30 (by decide) ?_
          exact i4 v2 (v3 + (1 : Int32)) _ _ _ (lv_sub hl [1, 2, 3, 0] rfl) hP hS hw
        · replace hw := And.left hw hc
          refine lv_iinc (v := v2 + (1 : Int32)) (lv' := [(2, .int (v2 + (1 : Int32))), (0, .ref (h 1)), (1, .int v1), (3, .int v3)]) hx hb dX5_howManyOfKind_24 hl (k := 2) rfl rfl (by decide) rfl (fun ls hl => ?_)
          refine lv_iinc (v := v3 + (1 : Int32)) (lv' := [(3, .int (v3 + (1 : Int32))), (2, .int (v2 + (1 : Int32))), (0, .ref (h 1)), (1, .int v1)]) hx hb dX5_howManyOfKind_27 hl (k := 3) rfl rfl (by decide) rfl (fun ls hl => ?_)
          refine lv_goto (tgt := 4) hx hb dX5_howManyOfKind_30 (by decide) ?_
          exact i4 (v2 + (1 : Int32)) (v3 + (1 : Int32)) _ _ _ (lv_sub hl [2, 3, 1, 0] rfl) hP hS hw
  unfold kX5_howManyOfKind at hw
  refine lv_iconst (v := (0 : Int32)) hx hb dX5_howManyOfKind_0 (by decide) ?_
  refine lv_istore_n (lv' := [(2, .int (0 : Int32)), (0, .ref (h 1)), (1, .int v1)]) hx hb dX5_howManyOfKind_1 rfl hl (by decide) rfl (fun ls hl => ?_)
  refine lv_iconst (v := (0 : Int32)) hx hb dX5_howManyOfKind_2 (by decide) ?_
  refine lv_istore_n (lv' := [(3, .int (0 : Int32)), (2, .int (0 : Int32)), (0, .ref (h 1)), (1, .int v1)]) hx hb dX5_howManyOfKind_3 rfl hl (by decide) rfl (fun ls hl => ?_)
  obtain ⟨n4, hw⟩ := hw
  exact b4  n4 (0 : Int32) (0 : Int32) _ _ _ (lv_sub hl [2, 3, 1, 0] rfl) hP hS hw
abbrev rX5_howManyInBook : Room := { frames := 3, cells := 0, slots := 0, locals := 72 }
set_option maxHeartbeats 4000000 in
set_option maxRecDepth 100000 in
theorem mX5_howManyInBook (l : Launch) (D : va_G) (h : Nat → Nat) (cI cJ : ClassId) (t0 : Nat) (hh : xdis 53 h) (S : SX) (L : LX) (v1 : Int32) (post : Int32 → Prop) (hw : kX5_howManyInBook S L v1 post) : Met l yX5_howManyInBook wsX5_howManyInBook rX5_howManyInBook (xPre D (wX h cI cJ) (xE D h cI cJ t0) S L [.ref (h 1), .int v1]) (va_Qi (fun (r : Int32) (u : SX × LX) => post r ∧ u.1 = S ∧ u.2 = L) (xB D (wX h cI cJ)) (xA 53 h)) 0 0 (xA 53 h) := by
  refine Met.ofW (cc := cX5_howManyInBook) (maxL := 4) (ret := (some .int)) (by decide) rfl ?_
  intro p e s m args below meth c s₁ B hml hv
  obtain ⟨hargs, hP, hE⟩ := hv
  have hx := B.exec
  have hb := B.bytes
  have hr := B.returns
  have hlocks := B.notSynchronized
  have hts := atoms_spec (ws := wsX5_howManyInBook) B.pre
  have hown : s.vm.findClass RX5 = some m.cls := findClass_of_methodNamed B.named
  have hS : va_S (xA 53 h) s.heap s.heap [] := va_S.rf
  have hD : ∀ (S : SX) (L : LX), va_D (xA 53 h) (wX h cI cJ S L) := fun S L => wX_D hh cI cJ S L
  have hK := hE.1
  have hst : xSt (xA 53 h) (xE D h cI cJ t0) := xE_st D h cI cJ t0
  have f0 := hts (.fieldLink RX5 30 "BookOfWills$World" "wills" "LBookOfWills$Wills;") (by decide +kernel)
  have inX5 : ∀ w ∈ u_ws RX5 TX5 10, w ∈ wsX5_howManyInBook := fun w hw9 => List.mem_cons_of_mem _ (List.mem_append_left _ (List.mem_append_left _ (List.mem_append_right _ hw9)))
  have f2 := hts (.fieldLink RX5 104 "BookOfWills$Wills" "size" "I") (by decide +kernel)
  have inX4 : ∀ w ∈ u_ws RX4 TX4 5, w ∈ wsX5_howManyInBook := fun w hw9 => List.mem_cons_of_mem _ (List.mem_append_left _ (List.mem_append_right _ hw9))
  have f4 := hts (.fieldLink RX5 98 "BookOfWills$Wills" "year" "[I") (by decide +kernel)
  have hl := lv_entry ([.ref (h 1), .int v1]) (n := 4) (Nat.le_of_ble_eq_true rfl)
  have hen : entryFrame m args 4 = F0 m 0 ((lg_sl ([.ref (h 1), .int v1]) ++ List.replicate (4 - (lg_sl ([.ref (h 1), .int v1])).length) Slot.unset).toArray) [] := by rw [hargs]; exact lg_entry_eq m _ _
  rw [hen]
  generalize (lg_sl ([.ref (h 1), .int v1]) ++ List.replicate (4 - (lg_sl ([.ref (h 1), .int v1])).length) Slot.unset).toArray = ls at hl ⊢
  have hl : lv_has ls 4 [(0, .ref (h 1)), (1, .int v1)] := hl
  change W p l e rX5_howManyInBook s m args below meth c s.heap [] 0 0 (MQ below (va_Qi (fun (r : Int32) (u : SX × LX) => post r ∧ u.1 = S ∧ u.2 = L) (xB D (wX h cI cJ)) (xA 53 h)) args s 0 0 (xA 53 h)) (F0 m 0 ls [])
  have hret : ∀ (r : Int32) (H : Heap) (locs : List Loc) (ls : Array Slot) (pc : Nat), va_P D vwCl (wX h cI cJ S L) H → va_S (xA 53 h) s.heap H locs → post r → decode cX5_howManyInBook pc = .ok (.ireturn, 1) → W p l e rX5_howManyInBook s m args below meth c H locs 0 0 (MQ below (va_Qi (fun (r : Int32) (u : SX × LX) => post r ∧ u.1 = S ∧ u.2 = L) (xB D (wX h cI cJ)) (xA 53 h)) args s 0 0 (xA 53 h)) (F0 m pc ls [.int r]) := fun r H locs ls pc hP hS hw hd => W.iret hx hb hr (fun t ht hW => ⟨⟨r, (S, L), rfl, ⟨hw, rfl, rfl⟩, show va_P D vwCl (wX h cI cJ S L) t.heap by rw [ht]; exact hP⟩, hS.F ht⟩) hS.2.2 hd
  generalize MQ below (va_Qi (fun (r : Int32) (u : SX × LX) => post r ∧ u.1 = S ∧ u.2 = L) (xB D (wX h cI cJ)) (xA 53 h)) args s 0 0 (xA 53 h) = Q at hret ⊢
  have b4 : ∀  (n4 : Nat) (v2 : Int32) (v3 : Int32) (H : Heap) (locs : List Loc) (ls : Array Slot), lv_has ls 4 [(0, .ref (h 1)), (1, .int v1), (2, .int v2), (3, .int v3)] → va_P D vwCl (wX h cI cJ S L) H → va_S (xA 53 h) s.heap H locs → kX5_howManyInBook_b4 S L v1 post n4 v2 v3 → W p l e rX5_howManyInBook s m args below meth c H locs 0 0 Q (F0 m 4 ls []) := by
    intro n4
    induction n4 with
    | zero => intro v2 v3 H locs ls hl hP hS hw; exact absurd hw id
    | succ n4 i4 =>
      intro v2 v3 H locs ls hl hP hS hw
      unfold kX5_howManyInBook_b4 at hw
      refine lv_iload_n hx hb dX5_howManyInBook_4 rfl (lv_at hl 3 rfl) ?_
      refine lv_aload_n hx hb dX5_howManyInBook_5 rfl (lv_at hl 0 rfl) ?_
      refine va_get (D := D) (ci := 5) (v := .ref (h 8)) (C := RX5) (T := TX5) (N := 10) hx hb hts inX5 hown hK hP 1 wX_1 rfl 4 (by decide) f0 (fun _ h9 => h9) rfl dX5_howManyInBook_6 ?_
      refine va_get (D := D) (ci := 4) (v := .int (S 8 0)) (C := RX4) (T := TX4) (N := 5) hx hb hts inX4 hown hK hP 8 wX_8 rfl 0 (by decide) f2 (fun _ h9 => h9) rfl dX5_howManyInBook_9 ?_
      refine lv_icmp_ge (tgt := 46) hx hb dX5_howManyInBook_12 (by decide) (fun hc => ?_) (fun hc => ?_)
      · replace hw := And.left hw hc
        refine lv_iload_n hx hb dX5_howManyInBook_46 rfl (lv_at hl 2 rfl) ?_
        exact hret _ _ _ _ _ hP hS hw dX5_howManyInBook_47
      · replace hw := And.right hw hc
        refine lv_aload_n hx hb dX5_howManyInBook_15 rfl (lv_at hl 0 rfl) ?_
        refine va_get (D := D) (ci := 5) (v := .ref (h 8)) (C := RX5) (T := TX5) (N := 10) hx hb hts inX5 hown hK hP 1 wX_1 rfl 4 (by decide) f0 (fun _ h9 => h9) rfl dX5_howManyInBook_16 ?_
        refine va_get (D := D) (ci := 4) (v := .ref (h 9)) (C := RX4) (T := TX4) (N := 5) hx hb hts inX4 hown hK hP 8 wX_8 rfl 1 (by decide) f4 (fun _ h9 => h9) rfl dX5_howManyInBook_19 ?_
        refine lv_iload_n hx hb dX5_howManyInBook_22 rfl (lv_at hl 3 rfl) ?_
        obtain ⟨hi, hw⟩ := hw
        refine va_iald hx hb hK hP 9 0 wX_9 rfl hi dX5_howManyInBook_23 ?_
        refine lv_iload_n hx hb dX5_howManyInBook_24 rfl (lv_at hl 1 rfl) ?_
        refine lv_icmp_ne (tgt := 40) hx hb dX5_howManyInBook_25 (by decide) (fun hc => ?_) (fun hc => ?_)
        · replace hw := And.right hw hc
          refine lv_iinc (v := v3 + (1 : Int32)) (lv' := [(3, .int (v3 + (1 : Int32))), (0, .ref (h 1)), (1, .int v1), (2, .int v2)]) hx hb dX5_howManyInBook_40 hl (k := 3) rfl rfl (by decide) rfl (fun ls hl => ?_)
          refine lv_goto (tgt := 4) hx hb dX5_howManyInBook_43 (by decide) ?_
          exact i4 v2 (v3 + (1 : Int32)) _ _ _ (lv_sub hl [1, 2, 3, 0] rfl) hP hS hw
        · replace hw := And.left hw hc
          refine lv_aload_n hx hb dX5_howManyInBook_28 rfl (lv_at hl 0 rfl) ?_
          refine lv_iload_n hx hb dX5_howManyInBook_29 rfl (lv_at hl 3 rfl) ?_
          refine lv_iload_n hx hb dX5_howManyInBook_30 rfl (lv_at hl 1 rfl) ?_
          refine xVi0 (As := [.int v3, .int v1]) (rest := []) hst hE hP hS ⟨hx, hb, hml, hown, hts⟩ (va_recv hK hP (ci := 5) (q := (RX5, TX5, 10)) rfl wX_1) (mX5_isInBook l D h cI cJ t0 hh S L v3 v1 _ hw) (cwV 2 hts gX5_howManyInBook_X5_isInBook rfl rfl rfl (by decide +kernel) ⟨Nat.le_of_ble_eq_true rfl, Nat.le_of_ble_eq_true rfl⟩) rfl hl.1 rfl (Nat.le_of_ble_eq_true rfl) dX5_howManyInBook_31 ⟨Nat.zero_le _, Nat.zero_le _⟩ (fun r31 H locs hw hP hS => ?_)
          refine lv_if_eq (tgt := 40) hx hb dX5_howManyInBook_34 (by decide) (fun hc => ?_) (fun hc => ?_)
          · replace hw := And.left hw hc
            refine lv_iinc (v := v3 + (1 : Int32)) (lv' := [(3, .int (v3 + (1 : Int32))), (0, .ref (h 1)), (1, .int v1), (2, .int v2)]) hx hb dX5_howManyInBook_40 hl (k := 3) rfl rfl (by decide) rfl (fun ls hl => ?_)
            refine lv_goto (tgt := 4) hx hb dX5_howManyInBook_43 (by decide) ?_
            exact i4 v2 (v3 + (1 : Int32)) _ _ _ (lv_sub hl [1, 2, 3, 0] rfl) hP hS hw
          · replace hw := And.right hw hc
            refine lv_iinc (v := v2 + (1 : Int32)) (lv' := [(2, .int (v2 + (1 : Int32))), (0, .ref (h 1)), (1, .int v1), (3, .int v3)]) hx hb dX5_howManyInBook_37 hl (k := 2) rfl rfl (by decide) rfl (fun ls hl => ?_)
            refine lv_iinc (v := v3 + (1 : Int32)) (lv' := [(3, .int (v3 + (1 : Int32))), (2, .int (v2 + (1 : Int32))), (0, .ref (h 1)), (1, .int v1)]) hx hb dX5_howManyInBook_40 hl (k := 3) rfl rfl (by decide) rfl (fun ls hl => ?_)
            refine lv_goto (tgt := 4) hx hb dX5_howManyInBook_43 (by decide) ?_
            exact i4 (v2 + (1 : Int32)) (v3 + (1 : Int32)) _ _ _ (lv_sub hl [2, 3, 1, 0] rfl) hP hS hw
  unfold kX5_howManyInBook at hw
  refine lv_iconst (v := (0 : Int32)) hx hb dX5_howManyInBook_0 (by decide) ?_
  refine lv_istore_n (lv' := [(2, .int (0 : Int32)), (0, .ref (h 1)), (1, .int v1)]) hx hb dX5_howManyInBook_1 rfl hl (by decide) rfl (fun ls hl => ?_)
  refine lv_iconst (v := (0 : Int32)) hx hb dX5_howManyInBook_2 (by decide) ?_
  refine lv_istore_n (lv' := [(3, .int (0 : Int32)), (2, .int (0 : Int32)), (0, .ref (h 1)), (1, .int v1)]) hx hb dX5_howManyInBook_3 rfl hl (by decide) rfl (fun ls hl => ?_)
  obtain ⟨n4, hw⟩ := hw
  exact b4  n4 (0 : Int32) (0 : Int32) _ _ _ (lv_sub hl [2, 3, 1, 0] rfl) hP hS hw
abbrev rX6_isWithin : Room := { frames := 0, cells := 0, slots := 0, locals := 0 }
set_option maxHeartbeats 4000000 in
set_option maxRecDepth 100000 in
theorem mX6_isWithin (l : Launch) (D : va_G) (h : Nat → Nat) (cI cJ : ClassId) (t0 : Nat) (hh : xdis 53 h) (S : SX) (L : LX) (v0 : Int64) (v2 : Int64) (v4 : Int64) (post : Int32 → Prop) (hw : kX6_isWithin S L v0 v2 v4 post) : Met l yX6_isWithin wsX6_isWithin rX6_isWithin (xPre D (wX h cI cJ) (xE D h cI cJ t0) S L [.long v0, .long v2, .long v4]) (va_Qi (fun (r : Int32) (u : SX × LX) => post r ∧ u.1 = S ∧ u.2 = L) (xB D (wX h cI cJ)) (xA 53 h)) 0 0 (xA 53 h) := by
  refine Met.ofW (cc := cX6_isWithin) (maxL := 6) (ret := (some .boolean)) (by decide) rfl ?_
  intro p e s m args below meth c s₁ B hml hv
  obtain ⟨hargs, hP, hE⟩ := hv
  have hx := B.exec
  have hb := B.bytes
  have hr := B.returns
  have hlocks := B.notSynchronized
  have hts := atoms_spec (ws := wsX6_isWithin) B.pre
  have hown : s.vm.findClass RX6 = some m.cls := findClass_of_methodNamed B.named
  have hS : va_S (xA 53 h) s.heap s.heap [] := va_S.rf
  have hD : ∀ (S : SX) (L : LX), va_D (xA 53 h) (wX h cI cJ S L) := fun S L => wX_D hh cI cJ S L
  have hK := hE.1
  have hst : xSt (xA 53 h) (xE D h cI cJ t0) := xE_st D h cI cJ t0
  skip
  have hl := lv_entry ([.long v0, .long v2, .long v4]) (n := 6) (Nat.le_of_ble_eq_true rfl)
  have hen : entryFrame m args 6 = F0 m 0 ((lg_sl ([.long v0, .long v2, .long v4]) ++ List.replicate (6 - (lg_sl ([.long v0, .long v2, .long v4])).length) Slot.unset).toArray) [] := by rw [hargs]; exact lg_entry_eq m _ _
  rw [hen]
  generalize (lg_sl ([.long v0, .long v2, .long v4]) ++ List.replicate (6 - (lg_sl ([.long v0, .long v2, .long v4])).length) Slot.unset).toArray = ls at hl ⊢
  have hl : lv_has ls 6 [(0, .long v0), (2, .long v2), (4, .long v4)] := hl
  change W p l e rX6_isWithin s m args below meth c s.heap [] 0 0 (MQ below (va_Qi (fun (r : Int32) (u : SX × LX) => post r ∧ u.1 = S ∧ u.2 = L) (xB D (wX h cI cJ)) (xA 53 h)) args s 0 0 (xA 53 h)) (F0 m 0 ls [])
  have hret : ∀ (r : Int32) (H : Heap) (locs : List Loc) (ls : Array Slot) (pc : Nat), va_P D vwCl (wX h cI cJ S L) H → va_S (xA 53 h) s.heap H locs → post r → narrow .boolean (.int r) = .int r → decode cX6_isWithin pc = .ok (.ireturn, 1) → W p l e rX6_isWithin s m args below meth c H locs 0 0 (MQ below (va_Qi (fun (r : Int32) (u : SX × LX) => post r ∧ u.1 = S ∧ u.2 = L) (xB D (wX h cI cJ)) (xA 53 h)) args s 0 0 (xA 53 h)) (F0 m pc ls [.int r]) := fun r H locs ls pc hP hS hw hna hd => W.zret hx hb hr hna (fun t ht hW => ⟨⟨r, (S, L), rfl, ⟨hw, rfl, rfl⟩, show va_P D vwCl (wX h cI cJ S L) t.heap by rw [ht]; exact hP⟩, hS.F ht⟩) hS.2.2 hd
  generalize MQ below (va_Qi (fun (r : Int32) (u : SX × LX) => post r ∧ u.1 = S ∧ u.2 = L) (xB D (wX h cI cJ)) (xA 53 h)) args s 0 0 (xA 53 h) = Q at hret ⊢
  unfold kX6_isWithin at hw
  refine lv_lload_n hx hb dX6_isWithin_0 rfl (lv_at hl 1 rfl) ?_
  refine lv_lload_n hx hb dX6_isWithin_1 rfl (lv_at hl 0 rfl) ?_
  refine W.lcmp hx hb dX6_isWithin_2 ?_
  refine lv_if_gt (tgt := 17) hx hb dX6_isWithin_3 (by decide) (fun hc => ?_) (fun hc => ?_)
  · replace hw := And.left hw ((lg_cmp_gt _ _).mp hc)
    refine lv_iconst (v := (0 : Int32)) hx hb dX6_isWithin_17 (by decide) ?_
    exact hret _ _ _ _ _ hP hS hw rfl dX6_isWithin_18
  · replace hw := And.right hw (fun q => hc ((lg_cmp_gt _ _).mpr q))
    refine lv_lload_n hx hb dX6_isWithin_6 rfl (lv_at hl 0 rfl) ?_
    refine lv_lload hx hb dX6_isWithin_7 (lv_at hl 2 rfl) ?_
    refine W.lcmp hx hb dX6_isWithin_9 ?_
    refine lv_if_gt (tgt := 17) hx hb dX6_isWithin_10 (by decide) (fun hc => ?_) (fun hc => ?_)
    · replace hw := And.left hw ((lg_cmp_gt _ _).mp hc)
      refine lv_iconst (v := (0 : Int32)) hx hb dX6_isWithin_17 (by decide) ?_
      exact hret _ _ _ _ _ hP hS hw rfl dX6_isWithin_18
    · replace hw := And.right hw (fun q => hc ((lg_cmp_gt _ _).mpr q))
      refine lv_iconst (v := (1 : Int32)) hx hb dX6_isWithin_13 (by decide) ?_
      refine lv_goto (tgt := 18) hx hb dX6_isWithin_14 (by decide) ?_
      exact hret _ _ _ _ _ hP hS hw rfl dX6_isWithin_18
abbrev rX5_howManyNearLine : Room := { frames := 2, cells := 0, slots := 0, locals := 49 }
set_option maxHeartbeats 4000000 in
set_option maxRecDepth 100000 in
theorem mX5_howManyNearLine (l : Launch) (D : va_G) (h : Nat → Nat) (cI cJ : ClassId) (t0 : Nat) (hh : xdis 53 h) (S : SX) (L : LX) (v1 : Int32) (v2 : Int32) (v3 : Int32) (post : Int32 → Prop) (hw : kX5_howManyNearLine S L v1 v2 v3 post) : Met l yX5_howManyNearLine wsX5_howManyNearLine rX5_howManyNearLine (xPre D (wX h cI cJ) (xE D h cI cJ t0) S L [.ref (h 1), .int v1, .int v2, .int v3]) (va_Qi (fun (r : Int32) (u : SX × LX) => post r ∧ u.1 = S ∧ u.2 = L) (xB D (wX h cI cJ)) (xA 53 h)) 0 0 (xA 53 h) := by
  refine Met.ofW (cc := cX5_howManyNearLine) (maxL := 8) (ret := (some .int)) (by decide) rfl ?_
  intro p e s m args below meth c s₁ B hml hv
  obtain ⟨hargs, hP, hE⟩ := hv
  have hx := B.exec
  have hb := B.bytes
  have hr := B.returns
  have hlocks := B.notSynchronized
  have hts := atoms_spec (ws := wsX5_howManyNearLine) B.pre
  have hown : s.vm.findClass RX5 = some m.cls := findClass_of_methodNamed B.named
  have hS : va_S (xA 53 h) s.heap s.heap [] := va_S.rf
  have hD : ∀ (S : SX) (L : LX), va_D (xA 53 h) (wX h cI cJ S L) := fun S L => wX_D hh cI cJ S L
  have hK := hE.1
  have hst : xSt (xA 53 h) (xE D h cI cJ t0) := xE_st D h cI cJ t0
  have f0 := hts (.fieldLink RX5 30 "BookOfWills$World" "wills" "LBookOfWills$Wills;") (by decide +kernel)
  have inX5 : ∀ w ∈ u_ws RX5 TX5 10, w ∈ wsX5_howManyNearLine := fun w hw9 => List.mem_cons_of_mem _ (List.mem_append_left _ (List.mem_append_left _ (List.mem_append_right _ hw9)))
  have f2 := hts (.fieldLink RX5 104 "BookOfWills$Wills" "size" "I") (by decide +kernel)
  have inX4 : ∀ w ∈ u_ws RX4 TX4 5, w ∈ wsX5_howManyNearLine := fun w hw9 => List.mem_cons_of_mem _ (List.mem_append_left _ (List.mem_append_right _ hw9))
  have f4 := hts (.fieldLink RX5 98 "BookOfWills$Wills" "year" "[I") (by decide +kernel)
  have f5 := hts (.fieldLink RX5 23 "BookOfWills$World" "laws" "LBookOfWills$Laws;") (by decide +kernel)
  have f6 := hts (.fieldLink RX5 79 "BookOfWills$Laws" "line" "[I") (by decide +kernel)
  have inX0 : ∀ w ∈ u_ws RX0 TX0 4, w ∈ wsX5_howManyNearLine := fun w hw9 => List.mem_cons_of_mem _ (List.mem_append_right _ hw9)
  have f8 := hts (.initialized RX6) (by decide +kernel)
  have f9 := hts (.static yX6_isWithin) (by decide +kernel)
  have hl := lv_entry ([.ref (h 1), .int v1, .int v2, .int v3]) (n := 8) (Nat.le_of_ble_eq_true rfl)
  have hen : entryFrame m args 8 = F0 m 0 ((lg_sl ([.ref (h 1), .int v1, .int v2, .int v3]) ++ List.replicate (8 - (lg_sl ([.ref (h 1), .int v1, .int v2, .int v3])).length) Slot.unset).toArray) [] := by rw [hargs]; exact lg_entry_eq m _ _
  rw [hen]
  generalize (lg_sl ([.ref (h 1), .int v1, .int v2, .int v3]) ++ List.replicate (8 - (lg_sl ([.ref (h 1), .int v1, .int v2, .int v3])).length) Slot.unset).toArray = ls at hl ⊢
  have hl : lv_has ls 8 [(0, .ref (h 1)), (1, .int v1), (2, .int v2), (3, .int v3)] := hl
  change W p l e rX5_howManyNearLine s m args below meth c s.heap [] 0 0 (MQ below (va_Qi (fun (r : Int32) (u : SX × LX) => post r ∧ u.1 = S ∧ u.2 = L) (xB D (wX h cI cJ)) (xA 53 h)) args s 0 0 (xA 53 h)) (F0 m 0 ls [])
  have hret : ∀ (r : Int32) (H : Heap) (locs : List Loc) (ls : Array Slot) (pc : Nat), va_P D vwCl (wX h cI cJ S L) H → va_S (xA 53 h) s.heap H locs → post r → decode cX5_howManyNearLine pc = .ok (.ireturn, 1) → W p l e rX5_howManyNearLine s m args below meth c H locs 0 0 (MQ below (va_Qi (fun (r : Int32) (u : SX × LX) => post r ∧ u.1 = S ∧ u.2 = L) (xB D (wX h cI cJ)) (xA 53 h)) args s 0 0 (xA 53 h)) (F0 m pc ls [.int r]) := fun r H locs ls pc hP hS hw hd => W.iret hx hb hr (fun t ht hW => ⟨⟨r, (S, L), rfl, ⟨hw, rfl, rfl⟩, show va_P D vwCl (wX h cI cJ S L) t.heap by rw [ht]; exact hP⟩, hS.F ht⟩) hS.2.2 hd
  generalize MQ below (va_Qi (fun (r : Int32) (u : SX × LX) => post r ∧ u.1 = S ∧ u.2 = L) (xB D (wX h cI cJ)) (xA 53 h)) args s 0 0 (xA 53 h) = Q at hret ⊢
  have b6 : ∀  (n6 : Nat) (v4 : Int32) (v5 : Int32) (H : Heap) (locs : List Loc) (ls : Array Slot), lv_has ls 8 [(0, .ref (h 1)), (1, .int v1), (2, .int v2), (3, .int v3), (4, .int v4), (5, .int v5)] → va_P D vwCl (wX h cI cJ S L) H → va_S (xA 53 h) s.heap H locs → kX5_howManyNearLine_b6 S L v1 v2 v3 post n6 v4 v5 → W p l e rX5_howManyNearLine s m args below meth c H locs 0 0 Q (F0 m 6 ls []) := by
    intro n6
    induction n6 with
    | zero => intro v4 v5 H locs ls hl hP hS hw; exact absurd hw id
    | succ n6 i6 =>
      intro v4 v5 H locs ls hl hP hS hw
      unfold kX5_howManyNearLine_b6 at hw
      refine lv_iload hx hb dX5_howManyNearLine_6 (lv_at hl 5 rfl) ?_
      refine lv_aload_n hx hb dX5_howManyNearLine_8 rfl (lv_at hl 0 rfl) ?_
      refine va_get (D := D) (ci := 5) (v := .ref (h 8)) (C := RX5) (T := TX5) (N := 10) hx hb hts inX5 hown hK hP 1 wX_1 rfl 4 (by decide) f0 (fun _ h9 => h9) rfl dX5_howManyNearLine_9 ?_
      refine va_get (D := D) (ci := 4) (v := .int (S 8 0)) (C := RX4) (T := TX4) (N := 5) hx hb hts inX4 hown hK hP 8 wX_8 rfl 0 (by decide) f2 (fun _ h9 => h9) rfl dX5_howManyNearLine_12 ?_
      refine lv_icmp_ge (tgt := 88) hx hb dX5_howManyNearLine_15 (by decide) (fun hc => ?_) (fun hc => ?_)
      · replace hw := And.left hw hc
        refine lv_iload hx hb dX5_howManyNearLine_88 (lv_at hl 4 rfl) ?_
        exact hret _ _ _ _ _ hP hS hw dX5_howManyNearLine_90
      · replace hw := And.right hw hc
        refine lv_aload_n hx hb dX5_howManyNearLine_18 rfl (lv_at hl 0 rfl) ?_
        refine va_get (D := D) (ci := 5) (v := .ref (h 8)) (C := RX5) (T := TX5) (N := 10) hx hb hts inX5 hown hK hP 1 wX_1 rfl 4 (by decide) f0 (fun _ h9 => h9) rfl dX5_howManyNearLine_19 ?_
        refine va_get (D := D) (ci := 4) (v := .ref (h 9)) (C := RX4) (T := TX4) (N := 5) hx hb hts inX4 hown hK hP 8 wX_8 rfl 1 (by decide) f4 (fun _ h9 => h9) rfl dX5_howManyNearLine_22 ?_
        refine lv_iload hx hb dX5_howManyNearLine_25 (lv_at hl 5 rfl) ?_
        obtain ⟨hi, hw⟩ := hw
        refine va_iald hx hb hK hP 9 0 wX_9 rfl hi dX5_howManyNearLine_27 ?_
        refine lv_istore (lv' := [(6, .int (S 9 v5.toNatClampNeg)), (0, .ref (h 1)), (1, .int v1), (2, .int v2), (3, .int v3), (4, .int v4), (5, .int v5)]) hx hb dX5_howManyNearLine_28 hl (by decide) rfl (fun ls hl => ?_)
        refine lv_aload_n hx hb dX5_howManyNearLine_30 rfl (lv_at hl 1 rfl) ?_
        refine va_get (D := D) (ci := 5) (v := .ref (h 3)) (C := RX5) (T := TX5) (N := 10) hx hb hts inX5 hown hK hP 1 wX_1 rfl 3 (by decide) f5 (fun _ h9 => h9) rfl dX5_howManyNearLine_31 ?_
        refine va_get (D := D) (ci := 0) (v := .ref (h 5)) (C := RX0) (T := TX0) (N := 4) hx hb hts inX0 hown hK hP 3 wX_3 rfl 1 (by decide) f6 (fun _ h9 => h9) rfl dX5_howManyNearLine_34 ?_
        refine lv_iload hx hb dX5_howManyNearLine_37 (lv_at hl 0 rfl) ?_
        obtain ⟨hi, hw⟩ := hw
        refine va_iald hx hb hK hP 5 0 wX_5 rfl hi dX5_howManyNearLine_39 ?_
        refine lv_istore (lv' := [(7, .int (S 5 (S 9 v5.toNatClampNeg).toNatClampNeg)), (6, .int (S 9 v5.toNatClampNeg)), (0, .ref (h 1)), (1, .int v1), (2, .int v2), (3, .int v3), (4, .int v4), (5, .int v5)]) hx hb dX5_howManyNearLine_40 hl (by decide) rfl (fun ls hl => ?_)
        refine lv_iload_n hx hb dX5_howManyNearLine_42 rfl (lv_at hl 3 rfl) ?_
        refine lv_iload hx hb dX5_howManyNearLine_43 (lv_at hl 1 rfl) ?_
        refine lv_ishr hx hb dX5_howManyNearLine_45 ?_
        refine lv_iconst (v := (1 : Int32)) hx hb dX5_howManyNearLine_46 (by decide) ?_
        refine lv_iand hx hb dX5_howManyNearLine_47 ?_
        refine lv_iconst (v := (1 : Int32)) hx hb dX5_howManyNearLine_48 (by decide) ?_
        refine lv_icmp_ne (tgt := 82) hx hb dX5_howManyNearLine_49 (by decide) (fun hc => ?_) (fun hc => ?_)
        · replace hw := And.right hw hc
          refine lv_iinc (v := v5 + (1 : Int32)) (lv' := [(5, .int (v5 + (1 : Int32))), (7, .int (S 5 (S 9 v5.toNatClampNeg).toNatClampNeg)), (6, .int (S 9 v5.toNatClampNeg)), (0, .ref (h 1)), (1, .int v1), (2, .int v2), (3, .int v3), (4, .int v4)]) hx hb dX5_howManyNearLine_82 hl (k := 7) rfl rfl (by decide) rfl (fun ls hl => ?_)
          refine lv_goto (tgt := 6) hx hb dX5_howManyNearLine_85 (by decide) ?_
          exact i6 v4 (v5 + (1 : Int32)) _ _ _ (lv_sub hl [3, 4, 5, 6, 7, 0] rfl) hP hS hw
        · replace hw := And.left hw hc
          refine lv_iload hx hb dX5_howManyNearLine_52 (lv_at hl 0 rfl) ?_
          refine lv_if_le (tgt := 82) hx hb dX5_howManyNearLine_54 (by decide) (fun hc => ?_) (fun hc => ?_)
          · replace hw := And.left hw hc
            refine lv_iinc (v := v5 + (1 : Int32)) (lv' := [(5, .int (v5 + (1 : Int32))), (7, .int (S 5 (S 9 v5.toNatClampNeg).toNatClampNeg)), (6, .int (S 9 v5.toNatClampNeg)), (0, .ref (h 1)), (1, .int v1), (2, .int v2), (3, .int v3), (4, .int v4)]) hx hb dX5_howManyNearLine_82 hl (k := 7) rfl rfl (by decide) rfl (fun ls hl => ?_)
            refine lv_goto (tgt := 6) hx hb dX5_howManyNearLine_85 (by decide) ?_
            exact i6 v4 (v5 + (1 : Int32)) _ _ _ (lv_sub hl [3, 4, 5, 6, 7, 0] rfl) hP hS hw
          · replace hw := And.right hw hc
            refine lv_aload_n hx hb dX5_howManyNearLine_57 rfl (lv_at hl 2 rfl) ?_
            refine lv_iload hx hb dX5_howManyNearLine_58 (lv_at hl 7 rfl) ?_
            refine lv_iload hx hb dX5_howManyNearLine_60 (lv_at hl 1 rfl) ?_
            refine xVi0 (As := [.int v5, .int (S 9 v5.toNatClampNeg)]) (rest := []) hst hE hP hS ⟨hx, hb, hml, hown, hts⟩ (va_recv hK hP (ci := 5) (q := (RX5, TX5, 10)) rfl wX_1) (mX5_sworn l D h cI cJ t0 hh S L v5 (S 9 v5.toNatClampNeg) _ hw) (cwV 2 hts gX5_howManyNearLine_X5_sworn rfl rfl rfl (by decide +kernel) ⟨Nat.le_of_ble_eq_true rfl, Nat.le_of_ble_eq_true rfl⟩) rfl hl.1 rfl (Nat.le_of_ble_eq_true rfl) dX5_howManyNearLine_62 ⟨Nat.zero_le _, Nat.zero_le _⟩ (fun r62 H locs hw hP hS => ?_)
            refine lv_iload hx hb dX5_howManyNearLine_65 (lv_at hl 0 rfl) ?_
            refine lv_isub hx hb dX5_howManyNearLine_67 ?_
            refine lv_i2l hx hb dX5_howManyNearLine_68 rfl ?_
            refine lv_iload_n hx hb dX5_howManyNearLine_69 rfl (lv_at hl 4 rfl) ?_
            refine lv_i2l hx hb dX5_howManyNearLine_70 rfl ?_
            refine lv_iload_n hx hb dX5_howManyNearLine_71 rfl (lv_at hl 5 rfl) ?_
            refine lv_i2l hx hb dX5_howManyNearLine_72 rfl ?_
            refine xNi0 (As := [.long ((r62 - (S 5 (S 9 v5.toNatClampNeg).toNatClampNeg)).toInt64), .long v2.toInt64, .long v3.toInt64]) (rest := []) hst hE hP hS ⟨hx, hb, hml, hown, hts⟩ (mX6_isWithin l D h cI cJ t0 hh S L ((r62 - (S 5 (S 9 v5.toNatClampNeg).toNatClampNeg)).toInt64) v2.toInt64 v3.toInt64 _ hw) ⟨va_cnB (own := RX5) (host := "BookOfWills") (index := 111) 3 hts gX5_howManyNearLine_X6_isWithin_n111 rfl rfl rfl hE.2.2.2.1 (f8) (by decide +kernel) ⟨Nat.le_of_ble_eq_true rfl, Nat.le_of_ble_eq_true rfl⟩, f9, trivial⟩ rfl hl.1 rfl (Nat.le_of_ble_eq_true rfl) dX5_howManyNearLine_73 ⟨Nat.zero_le _, Nat.zero_le _⟩ (fun r73 H locs hw hP hS => ?_)
            refine lv_if_eq (tgt := 82) hx hb dX5_howManyNearLine_76 (by decide) (fun hc => ?_) (fun hc => ?_)
            · replace hw := And.left hw hc
              refine lv_iinc (v := v5 + (1 : Int32)) (lv' := [(5, .int (v5 + (1 : Int32))), (7, .int (S 5 (S 9 v5.toNatClampNeg).toNatClampNeg)), (6, .int (S 9 v5.toNatClampNeg)), (0, .ref (h 1)), (1, .int v1), (2, .int v2), (3, .int v3), (4, .int v4)]) hx hb dX5_howManyNearLine_82 hl (k := 7) rfl rfl (by decide) rfl (fun ls hl => ?_)
              refine lv_goto (tgt := 6) hx hb dX5_howManyNearLine_85 (by decide) ?_
              exact i6 v4 (v5 + (1 : Int32)) _ _ _ (lv_sub hl [3, 4, 5, 6, 7, 0] rfl) hP hS hw
            · replace hw := And.right hw hc
              refine lv_iinc (v := v4 + (1 : Int32)) (lv' := [(4, .int (v4 + (1 : Int32))), (7, .int (S 5 (S 9 v5.toNatClampNeg).toNatClampNeg)), (6, .int (S 9 v5.toNatClampNeg)), (0, .ref (h 1)), (1, .int v1), (2, .int v2), (3, .int v3), (5, .int v5)]) hx hb dX5_howManyNearLine_79 hl (k := 6) rfl rfl (by decide) rfl (fun ls hl => ?_)
              refine lv_iinc (v := v5 + (1 : Int32)) (lv' := [(5, .int (v5 + (1 : Int32))), (4, .int (v4 + (1 : Int32))), (7, .int (S 5 (S 9 v5.toNatClampNeg).toNatClampNeg)), (6, .int (S 9 v5.toNatClampNeg)), (0, .ref (h 1)), (1, .int v1), (2, .int v2), (3, .int v3)]) hx hb dX5_howManyNearLine_82 hl (k := 7) rfl rfl (by decide) rfl (fun ls hl => ?_)
              refine lv_goto (tgt := 6) hx hb dX5_howManyNearLine_85 (by decide) ?_
              exact i6 (v4 + (1 : Int32)) (v5 + (1 : Int32)) _ _ _ (lv_sub hl [4, 5, 6, 7, 1, 0] rfl) hP hS hw
  unfold kX5_howManyNearLine at hw
  refine lv_iconst (v := (0 : Int32)) hx hb dX5_howManyNearLine_0 (by decide) ?_
  refine lv_istore (lv' := [(4, .int (0 : Int32)), (0, .ref (h 1)), (1, .int v1), (2, .int v2), (3, .int v3)]) hx hb dX5_howManyNearLine_1 hl (by decide) rfl (fun ls hl => ?_)
  refine lv_iconst (v := (0 : Int32)) hx hb dX5_howManyNearLine_3 (by decide) ?_
  refine lv_istore (lv' := [(5, .int (0 : Int32)), (4, .int (0 : Int32)), (0, .ref (h 1)), (1, .int v1), (2, .int v2), (3, .int v3)]) hx hb dX5_howManyNearLine_4 hl (by decide) rfl (fun ls hl => ?_)
  obtain ⟨n6, hw⟩ := hw
  exact b6  n6 (0 : Int32) (0 : Int32) _ _ _ (lv_sub hl [2, 3, 4, 5, 1, 0] rfl) hP hS hw
abbrev rX5_sumSworn : Room := { frames := 4, cells := 0, slots := 0, locals := 93 }
set_option maxHeartbeats 4000000 in
set_option maxRecDepth 100000 in
theorem mX5_sumSworn (l : Launch) (D : va_G) (h : Nat → Nat) (cI cJ : ClassId) (t0 : Nat) (hh : xdis 53 h) (S : SX) (L : LX) (v1 : Int32) (v2 : Int32) (post : Int64 → Prop) (hw : kX5_sumSworn S L v1 v2 post) : Met l yX5_sumSworn wsX5_sumSworn rX5_sumSworn (xPre D (wX h cI cJ) (xE D h cI cJ t0) S L [.ref (h 1), .int v1, .int v2]) (va_Ql (fun (r : Int64) (u : SX × LX) => post r ∧ u.1 = S ∧ u.2 = L) (xB D (wX h cI cJ)) (xA 53 h)) 0 0 (xA 53 h) := by
  refine Met.ofW (cc := cX5_sumSworn) (maxL := 6) (ret := (some .long)) (by decide) rfl ?_
  intro p e s m args below meth c s₁ B hml hv
  obtain ⟨hargs, hP, hE⟩ := hv
  have hx := B.exec
  have hb := B.bytes
  have hr := B.returns
  have hlocks := B.notSynchronized
  have hts := atoms_spec (ws := wsX5_sumSworn) B.pre
  have hown : s.vm.findClass RX5 = some m.cls := findClass_of_methodNamed B.named
  have hS : va_S (xA 53 h) s.heap s.heap [] := va_S.rf
  have hD : ∀ (S : SX) (L : LX), va_D (xA 53 h) (wX h cI cJ S L) := fun S L => wX_D hh cI cJ S L
  have hK := hE.1
  have hst : xSt (xA 53 h) (xE D h cI cJ t0) := xE_st D h cI cJ t0
  have f0 := hts (.fieldLink RX5 30 "BookOfWills$World" "wills" "LBookOfWills$Wills;") (by decide +kernel)
  have inX5 : ∀ w ∈ u_ws RX5 TX5 10, w ∈ wsX5_sumSworn := fun w hw9 => List.mem_cons_of_mem _ (List.mem_append_left _ (List.mem_append_left _ (List.mem_append_right _ hw9)))
  have f2 := hts (.fieldLink RX5 104 "BookOfWills$Wills" "size" "I") (by decide +kernel)
  have inX4 : ∀ w ∈ u_ws RX4 TX4 5, w ∈ wsX5_sumSworn := fun w hw9 => List.mem_cons_of_mem _ (List.mem_append_left _ (List.mem_append_right _ hw9))
  have f4 := hts (.fieldLink RX5 98 "BookOfWills$Wills" "year" "[I") (by decide +kernel)
  have hl := lv_entry ([.ref (h 1), .int v1, .int v2]) (n := 6) (Nat.le_of_ble_eq_true rfl)
  have hen : entryFrame m args 6 = F0 m 0 ((lg_sl ([.ref (h 1), .int v1, .int v2]) ++ List.replicate (6 - (lg_sl ([.ref (h 1), .int v1, .int v2])).length) Slot.unset).toArray) [] := by rw [hargs]; exact lg_entry_eq m _ _
  rw [hen]
  generalize (lg_sl ([.ref (h 1), .int v1, .int v2]) ++ List.replicate (6 - (lg_sl ([.ref (h 1), .int v1, .int v2])).length) Slot.unset).toArray = ls at hl ⊢
  have hl : lv_has ls 6 [(0, .ref (h 1)), (1, .int v1), (2, .int v2)] := hl
  change W p l e rX5_sumSworn s m args below meth c s.heap [] 0 0 (MQ below (va_Ql (fun (r : Int64) (u : SX × LX) => post r ∧ u.1 = S ∧ u.2 = L) (xB D (wX h cI cJ)) (xA 53 h)) args s 0 0 (xA 53 h)) (F0 m 0 ls [])
  have hret : ∀ (r : Int64) (H : Heap) (locs : List Loc) (ls : Array Slot) (pc : Nat), va_P D vwCl (wX h cI cJ S L) H → va_S (xA 53 h) s.heap H locs → post r → decode cX5_sumSworn pc = .ok (.lreturn, 1) → W p l e rX5_sumSworn s m args below meth c H locs 0 0 (MQ below (va_Ql (fun (r : Int64) (u : SX × LX) => post r ∧ u.1 = S ∧ u.2 = L) (xB D (wX h cI cJ)) (xA 53 h)) args s 0 0 (xA 53 h)) (F0 m pc ls [.long r]) := fun r H locs ls pc hP hS hw hd => W.lret hx hb hr (fun t ht hW => ⟨⟨r, (S, L), rfl, ⟨hw, rfl, rfl⟩, show va_P D vwCl (wX h cI cJ S L) t.heap by rw [ht]; exact hP⟩, hS.F ht⟩) hS.2.2 hd
  generalize MQ below (va_Ql (fun (r : Int64) (u : SX × LX) => post r ∧ u.1 = S ∧ u.2 = L) (xB D (wX h cI cJ)) (xA 53 h)) args s 0 0 (xA 53 h) = Q at hret ⊢
  have b5 : ∀  (n5 : Nat) (v3 : Int64) (v5 : Int32) (H : Heap) (locs : List Loc) (ls : Array Slot), lv_has ls 6 [(0, .ref (h 1)), (1, .int v1), (2, .int v2), (3, .long v3), (5, .int v5)] → va_P D vwCl (wX h cI cJ S L) H → va_S (xA 53 h) s.heap H locs → kX5_sumSworn_b5 S L v1 v2 post n5 v3 v5 → W p l e rX5_sumSworn s m args below meth c H locs 0 0 Q (F0 m 5 ls []) := by
    intro n5
    induction n5 with
    | zero => intro v3 v5 H locs ls hl hP hS hw; exact absurd hw id
    | succ n5 i5 =>
      intro v3 v5 H locs ls hl hP hS hw
      unfold kX5_sumSworn_b5 at hw
      refine lv_iload hx hb dX5_sumSworn_5 (lv_at hl 4 rfl) ?_
      refine lv_aload_n hx hb dX5_sumSworn_7 rfl (lv_at hl 0 rfl) ?_
      refine va_get (D := D) (ci := 5) (v := .ref (h 8)) (C := RX5) (T := TX5) (N := 10) hx hb hts inX5 hown hK hP 1 wX_1 rfl 4 (by decide) f0 (fun _ h9 => h9) rfl dX5_sumSworn_8 ?_
      refine va_get (D := D) (ci := 4) (v := .int (S 8 0)) (C := RX4) (T := TX4) (N := 5) hx hb hts inX4 hown hK hP 8 wX_8 rfl 0 (by decide) f2 (fun _ h9 => h9) rfl dX5_sumSworn_11 ?_
      refine lv_icmp_ge (tgt := 67) hx hb dX5_sumSworn_14 (by decide) (fun hc => ?_) (fun hc => ?_)
      · replace hw := And.left hw hc
        refine lv_lload_n hx hb dX5_sumSworn_67 rfl (lv_at hl 3 rfl) ?_
        exact hret _ _ _ _ _ hP hS hw dX5_sumSworn_68
      · replace hw := And.right hw hc
        refine lv_aload_n hx hb dX5_sumSworn_17 rfl (lv_at hl 0 rfl) ?_
        refine va_get (D := D) (ci := 5) (v := .ref (h 8)) (C := RX5) (T := TX5) (N := 10) hx hb hts inX5 hown hK hP 1 wX_1 rfl 4 (by decide) f0 (fun _ h9 => h9) rfl dX5_sumSworn_18 ?_
        refine va_get (D := D) (ci := 4) (v := .ref (h 9)) (C := RX4) (T := TX4) (N := 5) hx hb hts inX4 hown hK hP 8 wX_8 rfl 1 (by decide) f4 (fun _ h9 => h9) rfl dX5_sumSworn_21 ?_
        refine lv_iload hx hb dX5_sumSworn_24 (lv_at hl 4 rfl) ?_
        obtain ⟨hi, hw⟩ := hw
        refine va_iald hx hb hK hP 9 0 wX_9 rfl hi dX5_sumSworn_26 ?_
        refine lv_iload_n hx hb dX5_sumSworn_27 rfl (lv_at hl 1 rfl) ?_
        refine lv_icmp_ne (tgt := 61) hx hb dX5_sumSworn_28 (by decide) (fun hc => ?_) (fun hc => ?_)
        · replace hw := And.right hw hc
          refine lv_iinc (v := v5 + (1 : Int32)) (lv' := [(5, .int (v5 + (1 : Int32))), (0, .ref (h 1)), (1, .int v1), (2, .int v2), (3, .long v3)]) hx hb dX5_sumSworn_61 hl (k := 4) rfl rfl (by decide) rfl (fun ls hl => ?_)
          refine lv_goto (tgt := 5) hx hb dX5_sumSworn_64 (by decide) ?_
          exact i5 v3 (v5 + (1 : Int32)) _ _ _ (lv_sub hl [1, 2, 3, 4, 0] rfl) hP hS hw
        · replace hw := And.left hw hc
          refine lv_aload_n hx hb dX5_sumSworn_31 rfl (lv_at hl 0 rfl) ?_
          refine lv_iload hx hb dX5_sumSworn_32 (lv_at hl 4 rfl) ?_
          refine lv_iload_n hx hb dX5_sumSworn_34 rfl (lv_at hl 2 rfl) ?_
          refine xVi0 (As := [.int v5, .int v2]) (rest := []) hst hE hP hS ⟨hx, hb, hml, hown, hts⟩ (va_recv hK hP (ci := 5) (q := (RX5, TX5, 10)) rfl wX_1) (mX5_isInBook l D h cI cJ t0 hh S L v5 v2 _ hw) (cwV 2 hts gX5_sumSworn_X5_isInBook rfl rfl rfl (by decide +kernel) ⟨Nat.le_of_ble_eq_true rfl, Nat.le_of_ble_eq_true rfl⟩) rfl hl.1 rfl (Nat.le_of_ble_eq_true rfl) dX5_sumSworn_35 ⟨Nat.zero_le _, Nat.zero_le _⟩ (fun r35 H locs hw hP hS => ?_)
          refine lv_if_eq (tgt := 61) hx hb dX5_sumSworn_38 (by decide) (fun hc => ?_) (fun hc => ?_)
          · replace hw := And.left hw hc
            refine lv_iinc (v := v5 + (1 : Int32)) (lv' := [(5, .int (v5 + (1 : Int32))), (0, .ref (h 1)), (1, .int v1), (2, .int v2), (3, .long v3)]) hx hb dX5_sumSworn_61 hl (k := 4) rfl rfl (by decide) rfl (fun ls hl => ?_)
            refine lv_goto (tgt := 5) hx hb dX5_sumSworn_64 (by decide) ?_
            exact i5 v3 (v5 + (1 : Int32)) _ _ _ (lv_sub hl [1, 2, 3, 4, 0] rfl) hP hS hw
          · replace hw := And.right hw hc
            refine lv_lload_n hx hb dX5_sumSworn_41 rfl (lv_at hl 3 rfl) ?_
            refine lv_aload_n hx hb dX5_sumSworn_42 rfl (lv_at hl 0 rfl) ?_
            refine lv_iload hx hb dX5_sumSworn_43 (lv_at hl 4 rfl) ?_
            refine lv_iload_n hx hb dX5_sumSworn_45 rfl (lv_at hl 2 rfl) ?_
            refine xVi0 (As := [.int v5, .int v2]) (rest := [.long v3]) hst hE hP hS ⟨hx, hb, hml, hown, hts⟩ (va_recv hK hP (ci := 5) (q := (RX5, TX5, 10)) rfl wX_1) (mX5_sworn l D h cI cJ t0 hh S L v5 v2 _ hw) (cwV 2 hts gX5_sumSworn_X5_sworn rfl rfl rfl (by decide +kernel) ⟨Nat.le_of_ble_eq_true rfl, Nat.le_of_ble_eq_true rfl⟩) rfl hl.1 rfl (Nat.le_of_ble_eq_true rfl) dX5_sumSworn_46 ⟨Nat.zero_le _, Nat.zero_le _⟩ (fun r46 H locs hw hP hS => ?_)
            refine lv_i2l hx hb dX5_sumSworn_49 rfl ?_
            refine lv_aload_n hx hb dX5_sumSworn_50 rfl (lv_at hl 0 rfl) ?_
            refine lv_iload hx hb dX5_sumSworn_51 (lv_at hl 4 rfl) ?_
            refine lv_iload_n hx hb dX5_sumSworn_53 rfl (lv_at hl 2 rfl) ?_
            refine xVi0 (As := [.int v5, .int v2]) (rest := [.long r46.toInt64, .long v3]) hst hE hP hS ⟨hx, hb, hml, hown, hts⟩ (va_recv hK hP (ci := 5) (q := (RX5, TX5, 10)) rfl wX_1) (mX5_weight l D h cI cJ t0 hh S L v5 v2 _ hw) (cwV 2 hts gX5_sumSworn_X5_weight rfl rfl rfl (by decide +kernel) ⟨Nat.le_of_ble_eq_true rfl, Nat.le_of_ble_eq_true rfl⟩) rfl hl.1 rfl (Nat.le_of_ble_eq_true rfl) dX5_sumSworn_54 ⟨Nat.zero_le _, Nat.zero_le _⟩ (fun r54 H locs hw hP hS => ?_)
            refine lv_i2l hx hb dX5_sumSworn_57 rfl ?_
            refine lv_lmul hx hb dX5_sumSworn_58 ?_
            refine lv_ladd hx hb dX5_sumSworn_59 ?_
            refine lv_lstore_n (lv' := [(3, .long (v3 + (r46.toInt64 * r54.toInt64))), (0, .ref (h 1)), (1, .int v1), (2, .int v2), (5, .int v5)]) hx hb dX5_sumSworn_60 rfl hl (by decide) rfl (fun ls hl => ?_)
            refine lv_iinc (v := v5 + (1 : Int32)) (lv' := [(5, .int (v5 + (1 : Int32))), (3, .long (v3 + (r46.toInt64 * r54.toInt64))), (0, .ref (h 1)), (1, .int v1), (2, .int v2)]) hx hb dX5_sumSworn_61 hl (k := 4) rfl rfl (by decide) rfl (fun ls hl => ?_)
            refine lv_goto (tgt := 5) hx hb dX5_sumSworn_64 (by decide) ?_
            exact i5 (v3 + (r46.toInt64 * r54.toInt64)) (v5 + (1 : Int32)) _ _ _ (lv_sub hl [2, 3, 4, 1, 0] rfl) hP hS hw
  unfold kX5_sumSworn at hw
  refine lv_lconst (v := (0 : Int64)) hx hb dX5_sumSworn_0 (by decide) ?_
  refine lv_lstore_n (lv' := [(3, .long (0 : Int64)), (0, .ref (h 1)), (1, .int v1), (2, .int v2)]) hx hb dX5_sumSworn_1 rfl hl (by decide) rfl (fun ls hl => ?_)
  refine lv_iconst (v := (0 : Int32)) hx hb dX5_sumSworn_2 (by decide) ?_
  refine lv_istore (lv' := [(5, .int (0 : Int32)), (3, .long (0 : Int64)), (0, .ref (h 1)), (1, .int v1), (2, .int v2)]) hx hb dX5_sumSworn_3 hl (by decide) rfl (fun ls hl => ?_)
  obtain ⟨n5, hw⟩ := hw
  exact b5  n5 (0 : Int64) (0 : Int32) _ _ _ (lv_sub hl [2, 3, 4, 1, 0] rfl) hP hS hw
abbrev rX5_allHad : Room := { frames := 0, cells := 0, slots := 0, locals := 0 }
set_option maxHeartbeats 4000000 in
set_option maxRecDepth 100000 in
theorem mX5_allHad (l : Launch) (D : va_G) (h : Nat → Nat) (cI cJ : ClassId) (t0 : Nat) (hh : xdis 53 h) (S : SX) (L : LX) (v1 : Int32) (post : Int32 → Prop) (hw : kX5_allHad S L v1 post) : Met l yX5_allHad wsX5_allHad rX5_allHad (xPre D (wX h cI cJ) (xE D h cI cJ t0) S L [.ref (h 1), .int v1]) (va_Qi (fun (r : Int32) (u : SX × LX) => post r ∧ u.1 = S ∧ u.2 = L) (xB D (wX h cI cJ)) (xA 53 h)) 0 0 (xA 53 h) := by
  refine Met.ofW (cc := cX5_allHad) (maxL := 4) (ret := (some .int)) (by decide) rfl ?_
  intro p e s m args below meth c s₁ B hml hv
  obtain ⟨hargs, hP, hE⟩ := hv
  have hx := B.exec
  have hb := B.bytes
  have hr := B.returns
  have hlocks := B.notSynchronized
  have hts := atoms_spec (ws := wsX5_allHad) B.pre
  have hown : s.vm.findClass RX5 = some m.cls := findClass_of_methodNamed B.named
  have hS : va_S (xA 53 h) s.heap s.heap [] := va_S.rf
  have hD : ∀ (S : SX) (L : LX), va_D (xA 53 h) (wX h cI cJ S L) := fun S L => wX_D hh cI cJ S L
  have hK := hE.1
  have hst : xSt (xA 53 h) (xE D h cI cJ t0) := xE_st D h cI cJ t0
  have f0 := hts (.fieldLink RX5 30 "BookOfWills$World" "wills" "LBookOfWills$Wills;") (by decide +kernel)
  have inX5 : ∀ w ∈ u_ws RX5 TX5 10, w ∈ wsX5_allHad := fun w hw9 => List.mem_cons_of_mem _ (List.mem_append_left _ (List.mem_append_right _ hw9))
  have f2 := hts (.fieldLink RX5 72 "BookOfWills$Wills" "had" "[I") (by decide +kernel)
  have inX4 : ∀ w ∈ u_ws RX4 TX4 5, w ∈ wsX5_allHad := fun w hw9 => List.mem_cons_of_mem _ (List.mem_append_right _ hw9)
  have hl := lv_entry ([.ref (h 1), .int v1]) (n := 4) (Nat.le_of_ble_eq_true rfl)
  have hen : entryFrame m args 4 = F0 m 0 ((lg_sl ([.ref (h 1), .int v1]) ++ List.replicate (4 - (lg_sl ([.ref (h 1), .int v1])).length) Slot.unset).toArray) [] := by rw [hargs]; exact lg_entry_eq m _ _
  rw [hen]
  generalize (lg_sl ([.ref (h 1), .int v1]) ++ List.replicate (4 - (lg_sl ([.ref (h 1), .int v1])).length) Slot.unset).toArray = ls at hl ⊢
  have hl : lv_has ls 4 [(0, .ref (h 1)), (1, .int v1)] := hl
  change W p l e rX5_allHad s m args below meth c s.heap [] 0 0 (MQ below (va_Qi (fun (r : Int32) (u : SX × LX) => post r ∧ u.1 = S ∧ u.2 = L) (xB D (wX h cI cJ)) (xA 53 h)) args s 0 0 (xA 53 h)) (F0 m 0 ls [])
  have hret : ∀ (r : Int32) (H : Heap) (locs : List Loc) (ls : Array Slot) (pc : Nat), va_P D vwCl (wX h cI cJ S L) H → va_S (xA 53 h) s.heap H locs → post r → decode cX5_allHad pc = .ok (.ireturn, 1) → W p l e rX5_allHad s m args below meth c H locs 0 0 (MQ below (va_Qi (fun (r : Int32) (u : SX × LX) => post r ∧ u.1 = S ∧ u.2 = L) (xB D (wX h cI cJ)) (xA 53 h)) args s 0 0 (xA 53 h)) (F0 m pc ls [.int r]) := fun r H locs ls pc hP hS hw hd => W.iret hx hb hr (fun t ht hW => ⟨⟨r, (S, L), rfl, ⟨hw, rfl, rfl⟩, show va_P D vwCl (wX h cI cJ S L) t.heap by rw [ht]; exact hP⟩, hS.F ht⟩) hS.2.2 hd
  generalize MQ below (va_Qi (fun (r : Int32) (u : SX × LX) => post r ∧ u.1 = S ∧ u.2 = L) (xB D (wX h cI cJ)) (xA 53 h)) args s 0 0 (xA 53 h) = Q at hret ⊢
  have b4 : ∀  (n4 : Nat) (v2 : Int32) (v3 : Int32) (H : Heap) (locs : List Loc) (ls : Array Slot), lv_has ls 4 [(0, .ref (h 1)), (1, .int v1), (2, .int v2), (3, .int v3)] → va_P D vwCl (wX h cI cJ S L) H → va_S (xA 53 h) s.heap H locs → kX5_allHad_b4 S L v1 post n4 v2 v3 → W p l e rX5_allHad s m args below meth c H locs 0 0 Q (F0 m 4 ls []) := by
    intro n4
    induction n4 with
    | zero => intro v2 v3 H locs ls hl hP hS hw; exact absurd hw id
    | succ n4 i4 =>
      intro v2 v3 H locs ls hl hP hS hw
      unfold kX5_allHad_b4 at hw
      refine lv_iload_n hx hb dX5_allHad_4 rfl (lv_at hl 3 rfl) ?_
      refine lv_iconst (v := (4 : Int32)) hx hb dX5_allHad_5 (by decide) ?_
      refine lv_icmp_ge (tgt := 31) hx hb dX5_allHad_6 (by decide) (fun hc => ?_) (fun hc => ?_)
      · replace hw := And.left hw hc
        refine lv_iload_n hx hb dX5_allHad_31 rfl (lv_at hl 2 rfl) ?_
        exact hret _ _ _ _ _ hP hS hw dX5_allHad_32
      · replace hw := And.right hw hc
        refine lv_iload_n hx hb dX5_allHad_9 rfl (lv_at hl 2 rfl) ?_
        refine lv_aload_n hx hb dX5_allHad_10 rfl (lv_at hl 0 rfl) ?_
        refine va_get (D := D) (ci := 5) (v := .ref (h 8)) (C := RX5) (T := TX5) (N := 10) hx hb hts inX5 hown hK hP 1 wX_1 rfl 4 (by decide) f0 (fun _ h9 => h9) rfl dX5_allHad_11 ?_
        refine va_get (D := D) (ci := 4) (v := .ref (h 12)) (C := RX4) (T := TX4) (N := 5) hx hb hts inX4 hown hK hP 8 wX_8 rfl 4 (by decide) f2 (fun _ h9 => h9) rfl dX5_allHad_14 ?_
        refine lv_iload_n hx hb dX5_allHad_17 rfl (lv_at hl 1 rfl) ?_
        refine lv_iconst (v := (4 : Int32)) hx hb dX5_allHad_18 (by decide) ?_
        refine lv_imul hx hb dX5_allHad_19 ?_
        refine lv_iload_n hx hb dX5_allHad_20 rfl (lv_at hl 3 rfl) ?_
        refine lv_iadd hx hb dX5_allHad_21 ?_
        obtain ⟨hi, hw⟩ := hw
        refine va_iald hx hb hK hP 12 0 wX_12 rfl hi dX5_allHad_22 ?_
        refine lv_iadd hx hb dX5_allHad_23 ?_
        refine lv_istore_n (lv' := [(2, .int (v2 + (S 12 ((v1 * (4 : Int32)) + v3).toNatClampNeg))), (0, .ref (h 1)), (1, .int v1), (3, .int v3)]) hx hb dX5_allHad_24 rfl hl (by decide) rfl (fun ls hl => ?_)
        refine lv_iinc (v := v3 + (1 : Int32)) (lv' := [(3, .int (v3 + (1 : Int32))), (2, .int (v2 + (S 12 ((v1 * (4 : Int32)) + v3).toNatClampNeg))), (0, .ref (h 1)), (1, .int v1)]) hx hb dX5_allHad_25 hl (k := 3) rfl rfl (by decide) rfl (fun ls hl => ?_)
        refine lv_goto (tgt := 4) hx hb dX5_allHad_28 (by decide) ?_
        exact i4 (v2 + (S 12 ((v1 * (4 : Int32)) + v3).toNatClampNeg)) (v3 + (1 : Int32)) _ _ _ (lv_sub hl [2, 3, 1, 0] rfl) hP hS hw
  unfold kX5_allHad at hw
  refine lv_iconst (v := (0 : Int32)) hx hb dX5_allHad_0 (by decide) ?_
  refine lv_istore_n (lv' := [(2, .int (0 : Int32)), (0, .ref (h 1)), (1, .int v1)]) hx hb dX5_allHad_1 rfl hl (by decide) rfl (fun ls hl => ?_)
  refine lv_iconst (v := (0 : Int32)) hx hb dX5_allHad_2 (by decide) ?_
  refine lv_istore_n (lv' := [(3, .int (0 : Int32)), (2, .int (0 : Int32)), (0, .ref (h 1)), (1, .int v1)]) hx hb dX5_allHad_3 rfl hl (by decide) rfl (fun ls hl => ?_)
  obtain ⟨n4, hw⟩ := hw
  exact b4  n4 (0 : Int32) (0 : Int32) _ _ _ (lv_sub hl [2, 3, 1, 0] rfl) hP hS hw
abbrev rX5_sumUnseen : Room := { frames := 4, cells := 0, slots := 0, locals := 93 }
set_option maxHeartbeats 4000000 in
set_option maxRecDepth 100000 in
theorem mX5_sumUnseen (l : Launch) (D : va_G) (h : Nat → Nat) (cI cJ : ClassId) (t0 : Nat) (hh : xdis 53 h) (S : SX) (L : LX) (v1 : Int32) (post : Int64 → Prop) (hw : kX5_sumUnseen S L v1 post) : Met l yX5_sumUnseen wsX5_sumUnseen rX5_sumUnseen (xPre D (wX h cI cJ) (xE D h cI cJ t0) S L [.ref (h 1), .int v1]) (va_Ql (fun (r : Int64) (u : SX × LX) => post r ∧ u.1 = S ∧ u.2 = L) (xB D (wX h cI cJ)) (xA 53 h)) 0 0 (xA 53 h) := by
  refine Met.ofW (cc := cX5_sumUnseen) (maxL := 6) (ret := (some .long)) (by decide) rfl ?_
  intro p e s m args below meth c s₁ B hml hv
  obtain ⟨hargs, hP, hE⟩ := hv
  have hx := B.exec
  have hb := B.bytes
  have hr := B.returns
  have hlocks := B.notSynchronized
  have hts := atoms_spec (ws := wsX5_sumUnseen) B.pre
  have hown : s.vm.findClass RX5 = some m.cls := findClass_of_methodNamed B.named
  have hS : va_S (xA 53 h) s.heap s.heap [] := va_S.rf
  have hD : ∀ (S : SX) (L : LX), va_D (xA 53 h) (wX h cI cJ S L) := fun S L => wX_D hh cI cJ S L
  have hK := hE.1
  have hst : xSt (xA 53 h) (xE D h cI cJ t0) := xE_st D h cI cJ t0
  have f0 := hts (.fieldLink RX5 30 "BookOfWills$World" "wills" "LBookOfWills$Wills;") (by decide +kernel)
  have inX5 : ∀ w ∈ u_ws RX5 TX5 10, w ∈ wsX5_sumUnseen := fun w hw9 => List.mem_cons_of_mem _ (List.mem_append_left _ (List.mem_append_left _ (List.mem_append_right _ hw9)))
  have f2 := hts (.fieldLink RX5 104 "BookOfWills$Wills" "size" "I") (by decide +kernel)
  have inX4 : ∀ w ∈ u_ws RX4 TX4 5, w ∈ wsX5_sumUnseen := fun w hw9 => List.mem_cons_of_mem _ (List.mem_append_left _ (List.mem_append_right _ hw9))
  have f4 := hts (.fieldLink RX5 98 "BookOfWills$Wills" "year" "[I") (by decide +kernel)
  have f5 := hts (.fieldLink RX5 9 "BookOfWills$World" "lives" "[I") (by decide +kernel)
  have f6 := hts (.fieldLink RX5 95 "BookOfWills$Wills" "age" "[I") (by decide +kernel)
  have hl := lv_entry ([.ref (h 1), .int v1]) (n := 6) (Nat.le_of_ble_eq_true rfl)
  have hen : entryFrame m args 6 = F0 m 0 ((lg_sl ([.ref (h 1), .int v1]) ++ List.replicate (6 - (lg_sl ([.ref (h 1), .int v1])).length) Slot.unset).toArray) [] := by rw [hargs]; exact lg_entry_eq m _ _
  rw [hen]
  generalize (lg_sl ([.ref (h 1), .int v1]) ++ List.replicate (6 - (lg_sl ([.ref (h 1), .int v1])).length) Slot.unset).toArray = ls at hl ⊢
  have hl : lv_has ls 6 [(0, .ref (h 1)), (1, .int v1)] := hl
  change W p l e rX5_sumUnseen s m args below meth c s.heap [] 0 0 (MQ below (va_Ql (fun (r : Int64) (u : SX × LX) => post r ∧ u.1 = S ∧ u.2 = L) (xB D (wX h cI cJ)) (xA 53 h)) args s 0 0 (xA 53 h)) (F0 m 0 ls [])
  have hret : ∀ (r : Int64) (H : Heap) (locs : List Loc) (ls : Array Slot) (pc : Nat), va_P D vwCl (wX h cI cJ S L) H → va_S (xA 53 h) s.heap H locs → post r → decode cX5_sumUnseen pc = .ok (.lreturn, 1) → W p l e rX5_sumUnseen s m args below meth c H locs 0 0 (MQ below (va_Ql (fun (r : Int64) (u : SX × LX) => post r ∧ u.1 = S ∧ u.2 = L) (xB D (wX h cI cJ)) (xA 53 h)) args s 0 0 (xA 53 h)) (F0 m pc ls [.long r]) := fun r H locs ls pc hP hS hw hd => W.lret hx hb hr (fun t ht hW => ⟨⟨r, (S, L), rfl, ⟨hw, rfl, rfl⟩, show va_P D vwCl (wX h cI cJ S L) t.heap by rw [ht]; exact hP⟩, hS.F ht⟩) hS.2.2 hd
  generalize MQ below (va_Ql (fun (r : Int64) (u : SX × LX) => post r ∧ u.1 = S ∧ u.2 = L) (xB D (wX h cI cJ)) (xA 53 h)) args s 0 0 (xA 53 h) = Q at hret ⊢
  have b5 : ∀  (n5 : Nat) (v2 : Int64) (v4 : Int32) (H : Heap) (locs : List Loc) (ls : Array Slot), lv_has ls 6 [(0, .ref (h 1)), (1, .int v1), (2, .long v2), (4, .int v4)] → va_P D vwCl (wX h cI cJ S L) H → va_S (xA 53 h) s.heap H locs → kX5_sumUnseen_b5 S L v1 post n5 v2 v4 → W p l e rX5_sumUnseen s m args below meth c H locs 0 0 Q (F0 m 5 ls []) := by
    intro n5
    induction n5 with
    | zero => intro v2 v4 H locs ls hl hP hS hw; exact absurd hw id
    | succ n5 i5 =>
      have b69 : ∀ (v2 : Int64) (v4 : Int32) (z0 : Int32) (H : Heap) (locs : List Loc) (ls : Array Slot), lv_has ls 6 [(0, .ref (h 1)), (1, .int v1), (2, .long v2), (4, .int v4)] → va_P D vwCl (wX h cI cJ S L) H → va_S (xA 53 h) s.heap H locs → kX5_sumUnseen_b69 S L v1 post (kX5_sumUnseen_b5 S L v1 post n5) v2 v4 z0 → W p l e rX5_sumUnseen s m args below meth c H locs 0 0 Q (F0 m 69 ls [.int z0]) := by
        intro v2 v4 z0 H locs ls hl hP hS hw
        unfold kX5_sumUnseen_b69 at hw
        refine lv_istore (lv' := [(5, .int z0), (0, .ref (h 1)), (1, .int v1), (2, .long v2), (4, .int v4)]) hx hb dX5_sumUnseen_69 hl (by decide) rfl (fun ls hl => ?_)
        refine lv_lload_n hx hb dX5_sumUnseen_71 rfl (lv_at hl 3 rfl) ?_
        refine lv_aload_n hx hb dX5_sumUnseen_72 rfl (lv_at hl 1 rfl) ?_
        refine lv_iload hx hb dX5_sumUnseen_73 (lv_at hl 4 rfl) ?_
        refine xVi0 (As := [.int v4]) (rest := [.long v2]) hst hE hP hS ⟨hx, hb, hml, hown, hts⟩ (va_recv hK hP (ci := 5) (q := (RX5, TX5, 10)) rfl wX_1) (mX5_allHad l D h cI cJ t0 hh S L v4 _ hw) (cwV 1 hts gX5_sumUnseen_X5_allHad rfl rfl rfl (by decide +kernel) ⟨Nat.le_of_ble_eq_true rfl, Nat.le_of_ble_eq_true rfl⟩) rfl hl.1 rfl (Nat.le_of_ble_eq_true rfl) dX5_sumUnseen_75 ⟨Nat.zero_le _, Nat.zero_le _⟩ (fun r75 H locs hw hP hS => ?_)
        refine lv_aload_n hx hb dX5_sumUnseen_78 rfl (lv_at hl 1 rfl) ?_
        refine lv_iload hx hb dX5_sumUnseen_79 (lv_at hl 4 rfl) ?_
        refine lv_iload_n hx hb dX5_sumUnseen_81 rfl (lv_at hl 2 rfl) ?_
        refine xVi0 (As := [.int v4, .int v1]) (rest := [.int r75, .long v2]) hst hE hP hS ⟨hx, hb, hml, hown, hts⟩ (va_recv hK hP (ci := 5) (q := (RX5, TX5, 10)) rfl wX_1) (mX5_sworn l D h cI cJ t0 hh S L v4 v1 _ hw) (cwV 2 hts gX5_sumUnseen_X5_sworn rfl rfl rfl (by decide +kernel) ⟨Nat.le_of_ble_eq_true rfl, Nat.le_of_ble_eq_true rfl⟩) rfl hl.1 rfl (Nat.le_of_ble_eq_true rfl) dX5_sumUnseen_82 ⟨Nat.zero_le _, Nat.zero_le _⟩ (fun r82 H locs hw hP hS => ?_)
        refine lv_isub hx hb dX5_sumUnseen_85 ?_
        refine lv_i2l hx hb dX5_sumUnseen_86 rfl ?_
        refine lv_iload hx hb dX5_sumUnseen_87 (lv_at hl 0 rfl) ?_
        refine lv_i2l hx hb dX5_sumUnseen_89 rfl ?_
        refine lv_lmul hx hb dX5_sumUnseen_90 ?_
        refine lv_ladd hx hb dX5_sumUnseen_91 ?_
        refine lv_lstore_n (lv' := [(2, .long (v2 + (((r75 - r82).toInt64) * z0.toInt64))), (5, .int z0), (0, .ref (h 1)), (1, .int v1), (4, .int v4)]) hx hb dX5_sumUnseen_92 rfl hl (by decide) rfl (fun ls hl => ?_)
        refine lv_iinc (v := v4 + (1 : Int32)) (lv' := [(4, .int (v4 + (1 : Int32))), (2, .long (v2 + (((r75 - r82).toInt64) * z0.toInt64))), (5, .int z0), (0, .ref (h 1)), (1, .int v1)]) hx hb dX5_sumUnseen_93 hl (k := 4) rfl rfl (by decide) rfl (fun ls hl => ?_)
        refine lv_goto (tgt := 5) hx hb dX5_sumUnseen_96 (by decide) ?_
        exact i5 (v2 + (((r75 - r82).toInt64) * z0.toInt64)) (v4 + (1 : Int32)) _ _ _ (lv_sub hl [3, 4, 1, 0] rfl) hP hS hw
      intro v2 v4 H locs ls hl hP hS hw
      unfold kX5_sumUnseen_b5 at hw
      refine lv_iload hx hb dX5_sumUnseen_5 (lv_at hl 3 rfl) ?_
      refine lv_aload_n hx hb dX5_sumUnseen_7 rfl (lv_at hl 0 rfl) ?_
      refine va_get (D := D) (ci := 5) (v := .ref (h 8)) (C := RX5) (T := TX5) (N := 10) hx hb hts inX5 hown hK hP 1 wX_1 rfl 4 (by decide) f0 (fun _ h9 => h9) rfl dX5_sumUnseen_8 ?_
      refine va_get (D := D) (ci := 4) (v := .int (S 8 0)) (C := RX4) (T := TX4) (N := 5) hx hb hts inX4 hown hK hP 8 wX_8 rfl 0 (by decide) f2 (fun _ h9 => h9) rfl dX5_sumUnseen_11 ?_
      refine lv_icmp_ge (tgt := 99) hx hb dX5_sumUnseen_14 (by decide) (fun hc => ?_) (fun hc => ?_)
      · replace hw := And.left hw hc
        refine lv_lload_n hx hb dX5_sumUnseen_99 rfl (lv_at hl 2 rfl) ?_
        exact hret _ _ _ _ _ hP hS hw dX5_sumUnseen_100
      · replace hw := And.right hw hc
        refine lv_aload_n hx hb dX5_sumUnseen_17 rfl (lv_at hl 0 rfl) ?_
        refine va_get (D := D) (ci := 5) (v := .ref (h 8)) (C := RX5) (T := TX5) (N := 10) hx hb hts inX5 hown hK hP 1 wX_1 rfl 4 (by decide) f0 (fun _ h9 => h9) rfl dX5_sumUnseen_18 ?_
        refine va_get (D := D) (ci := 4) (v := .ref (h 9)) (C := RX4) (T := TX4) (N := 5) hx hb hts inX4 hown hK hP 8 wX_8 rfl 1 (by decide) f4 (fun _ h9 => h9) rfl dX5_sumUnseen_21 ?_
        refine lv_iload hx hb dX5_sumUnseen_24 (lv_at hl 3 rfl) ?_
        obtain ⟨hi, hw⟩ := hw
        refine va_iald hx hb hK hP 9 0 wX_9 rfl hi dX5_sumUnseen_26 ?_
        refine lv_iload_n hx hb dX5_sumUnseen_27 rfl (lv_at hl 1 rfl) ?_
        refine lv_icmp_ne (tgt := 93) hx hb dX5_sumUnseen_28 (by decide) (fun hc => ?_) (fun hc => ?_)
        · replace hw := And.right hw hc
          refine lv_iinc (v := v4 + (1 : Int32)) (lv' := [(4, .int (v4 + (1 : Int32))), (0, .ref (h 1)), (1, .int v1), (2, .long v2)]) hx hb dX5_sumUnseen_93 hl (k := 3) rfl rfl (by decide) rfl (fun ls hl => ?_)
          refine lv_goto (tgt := 5) hx hb dX5_sumUnseen_96 (by decide) ?_
          exact i5 v2 (v4 + (1 : Int32)) _ _ _ (lv_sub hl [1, 2, 3, 0] rfl) hP hS hw
        · replace hw := And.left hw hc
          refine lv_aload_n hx hb dX5_sumUnseen_31 rfl (lv_at hl 0 rfl) ?_
          refine lv_iload hx hb dX5_sumUnseen_32 (lv_at hl 3 rfl) ?_
          refine lv_iload_n hx hb dX5_sumUnseen_34 rfl (lv_at hl 1 rfl) ?_
          refine xVi0 (As := [.int v4, .int v1]) (rest := []) hst hE hP hS ⟨hx, hb, hml, hown, hts⟩ (va_recv hK hP (ci := 5) (q := (RX5, TX5, 10)) rfl wX_1) (mX5_isInBook l D h cI cJ t0 hh S L v4 v1 _ hw) (cwV 2 hts gX5_sumUnseen_X5_isInBook rfl rfl rfl (by decide +kernel) ⟨Nat.le_of_ble_eq_true rfl, Nat.le_of_ble_eq_true rfl⟩) rfl hl.1 rfl (Nat.le_of_ble_eq_true rfl) dX5_sumUnseen_35 ⟨Nat.zero_le _, Nat.zero_le _⟩ (fun r35 H locs hw hP hS => ?_)
          refine lv_if_eq (tgt := 51) hx hb dX5_sumUnseen_38 (by decide) (fun hc => ?_) (fun hc => ?_)
          · replace hw := And.left hw hc
            refine lv_bipush (v := (100 : Int32)) hx hb dX5_sumUnseen_51 (by decide) ?_
            refine lv_aload_n hx hb dX5_sumUnseen_53 rfl (lv_at hl 0 rfl) ?_
            refine va_get (D := D) (ci := 5) (v := .ref (h 2)) (C := RX5) (T := TX5) (N := 10) hx hb hts inX5 hown hK hP 1 wX_1 rfl 0 (by decide) f5 (fun _ h9 => h9) rfl dX5_sumUnseen_54 ?_
            refine lv_aload_n hx hb dX5_sumUnseen_57 rfl (lv_at hl 0 rfl) ?_
            refine va_get (D := D) (ci := 5) (v := .ref (h 8)) (C := RX5) (T := TX5) (N := 10) hx hb hts inX5 hown hK hP 1 wX_1 rfl 4 (by decide) f0 (fun _ h9 => h9) rfl dX5_sumUnseen_58 ?_
            refine va_get (D := D) (ci := 4) (v := .ref (h 10)) (C := RX4) (T := TX4) (N := 5) hx hb hts inX4 hown hK hP 8 wX_8 rfl 2 (by decide) f6 (fun _ h9 => h9) rfl dX5_sumUnseen_61 ?_
            refine lv_iload hx hb dX5_sumUnseen_64 (lv_at hl 3 rfl) ?_
            obtain ⟨hi, hw⟩ := hw
            refine va_iald hx hb hK hP 10 0 wX_10 rfl hi dX5_sumUnseen_66 ?_
            obtain ⟨hi, hw⟩ := hw
            refine va_iald hx hb hK hP 2 0 wX_2 rfl hi dX5_sumUnseen_67 ?_
            refine lv_imul hx hb dX5_sumUnseen_68 ?_
            exact b69 v2 v4 ((100 : Int32) * (S 2 (S 10 v4.toNatClampNeg).toNatClampNeg)) _ _ _ (lv_sub hl [0, 1, 2, 3] rfl) hP hS hw
          · replace hw := And.right hw hc
            refine lv_aload_n hx hb dX5_sumUnseen_41 rfl (lv_at hl 0 rfl) ?_
            refine lv_iload hx hb dX5_sumUnseen_42 (lv_at hl 3 rfl) ?_
            refine lv_iload_n hx hb dX5_sumUnseen_44 rfl (lv_at hl 1 rfl) ?_
            refine xVi0 (As := [.int v4, .int v1]) (rest := []) hst hE hP hS ⟨hx, hb, hml, hown, hts⟩ (va_recv hK hP (ci := 5) (q := (RX5, TX5, 10)) rfl wX_1) (mX5_weight l D h cI cJ t0 hh S L v4 v1 _ hw) (cwV 2 hts gX5_sumUnseen_X5_weight rfl rfl rfl (by decide +kernel) ⟨Nat.le_of_ble_eq_true rfl, Nat.le_of_ble_eq_true rfl⟩) rfl hl.1 rfl (Nat.le_of_ble_eq_true rfl) dX5_sumUnseen_45 ⟨Nat.zero_le _, Nat.zero_le _⟩ (fun r45 H locs hw hP hS => ?_)
            refine lv_goto (tgt := 69) hx hb dX5_sumUnseen_48 (by decide) ?_
            exact b69 v2 v4 r45 _ _ _ (lv_sub hl [0, 1, 2, 3] rfl) hP hS hw
  unfold kX5_sumUnseen at hw
  refine lv_lconst (v := (0 : Int64)) hx hb dX5_sumUnseen_0 (by decide) ?_
  refine lv_lstore_n (lv' := [(2, .long (0 : Int64)), (0, .ref (h 1)), (1, .int v1)]) hx hb dX5_sumUnseen_1 rfl hl (by decide) rfl (fun ls hl => ?_)
  refine lv_iconst (v := (0 : Int32)) hx hb dX5_sumUnseen_2 (by decide) ?_
  refine lv_istore (lv' := [(4, .int (0 : Int32)), (2, .long (0 : Int64)), (0, .ref (h 1)), (1, .int v1)]) hx hb dX5_sumUnseen_3 hl (by decide) rfl (fun ls hl => ?_)
  obtain ⟨n5, hw⟩ := hw
  exact b5  n5 (0 : Int64) (0 : Int32) _ _ _ (lv_sub hl [2, 3, 1, 0] rfl) hP hS hw
abbrev rX5_isFighting : Room := { frames := 5, cells := 0, slots := 0, locals := 118 }
set_option maxHeartbeats 4000000 in
set_option maxRecDepth 100000 in
theorem mX5_isFighting (l : Launch) (D : va_G) (h : Nat → Nat) (cI cJ : ClassId) (t0 : Nat) (hh : xdis 53 h) (S : SX) (L : LX) (v1 : Int32) (post : Int32 → Prop) (hw : kX5_isFighting S L v1 post) : Met l yX5_isFighting wsX5_isFighting rX5_isFighting (xPre D (wX h cI cJ) (xE D h cI cJ t0) S L [.ref (h 1), .int v1]) (va_Qi (fun (r : Int32) (u : SX × LX) => post r ∧ u.1 = S ∧ u.2 = L) (xB D (wX h cI cJ)) (xA 53 h)) 0 0 (xA 53 h) := by
  refine Met.ofW (cc := cX5_isFighting) (maxL := 4) (ret := (some .boolean)) (by decide) rfl ?_
  intro p e s m args below meth c s₁ B hml hv
  obtain ⟨hargs, hP, hE⟩ := hv
  have hx := B.exec
  have hb := B.bytes
  have hr := B.returns
  have hlocks := B.notSynchronized
  have hts := atoms_spec (ws := wsX5_isFighting) B.pre
  have hown : s.vm.findClass RX5 = some m.cls := findClass_of_methodNamed B.named
  have hS : va_S (xA 53 h) s.heap s.heap [] := va_S.rf
  have hD : ∀ (S : SX) (L : LX), va_D (xA 53 h) (wX h cI cJ S L) := fun S L => wX_D hh cI cJ S L
  have hK := hE.1
  have hst : xSt (xA 53 h) (xE D h cI cJ t0) := xE_st D h cI cJ t0
  have f0 := hts (.fieldLink RX5 44 "BookOfWills$World" "mostCounted" "[J") (by decide +kernel)
  have inX5 : ∀ w ∈ u_ws RX5 TX5 10, w ∈ wsX5_isFighting := fun w hw9 => List.mem_cons_of_mem _ (List.mem_append_left _ (List.mem_append_left _ (List.mem_append_right _ hw9)))
  have f2 := hts (.fieldLink RX5 40 "BookOfWills$World" "leastCounted" "[J") (by decide +kernel)
  have hl := lv_entry ([.ref (h 1), .int v1]) (n := 4) (Nat.le_of_ble_eq_true rfl)
  have hen : entryFrame m args 4 = F0 m 0 ((lg_sl ([.ref (h 1), .int v1]) ++ List.replicate (4 - (lg_sl ([.ref (h 1), .int v1])).length) Slot.unset).toArray) [] := by rw [hargs]; exact lg_entry_eq m _ _
  rw [hen]
  generalize (lg_sl ([.ref (h 1), .int v1]) ++ List.replicate (4 - (lg_sl ([.ref (h 1), .int v1])).length) Slot.unset).toArray = ls at hl ⊢
  have hl : lv_has ls 4 [(0, .ref (h 1)), (1, .int v1)] := hl
  change W p l e rX5_isFighting s m args below meth c s.heap [] 0 0 (MQ below (va_Qi (fun (r : Int32) (u : SX × LX) => post r ∧ u.1 = S ∧ u.2 = L) (xB D (wX h cI cJ)) (xA 53 h)) args s 0 0 (xA 53 h)) (F0 m 0 ls [])
  have hret : ∀ (r : Int32) (H : Heap) (locs : List Loc) (ls : Array Slot) (pc : Nat), va_P D vwCl (wX h cI cJ S L) H → va_S (xA 53 h) s.heap H locs → post r → narrow .boolean (.int r) = .int r → decode cX5_isFighting pc = .ok (.ireturn, 1) → W p l e rX5_isFighting s m args below meth c H locs 0 0 (MQ below (va_Qi (fun (r : Int32) (u : SX × LX) => post r ∧ u.1 = S ∧ u.2 = L) (xB D (wX h cI cJ)) (xA 53 h)) args s 0 0 (xA 53 h)) (F0 m pc ls [.int r]) := fun r H locs ls pc hP hS hw hna hd => W.zret hx hb hr hna (fun t ht hW => ⟨⟨r, (S, L), rfl, ⟨hw, rfl, rfl⟩, show va_P D vwCl (wX h cI cJ S L) t.heap by rw [ht]; exact hP⟩, hS.F ht⟩) hS.2.2 hd
  generalize MQ below (va_Qi (fun (r : Int32) (u : SX × LX) => post r ∧ u.1 = S ∧ u.2 = L) (xB D (wX h cI cJ)) (xA 53 h)) args s 0 0 (xA 53 h) = Q at hret ⊢
  unfold kX5_isFighting at hw
  refine lv_aload_n hx hb dX5_isFighting_0 rfl (lv_at hl 0 rfl) ?_
  refine lv_iload_n hx hb dX5_isFighting_1 rfl (lv_at hl 1 rfl) ?_
  refine lv_iload_n hx hb dX5_isFighting_2 rfl (lv_at hl 1 rfl) ?_
  refine xVl0 (As := [.int v1, .int v1]) (rest := []) hst hE hP hS ⟨hx, hb, hml, hown, hts⟩ (va_recv hK hP (ci := 5) (q := (RX5, TX5, 10)) rfl wX_1) (mX5_sumSworn l D h cI cJ t0 hh S L v1 v1 _ hw) (cwV 2 hts gX5_isFighting_X5_sumSworn rfl rfl rfl (by decide +kernel) ⟨Nat.le_of_ble_eq_true rfl, Nat.le_of_ble_eq_true rfl⟩) rfl hl.1 rfl (Nat.le_of_ble_eq_true rfl) dX5_isFighting_3 ⟨Nat.zero_le _, Nat.zero_le _⟩ (fun r3 H locs hw hP hS => ?_)
  refine lv_lstore_n (lv' := [(2, .long r3), (0, .ref (h 1)), (1, .int v1)]) hx hb dX5_isFighting_6 rfl hl (by decide) rfl (fun ls hl => ?_)
  refine lv_aload_n hx hb dX5_isFighting_7 rfl (lv_at hl 1 rfl) ?_
  refine va_get (D := D) (ci := 5) (v := .ref (h 16)) (C := RX5) (T := TX5) (N := 10) hx hb hts inX5 hown hK hP 1 wX_1 rfl 9 (by decide) f0 (fun _ h9 => h9) rfl dX5_isFighting_8 ?_
  refine lv_iload_n hx hb dX5_isFighting_11 rfl (lv_at hl 2 rfl) ?_
  obtain ⟨hi, hw⟩ := hw
  refine va_lald hx hb hK hP 16 1 wX_16 rfl hi dX5_isFighting_12 ?_
  refine lv_lload_n hx hb dX5_isFighting_13 rfl (lv_at hl 0 rfl) ?_
  refine W.lcmp hx hb dX5_isFighting_14 ?_
  refine lv_if_lt (tgt := 35) hx hb dX5_isFighting_15 (by decide) (fun hc => ?_) (fun hc => ?_)
  · replace hw := And.left hw ((lg_cmp_lt _ _).mp hc)
    refine lv_iconst (v := (1 : Int32)) hx hb dX5_isFighting_35 (by decide) ?_
    refine lv_goto (tgt := 40) hx hb dX5_isFighting_36 (by decide) ?_
    exact hret _ _ _ _ _ hP hS hw rfl dX5_isFighting_40
  · replace hw := And.right hw (fun q => hc ((lg_cmp_lt _ _).mpr q))
    refine lv_aload_n hx hb dX5_isFighting_18 rfl (lv_at hl 1 rfl) ?_
    refine va_get (D := D) (ci := 5) (v := .ref (h 15)) (C := RX5) (T := TX5) (N := 10) hx hb hts inX5 hown hK hP 1 wX_1 rfl 8 (by decide) f2 (fun _ h9 => h9) rfl dX5_isFighting_19 ?_
    refine lv_iload_n hx hb dX5_isFighting_22 rfl (lv_at hl 2 rfl) ?_
    obtain ⟨hi, hw⟩ := hw
    refine va_lald hx hb hK hP 15 1 wX_15 rfl hi dX5_isFighting_23 ?_
    refine lv_lload_n hx hb dX5_isFighting_24 rfl (lv_at hl 0 rfl) ?_
    refine lv_aload_n hx hb dX5_isFighting_25 rfl (lv_at hl 1 rfl) ?_
    refine lv_iload_n hx hb dX5_isFighting_26 rfl (lv_at hl 2 rfl) ?_
    refine xVl0 (As := [.int v1]) (rest := [.long r3, .long (L 15 v1.toNatClampNeg)]) hst hE hP hS ⟨hx, hb, hml, hown, hts⟩ (va_recv hK hP (ci := 5) (q := (RX5, TX5, 10)) rfl wX_1) (mX5_sumUnseen l D h cI cJ t0 hh S L v1 _ hw) (cwV 1 hts gX5_isFighting_X5_sumUnseen rfl rfl rfl (by decide +kernel) ⟨Nat.le_of_ble_eq_true rfl, Nat.le_of_ble_eq_true rfl⟩) rfl hl.1 rfl (Nat.le_of_ble_eq_true rfl) dX5_isFighting_27 ⟨Nat.zero_le _, Nat.zero_le _⟩ (fun r27 H locs hw hP hS => ?_)
    refine lv_ladd hx hb dX5_isFighting_30 ?_
    refine W.lcmp hx hb dX5_isFighting_31 ?_
    refine lv_if_le (tgt := 39) hx hb dX5_isFighting_32 (by decide) (fun hc => ?_) (fun hc => ?_)
    · replace hw := And.left hw ((lg_cmp_le _ _).mp hc)
      refine lv_iconst (v := (0 : Int32)) hx hb dX5_isFighting_39 (by decide) ?_
      exact hret _ _ _ _ _ hP hS hw rfl dX5_isFighting_40
    · replace hw := And.right hw (fun q => hc ((lg_cmp_le _ _).mpr q))
      refine lv_iconst (v := (1 : Int32)) hx hb dX5_isFighting_35 (by decide) ?_
      refine lv_goto (tgt := 40) hx hb dX5_isFighting_36 (by decide) ?_
      exact hret _ _ _ _ _ hP hS hw rfl dX5_isFighting_40
abbrev rX5_topRoom : Room := { frames := 0, cells := 0, slots := 0, locals := 0 }
set_option maxHeartbeats 4000000 in
set_option maxRecDepth 100000 in
theorem mX5_topRoom (l : Launch) (D : va_G) (h : Nat → Nat) (cI cJ : ClassId) (t0 : Nat) (hh : xdis 53 h) (S : SX) (L : LX) (v1 : Int32) (v2 : Int32) (post : Int64 → Prop) (hw : kX5_topRoom S L v1 v2 post) : Met l yX5_topRoom wsX5_topRoom rX5_topRoom (xPre D (wX h cI cJ) (xE D h cI cJ t0) S L [.ref (h 1), .int v1, .int v2]) (va_Ql (fun (r : Int64) (u : SX × LX) => post r ∧ u.1 = S ∧ u.2 = L) (xB D (wX h cI cJ)) (xA 53 h)) 0 0 (xA 53 h) := by
  refine Met.ofW (cc := cX5_topRoom) (maxL := 3) (ret := (some .long)) (by decide) rfl ?_
  intro p e s m args below meth c s₁ B hml hv
  obtain ⟨hargs, hP, hE⟩ := hv
  have hx := B.exec
  have hb := B.bytes
  have hr := B.returns
  have hlocks := B.notSynchronized
  have hts := atoms_spec (ws := wsX5_topRoom) B.pre
  have hown : s.vm.findClass RX5 = some m.cls := findClass_of_methodNamed B.named
  have hS : va_S (xA 53 h) s.heap s.heap [] := va_S.rf
  have hD : ∀ (S : SX) (L : LX), va_D (xA 53 h) (wX h cI cJ S L) := fun S L => wX_D hh cI cJ S L
  have hK := hE.1
  have hst : xSt (xA 53 h) (xE D h cI cJ t0) := xE_st D h cI cJ t0
  have f0 := hts (.fieldLink RX5 34 "BookOfWills$World" "people" "[I") (by decide +kernel)
  have inX5 : ∀ w ∈ u_ws RX5 TX5 10, w ∈ wsX5_topRoom := fun w hw9 => List.mem_cons_of_mem _ (List.mem_append_right _ hw9)
  have hl := lv_entry ([.ref (h 1), .int v1, .int v2]) (n := 3) (Nat.le_of_ble_eq_true rfl)
  have hen : entryFrame m args 3 = F0 m 0 ((lg_sl ([.ref (h 1), .int v1, .int v2]) ++ List.replicate (3 - (lg_sl ([.ref (h 1), .int v1, .int v2])).length) Slot.unset).toArray) [] := by rw [hargs]; exact lg_entry_eq m _ _
  rw [hen]
  generalize (lg_sl ([.ref (h 1), .int v1, .int v2]) ++ List.replicate (3 - (lg_sl ([.ref (h 1), .int v1, .int v2])).length) Slot.unset).toArray = ls at hl ⊢
  have hl : lv_has ls 3 [(0, .ref (h 1)), (1, .int v1), (2, .int v2)] := hl
  change W p l e rX5_topRoom s m args below meth c s.heap [] 0 0 (MQ below (va_Ql (fun (r : Int64) (u : SX × LX) => post r ∧ u.1 = S ∧ u.2 = L) (xB D (wX h cI cJ)) (xA 53 h)) args s 0 0 (xA 53 h)) (F0 m 0 ls [])
  have hret : ∀ (r : Int64) (H : Heap) (locs : List Loc) (ls : Array Slot) (pc : Nat), va_P D vwCl (wX h cI cJ S L) H → va_S (xA 53 h) s.heap H locs → post r → decode cX5_topRoom pc = .ok (.lreturn, 1) → W p l e rX5_topRoom s m args below meth c H locs 0 0 (MQ below (va_Ql (fun (r : Int64) (u : SX × LX) => post r ∧ u.1 = S ∧ u.2 = L) (xB D (wX h cI cJ)) (xA 53 h)) args s 0 0 (xA 53 h)) (F0 m pc ls [.long r]) := fun r H locs ls pc hP hS hw hd => W.lret hx hb hr (fun t ht hW => ⟨⟨r, (S, L), rfl, ⟨hw, rfl, rfl⟩, show va_P D vwCl (wX h cI cJ S L) t.heap by rw [ht]; exact hP⟩, hS.F ht⟩) hS.2.2 hd
  generalize MQ below (va_Ql (fun (r : Int64) (u : SX × LX) => post r ∧ u.1 = S ∧ u.2 = L) (xB D (wX h cI cJ)) (xA 53 h)) args s 0 0 (xA 53 h) = Q at hret ⊢
  unfold kX5_topRoom at hw
  refine lv_iload_n hx hb dX5_topRoom_0 rfl (lv_at hl 2 rfl) ?_
  refine lv_i2l hx hb dX5_topRoom_1 rfl ?_
  refine lv_aload_n hx hb dX5_topRoom_2 rfl (lv_at hl 0 rfl) ?_
  refine va_get (D := D) (ci := 5) (v := .ref (h 13)) (C := RX5) (T := TX5) (N := 10) hx hb hts inX5 hown hK hP 1 wX_1 rfl 5 (by decide) f0 (fun _ h9 => h9) rfl dX5_topRoom_3 ?_
  refine lv_iload_n hx hb dX5_topRoom_6 rfl (lv_at hl 1 rfl) ?_
  obtain ⟨hi, hw⟩ := hw
  refine va_iald hx hb hK hP 13 0 wX_13 rfl hi dX5_topRoom_7 ?_
  refine lv_i2l hx hb dX5_topRoom_8 rfl ?_
  refine lv_lmul hx hb dX5_topRoom_9 ?_
  exact hret _ _ _ _ _ hP hS hw dX5_topRoom_10
abbrev rX4_hasRoomFor_8 : Room := { frames := 0, cells := 0, slots := 0, locals := 0 }
set_option maxHeartbeats 4000000 in
set_option maxRecDepth 100000 in
theorem mX4_hasRoomFor_8 (l : Launch) (D : va_G) (h : Nat → Nat) (cI cJ : ClassId) (t0 : Nat) (hh : xdis 53 h) (S : SX) (L : LX) (v1 : Int32) (post : Int32 → Prop) (hw : kX4_hasRoomFor_8 S L v1 post) : Met l yX4_hasRoomFor wsX4_hasRoomFor rX4_hasRoomFor_8 (xPre D (wX h cI cJ) (xE D h cI cJ t0) S L [.ref (h 8), .int v1]) (va_Qi (fun (r : Int32) (u : SX × LX) => post r ∧ u.1 = S ∧ u.2 = L) (xB D (wX h cI cJ)) (xA 53 h)) 0 0 (xA 53 h) := by
  refine Met.ofW (cc := cX4_hasRoomFor) (maxL := 2) (ret := (some .boolean)) (by decide) rfl ?_
  intro p e s m args below meth c s₁ B hml hv
  obtain ⟨hargs, hP, hE⟩ := hv
  have hx := B.exec
  have hb := B.bytes
  have hr := B.returns
  have hlocks := B.notSynchronized
  have hts := atoms_spec (ws := wsX4_hasRoomFor) B.pre
  have hown : s.vm.findClass RX4 = some m.cls := findClass_of_methodNamed B.named
  have hS : va_S (xA 53 h) s.heap s.heap [] := va_S.rf
  have hD : ∀ (S : SX) (L : LX), va_D (xA 53 h) (wX h cI cJ S L) := fun S L => wX_D hh cI cJ S L
  have hK := hE.1
  have hst : xSt (xA 53 h) (xE D h cI cJ t0) := xE_st D h cI cJ t0
  have f0 := hts (.fieldLink RX4 24 "BookOfWills$Wills" "size" "I") (by decide +kernel)
  have inX4 : ∀ w ∈ u_ws RX4 TX4 5, w ∈ wsX4_hasRoomFor := fun w hw9 => List.mem_cons_of_mem _ (List.mem_append_right _ hw9)
  have hl := lv_entry ([.ref (h 8), .int v1]) (n := 2) (Nat.le_of_ble_eq_true rfl)
  have hen : entryFrame m args 2 = F0 m 0 ((lg_sl ([.ref (h 8), .int v1]) ++ List.replicate (2 - (lg_sl ([.ref (h 8), .int v1])).length) Slot.unset).toArray) [] := by rw [hargs]; exact lg_entry_eq m _ _
  rw [hen]
  generalize (lg_sl ([.ref (h 8), .int v1]) ++ List.replicate (2 - (lg_sl ([.ref (h 8), .int v1])).length) Slot.unset).toArray = ls at hl ⊢
  have hl : lv_has ls 2 [(0, .ref (h 8)), (1, .int v1)] := hl
  change W p l e rX4_hasRoomFor_8 s m args below meth c s.heap [] 0 0 (MQ below (va_Qi (fun (r : Int32) (u : SX × LX) => post r ∧ u.1 = S ∧ u.2 = L) (xB D (wX h cI cJ)) (xA 53 h)) args s 0 0 (xA 53 h)) (F0 m 0 ls [])
  have hret : ∀ (r : Int32) (H : Heap) (locs : List Loc) (ls : Array Slot) (pc : Nat), va_P D vwCl (wX h cI cJ S L) H → va_S (xA 53 h) s.heap H locs → post r → narrow .boolean (.int r) = .int r → decode cX4_hasRoomFor pc = .ok (.ireturn, 1) → W p l e rX4_hasRoomFor_8 s m args below meth c H locs 0 0 (MQ below (va_Qi (fun (r : Int32) (u : SX × LX) => post r ∧ u.1 = S ∧ u.2 = L) (xB D (wX h cI cJ)) (xA 53 h)) args s 0 0 (xA 53 h)) (F0 m pc ls [.int r]) := fun r H locs ls pc hP hS hw hna hd => W.zret hx hb hr hna (fun t ht hW => ⟨⟨r, (S, L), rfl, ⟨hw, rfl, rfl⟩, show va_P D vwCl (wX h cI cJ S L) t.heap by rw [ht]; exact hP⟩, hS.F ht⟩) hS.2.2 hd
  generalize MQ below (va_Qi (fun (r : Int32) (u : SX × LX) => post r ∧ u.1 = S ∧ u.2 = L) (xB D (wX h cI cJ)) (xA 53 h)) args s 0 0 (xA 53 h) = Q at hret ⊢
  unfold kX4_hasRoomFor_8 at hw
  refine lv_iload_n hx hb dX4_hasRoomFor_0 rfl (lv_at hl 1 rfl) ?_
  refine lv_bipush (v := (24 : Int32)) hx hb dX4_hasRoomFor_1 (by decide) ?_
  refine lv_aload_n hx hb dX4_hasRoomFor_3 rfl (lv_at hl 0 rfl) ?_
  refine va_get (D := D) (ci := 4) (v := .int (S 8 0)) (C := RX4) (T := TX4) (N := 5) hx hb hts inX4 hown hK hP 8 wX_8 rfl 0 (by decide) f0 (fun _ h9 => h9) rfl dX4_hasRoomFor_4 ?_
  refine lv_isub hx hb dX4_hasRoomFor_7 ?_
  refine lv_icmp_gt (tgt := 15) hx hb dX4_hasRoomFor_8 (by decide) (fun hc => ?_) (fun hc => ?_)
  · replace hw := And.left hw hc
    refine lv_iconst (v := (0 : Int32)) hx hb dX4_hasRoomFor_15 (by decide) ?_
    exact hret _ _ _ _ _ hP hS hw rfl dX4_hasRoomFor_16
  · replace hw := And.right hw hc
    refine lv_iconst (v := (1 : Int32)) hx hb dX4_hasRoomFor_11 (by decide) ?_
    refine lv_goto (tgt := 16) hx hb dX4_hasRoomFor_12 (by decide) ?_
    exact hret _ _ _ _ _ hP hS hw rfl dX4_hasRoomFor_16
abbrev rX4_add_8 : Room := { frames := 1, cells := 0, slots := 0, locals := 21 }
set_option maxHeartbeats 4000000 in
set_option maxRecDepth 100000 in
theorem mX4_add_8 (l : Launch) (D : va_G) (h : Nat → Nat) (cI cJ : ClassId) (t0 : Nat) (hh : xdis 53 h) (S : SX) (L : LX) (v1 : Int32) (v2 : Int32) (v3 : Int32) (v4 : Int32) (post : SX → Prop) (hw : kX4_add_8 S L v1 v2 v3 v4 post) : Met l yX4_add wsX4_add rX4_add_8 (xPre D (wX h cI cJ) (xE D h cI cJ t0) S L [.ref (h 8), .int v1, .int v2, .int v3, .int v4]) (va_Qv (fun (u : SX × LX) => post u.1 ∧ u.2 = L) (xB D (wX h cI cJ)) (xA 53 h)) 0 0 (xA 53 h) := by
  refine Met.ofW (cc := cX4_add) (maxL := 6) (ret := none) (by decide) rfl ?_
  intro p e s m args below meth c s₁ B hml hv
  obtain ⟨hargs, hP, hE⟩ := hv
  have hx := B.exec
  have hb := B.bytes
  have hr := B.returns
  have hlocks := B.notSynchronized
  have hts := atoms_spec (ws := wsX4_add) B.pre
  have hown : s.vm.findClass RX4 = some m.cls := findClass_of_methodNamed B.named
  have hS : va_S (xA 53 h) s.heap s.heap [] := va_S.rf
  have hD : ∀ (S : SX) (L : LX), va_D (xA 53 h) (wX h cI cJ S L) := fun S L => wX_D hh cI cJ S L
  have hK := hE.1
  have hst : xSt (xA 53 h) (xE D h cI cJ t0) := xE_st D h cI cJ t0
  have f0 := hts (.fieldLink RX4 24 "BookOfWills$Wills" "size" "I") (by decide +kernel)
  have inX4 : ∀ w ∈ u_ws RX4 TX4 5, w ∈ wsX4_add := fun w hw9 => List.mem_cons_of_mem _ (List.mem_append_right _ hw9)
  have f2 := hts (.fieldLink RX4 21 "BookOfWills$Wills" "had" "[I") (by decide +kernel)
  have f3 := hts (.fieldLink RX4 9 "BookOfWills$Wills" "year" "[I") (by decide +kernel)
  have f4 := hts (.fieldLink RX4 15 "BookOfWills$Wills" "age" "[I") (by decide +kernel)
  have f5 := hts (.fieldLink RX4 18 "BookOfWills$Wills" "sex" "[I") (by decide +kernel)
  have hl := lv_entry ([.ref (h 8), .int v1, .int v2, .int v3, .int v4]) (n := 6) (Nat.le_of_ble_eq_true rfl)
  have hen : entryFrame m args 6 = F0 m 0 ((lg_sl ([.ref (h 8), .int v1, .int v2, .int v3, .int v4]) ++ List.replicate (6 - (lg_sl ([.ref (h 8), .int v1, .int v2, .int v3, .int v4])).length) Slot.unset).toArray) [] := by rw [hargs]; exact lg_entry_eq m _ _
  rw [hen]
  generalize (lg_sl ([.ref (h 8), .int v1, .int v2, .int v3, .int v4]) ++ List.replicate (6 - (lg_sl ([.ref (h 8), .int v1, .int v2, .int v3, .int v4])).length) Slot.unset).toArray = ls at hl ⊢
  have hl : lv_has ls 6 [(0, .ref (h 8)), (1, .int v1), (2, .int v2), (3, .int v3), (4, .int v4)] := hl
  change W p l e rX4_add_8 s m args below meth c s.heap [] 0 0 (MQ below (va_Qv (fun (u : SX × LX) => post u.1 ∧ u.2 = L) (xB D (wX h cI cJ)) (xA 53 h)) args s 0 0 (xA 53 h)) (F0 m 0 ls [])
  have hret : ∀ (S1 : SX) (H : Heap) (locs : List Loc) (ls : Array Slot) (pc : Nat), va_P D vwCl (wX h cI cJ S1 L) H → va_S (xA 53 h) s.heap H locs → post S1 → decode cX4_add pc = .ok (.return_, 1) → W p l e rX4_add_8 s m args below meth c H locs 0 0 (MQ below (va_Qv (fun (u : SX × LX) => post u.1 ∧ u.2 = L) (xB D (wX h cI cJ)) (xA 53 h)) args s 0 0 (xA 53 h)) (F0 m pc ls []) := fun S1 H locs ls pc hP hS hw hd => W.vret hx hb hr (fun t ht hW => ⟨⟨(S1, L), rfl, ⟨hw, rfl⟩, show va_P D vwCl (wX h cI cJ S1 L) t.heap by rw [ht]; exact hP⟩, hS.F ht⟩) hS.2.2 hd
  generalize MQ below (va_Qv (fun (u : SX × LX) => post u.1 ∧ u.2 = L) (xB D (wX h cI cJ)) (xA 53 h)) args s 0 0 (xA 53 h) = Q at hret ⊢
  have b55 : ∀  (n55 : Nat) (v5 : Int32) (S : SX) (H : Heap) (locs : List Loc) (ls : Array Slot), lv_has ls 6 [(0, .ref (h 8)), (5, .int v5)] → va_P D vwCl (wX h cI cJ S L) H → va_S (xA 53 h) s.heap H locs → kX4_add_8_b55 L v1 v2 v3 v4 post n55 v5 S → W p l e rX4_add_8 s m args below meth c H locs 0 0 Q (F0 m 55 ls []) := by
    intro n55
    induction n55 with
    | zero => intro v5 S H locs ls hl hP hS hw; exact absurd hw id
    | succ n55 i55 =>
      intro v5 S H locs ls hl hP hS hw
      unfold kX4_add_8_b55 at hw
      refine lv_iload hx hb dX4_add_55 (lv_at hl 1 rfl) ?_
      refine lv_iconst (v := (4 : Int32)) hx hb dX4_add_57 (by decide) ?_
      refine lv_icmp_ge (tgt := 82) hx hb dX4_add_58 (by decide) (fun hc => ?_) (fun hc => ?_)
      · replace hw := And.left hw hc
        refine lv_aload_n hx hb dX4_add_82 rfl (lv_at hl 0 rfl) ?_
        refine lv_dup hx hb dX4_add_83 rfl ?_
        refine va_get (D := D) (ci := 4) (v := .int (S 8 0)) (C := RX4) (T := TX4) (N := 5) hx hb hts inX4 hown hK hP 8 wX_8 rfl 0 (by decide) f0 (fun _ h9 => h9) rfl dX4_add_84 ?_
        refine lv_iconst (v := (1 : Int32)) hx hb dX4_add_87 (by decide) ?_
        refine lv_iadd hx hb dX4_add_88 ?_
        refine x_put (D := D) (ci := 4) (v := .int ((S 8 0) + (1 : Int32))) (ty := .int) (C := RX4) (T := TX4) (N := 5) (ws2 := wX h cI cJ (xu S 8 0 ((S 8 0) + (1 : Int32))) L) hx hb hts inX4 tyX4 tyX4_ok nmX4 hown hK hP (hD _ _) hS 8 wX_8 rfl 0 (by decide) f0 (fun _ h9 => h9) rfl (by decide +kernel) rfl rfl (Nat.le_of_ble_eq_true rfl) dX4_add_89 (wX_p8_0 _) (fun H locs hP hS => ?_)
        exact hret _ _ _ _ _ hP hS hw dX4_add_92
      · replace hw := And.right hw hc
        refine lv_aload_n hx hb dX4_add_61 rfl (lv_at hl 0 rfl) ?_
        refine va_get (D := D) (ci := 4) (v := .ref (h 12)) (C := RX4) (T := TX4) (N := 5) hx hb hts inX4 hown hK hP 8 wX_8 rfl 4 (by decide) f2 (fun _ h9 => h9) rfl dX4_add_62 ?_
        refine lv_aload_n hx hb dX4_add_65 rfl (lv_at hl 0 rfl) ?_
        refine va_get (D := D) (ci := 4) (v := .int (S 8 0)) (C := RX4) (T := TX4) (N := 5) hx hb hts inX4 hown hK hP 8 wX_8 rfl 0 (by decide) f0 (fun _ h9 => h9) rfl dX4_add_66 ?_
        refine lv_iconst (v := (4 : Int32)) hx hb dX4_add_69 (by decide) ?_
        refine lv_imul hx hb dX4_add_70 ?_
        refine lv_iload hx hb dX4_add_71 (lv_at hl 1 rfl) ?_
        refine lv_iadd hx hb dX4_add_73 ?_
        refine lv_iconst (v := (0 : Int32)) hx hb dX4_add_74 (by decide) ?_
        obtain ⟨hi, hw⟩ := hw
        refine x_iast (ws2 := wX h cI cJ (xu S 12 (((S 8 0) * (4 : Int32)) + v5).toNatClampNeg (0 : Int32)) L) hx hb hK hP (hD _ _) hS 12 0 wX_12 rfl hi dX4_add_75 (wX_u12 _ _) (fun H locs hP hS => ?_)
        refine lv_iinc (v := v5 + (1 : Int32)) (lv' := [(5, .int (v5 + (1 : Int32))), (0, .ref (h 8))]) hx hb dX4_add_76 hl (k := 1) rfl rfl (by decide) rfl (fun ls hl => ?_)
        refine lv_goto (tgt := 55) hx hb dX4_add_79 (by decide) ?_
        exact i55 (v5 + (1 : Int32)) (xu S 12 (((S 8 0) * (4 : Int32)) + v5).toNatClampNeg (0 : Int32)) _ _ _ (lv_sub hl [1, 0] rfl) hP hS hw
  unfold kX4_add_8 at hw
  refine lv_aload_n hx hb dX4_add_0 rfl (lv_at hl 0 rfl) ?_
  refine lv_iconst (v := (1 : Int32)) hx hb dX4_add_1 (by decide) ?_
  refine xVi0 (As := [.int (1 : Int32)]) (rest := []) hst hE hP hS ⟨hx, hb, hml, hown, hts⟩ (va_recv hK hP (ci := 4) (q := (RX4, TX4, 5)) rfl wX_8) (mX4_hasRoomFor_8 l D h cI cJ t0 hh S L (1 : Int32) _ hw) (cwV 1 hts gX4_add_X4_hasRoomFor rfl rfl rfl (by decide +kernel) ⟨Nat.le_of_ble_eq_true rfl, Nat.le_of_ble_eq_true rfl⟩) rfl hl.1 rfl (Nat.le_of_ble_eq_true rfl) dX4_add_2 ⟨Nat.zero_le _, Nat.zero_le _⟩ (fun r2 H locs hw hP hS => ?_)
  refine lv_if_ne (tgt := 9) hx hb dX4_add_5 (by decide) (fun hc => ?_) (fun hc => ?_)
  · replace hw := And.right hw hc
    refine lv_aload_n hx hb dX4_add_9 rfl (lv_at hl 0 rfl) ?_
    refine va_get (D := D) (ci := 4) (v := .ref (h 9)) (C := RX4) (T := TX4) (N := 5) hx hb hts inX4 hown hK hP 8 wX_8 rfl 1 (by decide) f3 (fun _ h9 => h9) rfl dX4_add_10 ?_
    refine lv_aload_n hx hb dX4_add_13 rfl (lv_at hl 0 rfl) ?_
    refine va_get (D := D) (ci := 4) (v := .int (S 8 0)) (C := RX4) (T := TX4) (N := 5) hx hb hts inX4 hown hK hP 8 wX_8 rfl 0 (by decide) f0 (fun _ h9 => h9) rfl dX4_add_14 ?_
    refine lv_iload_n hx hb dX4_add_17 rfl (lv_at hl 1 rfl) ?_
    obtain ⟨hi, hw⟩ := hw
    refine x_iast (ws2 := wX h cI cJ (xu S 9 (S 8 0).toNatClampNeg v1) L) hx hb hK hP (hD _ _) hS 9 0 wX_9 rfl hi dX4_add_18 (wX_u9 _ _) (fun H locs hP hS => ?_)
    refine lv_aload_n hx hb dX4_add_19 rfl (lv_at hl 0 rfl) ?_
    refine va_get (D := D) (ci := 4) (v := .ref (h 10)) (C := RX4) (T := TX4) (N := 5) hx hb hts inX4 hown hK hP 8 wX_8 rfl 2 (by decide) f4 (fun _ h9 => h9) rfl dX4_add_20 ?_
    refine lv_aload_n hx hb dX4_add_23 rfl (lv_at hl 0 rfl) ?_
    refine va_get (D := D) (ci := 4) (v := .int ((xu S 9 (S 8 0).toNatClampNeg v1) 8 0)) (C := RX4) (T := TX4) (N := 5) hx hb hts inX4 hown hK hP 8 wX_8 rfl 0 (by decide) f0 (fun _ h9 => h9) rfl dX4_add_24 ?_
    refine lv_iload_n hx hb dX4_add_27 rfl (lv_at hl 2 rfl) ?_
    obtain ⟨hi, hw⟩ := hw
    refine x_iast (ws2 := wX h cI cJ (xu (xu S 9 (S 8 0).toNatClampNeg v1) 10 ((xu S 9 (S 8 0).toNatClampNeg v1) 8 0).toNatClampNeg v2) L) hx hb hK hP (hD _ _) hS 10 0 wX_10 rfl hi dX4_add_28 (wX_u10 _ _) (fun H locs hP hS => ?_)
    refine lv_aload_n hx hb dX4_add_29 rfl (lv_at hl 0 rfl) ?_
    refine va_get (D := D) (ci := 4) (v := .ref (h 11)) (C := RX4) (T := TX4) (N := 5) hx hb hts inX4 hown hK hP 8 wX_8 rfl 3 (by decide) f5 (fun _ h9 => h9) rfl dX4_add_30 ?_
    refine lv_aload_n hx hb dX4_add_33 rfl (lv_at hl 0 rfl) ?_
    refine va_get (D := D) (ci := 4) (v := .int ((xu (xu S 9 (S 8 0).toNatClampNeg v1) 10 ((xu S 9 (S 8 0).toNatClampNeg v1) 8 0).toNatClampNeg v2) 8 0)) (C := RX4) (T := TX4) (N := 5) hx hb hts inX4 hown hK hP 8 wX_8 rfl 0 (by decide) f0 (fun _ h9 => h9) rfl dX4_add_34 ?_
    refine lv_iload_n hx hb dX4_add_37 rfl (lv_at hl 3 rfl) ?_
    obtain ⟨hi, hw⟩ := hw
    refine x_iast (ws2 := wX h cI cJ (xu (xu (xu S 9 (S 8 0).toNatClampNeg v1) 10 ((xu S 9 (S 8 0).toNatClampNeg v1) 8 0).toNatClampNeg v2) 11 ((xu (xu S 9 (S 8 0).toNatClampNeg v1) 10 ((xu S 9 (S 8 0).toNatClampNeg v1) 8 0).toNatClampNeg v2) 8 0).toNatClampNeg v3) L) hx hb hK hP (hD _ _) hS 11 0 wX_11 rfl hi dX4_add_38 (wX_u11 _ _) (fun H locs hP hS => ?_)
    refine lv_aload_n hx hb dX4_add_39 rfl (lv_at hl 0 rfl) ?_
    refine va_get (D := D) (ci := 4) (v := .ref (h 12)) (C := RX4) (T := TX4) (N := 5) hx hb hts inX4 hown hK hP 8 wX_8 rfl 4 (by decide) f2 (fun _ h9 => h9) rfl dX4_add_40 ?_
    refine lv_aload_n hx hb dX4_add_43 rfl (lv_at hl 0 rfl) ?_
    refine va_get (D := D) (ci := 4) (v := .int ((xu (xu (xu S 9 (S 8 0).toNatClampNeg v1) 10 ((xu S 9 (S 8 0).toNatClampNeg v1) 8 0).toNatClampNeg v2) 11 ((xu (xu S 9 (S 8 0).toNatClampNeg v1) 10 ((xu S 9 (S 8 0).toNatClampNeg v1) 8 0).toNatClampNeg v2) 8 0).toNatClampNeg v3) 8 0)) (C := RX4) (T := TX4) (N := 5) hx hb hts inX4 hown hK hP 8 wX_8 rfl 0 (by decide) f0 (fun _ h9 => h9) rfl dX4_add_44 ?_
    refine lv_iconst (v := (4 : Int32)) hx hb dX4_add_47 (by decide) ?_
    refine lv_imul hx hb dX4_add_48 ?_
    refine lv_iload hx hb dX4_add_49 (lv_at hl 4 rfl) ?_
    obtain ⟨hi, hw⟩ := hw
    refine x_iast (ws2 := wX h cI cJ (xu (xu (xu (xu S 9 (S 8 0).toNatClampNeg v1) 10 ((xu S 9 (S 8 0).toNatClampNeg v1) 8 0).toNatClampNeg v2) 11 ((xu (xu S 9 (S 8 0).toNatClampNeg v1) 10 ((xu S 9 (S 8 0).toNatClampNeg v1) 8 0).toNatClampNeg v2) 8 0).toNatClampNeg v3) 12 (((xu (xu (xu S 9 (S 8 0).toNatClampNeg v1) 10 ((xu S 9 (S 8 0).toNatClampNeg v1) 8 0).toNatClampNeg v2) 11 ((xu (xu S 9 (S 8 0).toNatClampNeg v1) 10 ((xu S 9 (S 8 0).toNatClampNeg v1) 8 0).toNatClampNeg v2) 8 0).toNatClampNeg v3) 8 0) * (4 : Int32)).toNatClampNeg v4) L) hx hb hK hP (hD _ _) hS 12 0 wX_12 rfl hi dX4_add_51 (wX_u12 _ _) (fun H locs hP hS => ?_)
    refine lv_iconst (v := (1 : Int32)) hx hb dX4_add_52 (by decide) ?_
    refine lv_istore (lv' := [(5, .int (1 : Int32)), (0, .ref (h 8)), (1, .int v1), (2, .int v2), (3, .int v3), (4, .int v4)]) hx hb dX4_add_53 hl (by decide) rfl (fun ls hl => ?_)
    obtain ⟨n55, hw⟩ := hw
    exact b55  n55 (1 : Int32) (xu (xu (xu (xu S 9 (S 8 0).toNatClampNeg v1) 10 ((xu S 9 (S 8 0).toNatClampNeg v1) 8 0).toNatClampNeg v2) 11 ((xu (xu S 9 (S 8 0).toNatClampNeg v1) 10 ((xu S 9 (S 8 0).toNatClampNeg v1) 8 0).toNatClampNeg v2) 8 0).toNatClampNeg v3) 12 (((xu (xu (xu S 9 (S 8 0).toNatClampNeg v1) 10 ((xu S 9 (S 8 0).toNatClampNeg v1) 8 0).toNatClampNeg v2) 11 ((xu (xu S 9 (S 8 0).toNatClampNeg v1) 10 ((xu S 9 (S 8 0).toNatClampNeg v1) 8 0).toNatClampNeg v2) 8 0).toNatClampNeg v3) 8 0) * (4 : Int32)).toNatClampNeg v4) _ _ _ (lv_sub hl [1, 0] rfl) hP hS hw
  · replace hw := And.left hw hc
    exact hret _ _ _ _ _ hP hS hw dX4_add_8
abbrev rX4_has : Room := { frames := 0, cells := 0, slots := 0, locals := 0 }
set_option maxHeartbeats 4000000 in
set_option maxRecDepth 100000 in
theorem mX4_has (l : Launch) (D : va_G) (h : Nat → Nat) (cI cJ : ClassId) (t0 : Nat) (hh : xdis 53 h) (S : SX) (L : LX) (v1 : Int32) (post : Int32 → Prop) (hw : kX4_has S L v1 post) : Met l yX4_has wsX4_has rX4_has (xPre D (wX h cI cJ) (xE D h cI cJ t0) S L [.ref (h 8), .int v1]) (va_Qi (fun (r : Int32) (u : SX × LX) => post r ∧ u.1 = S ∧ u.2 = L) (xB D (wX h cI cJ)) (xA 53 h)) 0 0 (xA 53 h) := by
  refine Met.ofW (cc := cX4_has) (maxL := 2) (ret := (some .boolean)) (by decide) rfl ?_
  intro p e s m args below meth c s₁ B hml hv
  obtain ⟨hargs, hP, hE⟩ := hv
  have hx := B.exec
  have hb := B.bytes
  have hr := B.returns
  have hlocks := B.notSynchronized
  have hts := atoms_spec (ws := wsX4_has) B.pre
  have hown : s.vm.findClass RX4 = some m.cls := findClass_of_methodNamed B.named
  have hS : va_S (xA 53 h) s.heap s.heap [] := va_S.rf
  have hD : ∀ (S : SX) (L : LX), va_D (xA 53 h) (wX h cI cJ S L) := fun S L => wX_D hh cI cJ S L
  have hK := hE.1
  have hst : xSt (xA 53 h) (xE D h cI cJ t0) := xE_st D h cI cJ t0
  have f0 := hts (.fieldLink RX4 24 "BookOfWills$Wills" "size" "I") (by decide +kernel)
  have inX4 : ∀ w ∈ u_ws RX4 TX4 5, w ∈ wsX4_has := fun w hw9 => List.mem_cons_of_mem _ (List.mem_append_right _ hw9)
  have hl := lv_entry ([.ref (h 8), .int v1]) (n := 2) (Nat.le_of_ble_eq_true rfl)
  have hen : entryFrame m args 2 = F0 m 0 ((lg_sl ([.ref (h 8), .int v1]) ++ List.replicate (2 - (lg_sl ([.ref (h 8), .int v1])).length) Slot.unset).toArray) [] := by rw [hargs]; exact lg_entry_eq m _ _
  rw [hen]
  generalize (lg_sl ([.ref (h 8), .int v1]) ++ List.replicate (2 - (lg_sl ([.ref (h 8), .int v1])).length) Slot.unset).toArray = ls at hl ⊢
  have hl : lv_has ls 2 [(0, .ref (h 8)), (1, .int v1)] := hl
  change W p l e rX4_has s m args below meth c s.heap [] 0 0 (MQ below (va_Qi (fun (r : Int32) (u : SX × LX) => post r ∧ u.1 = S ∧ u.2 = L) (xB D (wX h cI cJ)) (xA 53 h)) args s 0 0 (xA 53 h)) (F0 m 0 ls [])
  have hret : ∀ (r : Int32) (H : Heap) (locs : List Loc) (ls : Array Slot) (pc : Nat), va_P D vwCl (wX h cI cJ S L) H → va_S (xA 53 h) s.heap H locs → post r → narrow .boolean (.int r) = .int r → decode cX4_has pc = .ok (.ireturn, 1) → W p l e rX4_has s m args below meth c H locs 0 0 (MQ below (va_Qi (fun (r : Int32) (u : SX × LX) => post r ∧ u.1 = S ∧ u.2 = L) (xB D (wX h cI cJ)) (xA 53 h)) args s 0 0 (xA 53 h)) (F0 m pc ls [.int r]) := fun r H locs ls pc hP hS hw hna hd => W.zret hx hb hr hna (fun t ht hW => ⟨⟨r, (S, L), rfl, ⟨hw, rfl, rfl⟩, show va_P D vwCl (wX h cI cJ S L) t.heap by rw [ht]; exact hP⟩, hS.F ht⟩) hS.2.2 hd
  generalize MQ below (va_Qi (fun (r : Int32) (u : SX × LX) => post r ∧ u.1 = S ∧ u.2 = L) (xB D (wX h cI cJ)) (xA 53 h)) args s 0 0 (xA 53 h) = Q at hret ⊢
  unfold kX4_has at hw
  refine lv_iload_n hx hb dX4_has_0 rfl (lv_at hl 1 rfl) ?_
  refine lv_if_lt (tgt := 16) hx hb dX4_has_1 (by decide) (fun hc => ?_) (fun hc => ?_)
  · replace hw := And.left hw hc
    refine lv_iconst (v := (0 : Int32)) hx hb dX4_has_16 (by decide) ?_
    exact hret _ _ _ _ _ hP hS hw rfl dX4_has_17
  · replace hw := And.right hw hc
    refine lv_iload_n hx hb dX4_has_4 rfl (lv_at hl 1 rfl) ?_
    refine lv_aload_n hx hb dX4_has_5 rfl (lv_at hl 0 rfl) ?_
    refine va_get (D := D) (ci := 4) (v := .int (S 8 0)) (C := RX4) (T := TX4) (N := 5) hx hb hts inX4 hown hK hP 8 wX_8 rfl 0 (by decide) f0 (fun _ h9 => h9) rfl dX4_has_6 ?_
    refine lv_icmp_ge (tgt := 16) hx hb dX4_has_9 (by decide) (fun hc => ?_) (fun hc => ?_)
    · replace hw := And.left hw hc
      refine lv_iconst (v := (0 : Int32)) hx hb dX4_has_16 (by decide) ?_
      exact hret _ _ _ _ _ hP hS hw rfl dX4_has_17
    · replace hw := And.right hw hc
      refine lv_iconst (v := (1 : Int32)) hx hb dX4_has_12 (by decide) ?_
      refine lv_goto (tgt := 17) hx hb dX4_has_13 (by decide) ?_
      exact hret _ _ _ _ _ hP hS hw rfl dX4_has_17
abbrev rX4_move_8_8 : Room := { frames := 1, cells := 0, slots := 0, locals := 32 }
set_option maxHeartbeats 4000000 in
set_option maxRecDepth 100000 in
theorem mX4_move_8_8 (l : Launch) (D : va_G) (h : Nat → Nat) (cI cJ : ClassId) (t0 : Nat) (hh : xdis 53 h) (S : SX) (L : LX) (v2 : Int32) (v3 : Int32) (v4 : Int32) (post : SX → Prop) (hw : kX4_move_8_8 S L v2 v3 v4 post) : Met l yX4_move wsX4_move rX4_move_8_8 (xPre D (wX h cI cJ) (xE D h cI cJ t0) S L [.ref (h 8), .ref (h 8), .int v2, .int v3, .int v4]) (va_Qv (fun (u : SX × LX) => post u.1 ∧ u.2 = L) (xB D (wX h cI cJ)) (xA 53 h)) 0 0 (xA 53 h) := by
  refine Met.ofW (cc := cX4_move) (maxL := 5) (ret := none) (by decide) rfl ?_
  intro p e s m args below meth c s₁ B hml hv
  obtain ⟨hargs, hP, hE⟩ := hv
  have hx := B.exec
  have hb := B.bytes
  have hr := B.returns
  have hlocks := B.notSynchronized
  have hts := atoms_spec (ws := wsX4_move) B.pre
  have hown : s.vm.findClass RX4 = some m.cls := findClass_of_methodNamed B.named
  have hS : va_S (xA 53 h) s.heap s.heap [] := va_S.rf
  have hD : ∀ (S : SX) (L : LX), va_D (xA 53 h) (wX h cI cJ S L) := fun S L => wX_D hh cI cJ S L
  have hK := hE.1
  have hst : xSt (xA 53 h) (xE D h cI cJ t0) := xE_st D h cI cJ t0
  have f0 := hts (.fieldLink RX4 9 "BookOfWills$Wills" "year" "[I") (by decide +kernel)
  have inX4 : ∀ w ∈ u_ws RX4 TX4 5, w ∈ wsX4_move := fun w hw9 => List.mem_cons_of_mem _ (List.mem_append_right _ hw9)
  have f2 := hts (.methodLink RX4 39 arraycopyName) (by decide +kernel)
  have f3 := hts (.native arraycopyName) (by decide +kernel)
  have f4 := hts (.static arraycopyName) (by decide +kernel)
  have f5 := hts (.initialized "java/lang/System") (by decide +kernel)
  have f6 := hts (.fieldLink RX4 15 "BookOfWills$Wills" "age" "[I") (by decide +kernel)
  have f7 := hts (.fieldLink RX4 18 "BookOfWills$Wills" "sex" "[I") (by decide +kernel)
  have f8 := hts (.fieldLink RX4 21 "BookOfWills$Wills" "had" "[I") (by decide +kernel)
  have hl := lv_entry ([.ref (h 8), .ref (h 8), .int v2, .int v3, .int v4]) (n := 5) (Nat.le_of_ble_eq_true rfl)
  have hen : entryFrame m args 5 = F0 m 0 ((lg_sl ([.ref (h 8), .ref (h 8), .int v2, .int v3, .int v4]) ++ List.replicate (5 - (lg_sl ([.ref (h 8), .ref (h 8), .int v2, .int v3, .int v4])).length) Slot.unset).toArray) [] := by rw [hargs]; exact lg_entry_eq m _ _
  rw [hen]
  generalize (lg_sl ([.ref (h 8), .ref (h 8), .int v2, .int v3, .int v4]) ++ List.replicate (5 - (lg_sl ([.ref (h 8), .ref (h 8), .int v2, .int v3, .int v4])).length) Slot.unset).toArray = ls at hl ⊢
  have hl : lv_has ls 5 [(0, .ref (h 8)), (1, .ref (h 8)), (2, .int v2), (3, .int v3), (4, .int v4)] := hl
  change W p l e rX4_move_8_8 s m args below meth c s.heap [] 0 0 (MQ below (va_Qv (fun (u : SX × LX) => post u.1 ∧ u.2 = L) (xB D (wX h cI cJ)) (xA 53 h)) args s 0 0 (xA 53 h)) (F0 m 0 ls [])
  have hret : ∀ (S1 : SX) (H : Heap) (locs : List Loc) (ls : Array Slot) (pc : Nat), va_P D vwCl (wX h cI cJ S1 L) H → va_S (xA 53 h) s.heap H locs → post S1 → decode cX4_move pc = .ok (.return_, 1) → W p l e rX4_move_8_8 s m args below meth c H locs 0 0 (MQ below (va_Qv (fun (u : SX × LX) => post u.1 ∧ u.2 = L) (xB D (wX h cI cJ)) (xA 53 h)) args s 0 0 (xA 53 h)) (F0 m pc ls []) := fun S1 H locs ls pc hP hS hw hd => W.vret hx hb hr (fun t ht hW => ⟨⟨(S1, L), rfl, ⟨hw, rfl⟩, show va_P D vwCl (wX h cI cJ S1 L) t.heap by rw [ht]; exact hP⟩, hS.F ht⟩) hS.2.2 hd
  generalize MQ below (va_Qv (fun (u : SX × LX) => post u.1 ∧ u.2 = L) (xB D (wX h cI cJ)) (xA 53 h)) args s 0 0 (xA 53 h) = Q at hret ⊢
  unfold kX4_move_8_8 at hw
  refine lv_aload_n hx hb dX4_move_0 rfl (lv_at hl 1 rfl) ?_
  refine va_get (D := D) (ci := 4) (v := .ref (h 9)) (C := RX4) (T := TX4) (N := 5) hx hb hts inX4 hown hK hP 8 wX_8 rfl 1 (by decide) f0 (fun _ h9 => h9) rfl dX4_move_1 ?_
  refine lv_iload_n hx hb dX4_move_4 rfl (lv_at hl 2 rfl) ?_
  refine lv_aload_n hx hb dX4_move_5 rfl (lv_at hl 0 rfl) ?_
  refine va_get (D := D) (ci := 4) (v := .ref (h 9)) (C := RX4) (T := TX4) (N := 5) hx hb hts inX4 hown hK hP 8 wX_8 rfl 1 (by decide) f0 (fun _ h9 => h9) rfl dX4_move_6 ?_
  refine lv_iload_n hx hb dX4_move_9 rfl (lv_at hl 3 rfl) ?_
  refine lv_iload hx hb dX4_move_10 (lv_at hl 4 rfl) ?_
  obtain ⟨hi, hw⟩ := hw
  refine x_copyi (ws2 := wX h cI cJ (xcp S 9 9 v2.toNatClampNeg v3.toNatClampNeg v4.toNatClampNeg) L) hx hb (hml.trans hl.1.symm) hown f2 f3 f4 f5 hK hP (hD _ _) hS 9 9 0 wX_9 wX_9 rfl hi.1 hi.2.1 hi.2.2.1 hi.2.2.2.1 hi.2.2.2.2 (Nat.le_of_ble_eq_true rfl) (Nat.le_of_ble_eq_true rfl) dX4_move_12 (wX_c9 _ _ _ _) (fun H locs hP hS => ?_)
  refine lv_aload_n hx hb dX4_move_15 rfl (lv_at hl 1 rfl) ?_
  refine va_get (D := D) (ci := 4) (v := .ref (h 10)) (C := RX4) (T := TX4) (N := 5) hx hb hts inX4 hown hK hP 8 wX_8 rfl 2 (by decide) f6 (fun _ h9 => h9) rfl dX4_move_16 ?_
  refine lv_iload_n hx hb dX4_move_19 rfl (lv_at hl 2 rfl) ?_
  refine lv_aload_n hx hb dX4_move_20 rfl (lv_at hl 0 rfl) ?_
  refine va_get (D := D) (ci := 4) (v := .ref (h 10)) (C := RX4) (T := TX4) (N := 5) hx hb hts inX4 hown hK hP 8 wX_8 rfl 2 (by decide) f6 (fun _ h9 => h9) rfl dX4_move_21 ?_
  refine lv_iload_n hx hb dX4_move_24 rfl (lv_at hl 3 rfl) ?_
  refine lv_iload hx hb dX4_move_25 (lv_at hl 4 rfl) ?_
  obtain ⟨hi, hw⟩ := hw
  refine x_copyi (ws2 := wX h cI cJ (xcp (xcp S 9 9 v2.toNatClampNeg v3.toNatClampNeg v4.toNatClampNeg) 10 10 v2.toNatClampNeg v3.toNatClampNeg v4.toNatClampNeg) L) hx hb (hml.trans hl.1.symm) hown f2 f3 f4 f5 hK hP (hD _ _) hS 10 10 0 wX_10 wX_10 rfl hi.1 hi.2.1 hi.2.2.1 hi.2.2.2.1 hi.2.2.2.2 (Nat.le_of_ble_eq_true rfl) (Nat.le_of_ble_eq_true rfl) dX4_move_27 (wX_c10 _ _ _ _) (fun H locs hP hS => ?_)
  refine lv_aload_n hx hb dX4_move_30 rfl (lv_at hl 1 rfl) ?_
  refine va_get (D := D) (ci := 4) (v := .ref (h 11)) (C := RX4) (T := TX4) (N := 5) hx hb hts inX4 hown hK hP 8 wX_8 rfl 3 (by decide) f7 (fun _ h9 => h9) rfl dX4_move_31 ?_
  refine lv_iload_n hx hb dX4_move_34 rfl (lv_at hl 2 rfl) ?_
  refine lv_aload_n hx hb dX4_move_35 rfl (lv_at hl 0 rfl) ?_
  refine va_get (D := D) (ci := 4) (v := .ref (h 11)) (C := RX4) (T := TX4) (N := 5) hx hb hts inX4 hown hK hP 8 wX_8 rfl 3 (by decide) f7 (fun _ h9 => h9) rfl dX4_move_36 ?_
  refine lv_iload_n hx hb dX4_move_39 rfl (lv_at hl 3 rfl) ?_
  refine lv_iload hx hb dX4_move_40 (lv_at hl 4 rfl) ?_
  obtain ⟨hi, hw⟩ := hw
  refine x_copyi (ws2 := wX h cI cJ (xcp (xcp (xcp S 9 9 v2.toNatClampNeg v3.toNatClampNeg v4.toNatClampNeg) 10 10 v2.toNatClampNeg v3.toNatClampNeg v4.toNatClampNeg) 11 11 v2.toNatClampNeg v3.toNatClampNeg v4.toNatClampNeg) L) hx hb (hml.trans hl.1.symm) hown f2 f3 f4 f5 hK hP (hD _ _) hS 11 11 0 wX_11 wX_11 rfl hi.1 hi.2.1 hi.2.2.1 hi.2.2.2.1 hi.2.2.2.2 (Nat.le_of_ble_eq_true rfl) (Nat.le_of_ble_eq_true rfl) dX4_move_42 (wX_c11 _ _ _ _) (fun H locs hP hS => ?_)
  refine lv_aload_n hx hb dX4_move_45 rfl (lv_at hl 1 rfl) ?_
  refine va_get (D := D) (ci := 4) (v := .ref (h 12)) (C := RX4) (T := TX4) (N := 5) hx hb hts inX4 hown hK hP 8 wX_8 rfl 4 (by decide) f8 (fun _ h9 => h9) rfl dX4_move_46 ?_
  refine lv_iload_n hx hb dX4_move_49 rfl (lv_at hl 2 rfl) ?_
  refine lv_iconst (v := (4 : Int32)) hx hb dX4_move_50 (by decide) ?_
  refine lv_imul hx hb dX4_move_51 ?_
  refine lv_aload_n hx hb dX4_move_52 rfl (lv_at hl 0 rfl) ?_
  refine va_get (D := D) (ci := 4) (v := .ref (h 12)) (C := RX4) (T := TX4) (N := 5) hx hb hts inX4 hown hK hP 8 wX_8 rfl 4 (by decide) f8 (fun _ h9 => h9) rfl dX4_move_53 ?_
  refine lv_iload_n hx hb dX4_move_56 rfl (lv_at hl 3 rfl) ?_
  refine lv_iconst (v := (4 : Int32)) hx hb dX4_move_57 (by decide) ?_
  refine lv_imul hx hb dX4_move_58 ?_
  refine lv_iload hx hb dX4_move_59 (lv_at hl 4 rfl) ?_
  refine lv_iconst (v := (4 : Int32)) hx hb dX4_move_61 (by decide) ?_
  refine lv_imul hx hb dX4_move_62 ?_
  obtain ⟨hi, hw⟩ := hw
  refine x_copyi (ws2 := wX h cI cJ (xcp (xcp (xcp (xcp S 9 9 v2.toNatClampNeg v3.toNatClampNeg v4.toNatClampNeg) 10 10 v2.toNatClampNeg v3.toNatClampNeg v4.toNatClampNeg) 11 11 v2.toNatClampNeg v3.toNatClampNeg v4.toNatClampNeg) 12 12 (v2 * (4 : Int32)).toNatClampNeg (v3 * (4 : Int32)).toNatClampNeg (v4 * (4 : Int32)).toNatClampNeg) L) hx hb (hml.trans hl.1.symm) hown f2 f3 f4 f5 hK hP (hD _ _) hS 12 12 0 wX_12 wX_12 rfl hi.1 hi.2.1 hi.2.2.1 hi.2.2.2.1 hi.2.2.2.2 (Nat.le_of_ble_eq_true rfl) (Nat.le_of_ble_eq_true rfl) dX4_move_63 (wX_c12 _ _ _ _) (fun H locs hP hS => ?_)
  exact hret _ _ _ _ _ hP hS hw dX4_move_66
abbrev rX4_removeOne : Room := { frames := 2, cells := 0, slots := 0, locals := 56 }
set_option maxHeartbeats 4000000 in
set_option maxRecDepth 100000 in
theorem mX4_removeOne (l : Launch) (D : va_G) (h : Nat → Nat) (cI cJ : ClassId) (t0 : Nat) (hh : xdis 53 h) (S : SX) (L : LX) (v1 : Int32) (post : SX → Prop) (hw : kX4_removeOne S L v1 post) : Met l yX4_removeOne wsX4_removeOne rX4_removeOne (xPre D (wX h cI cJ) (xE D h cI cJ t0) S L [.ref (h 8), .int v1]) (va_Qv (fun (u : SX × LX) => post u.1 ∧ u.2 = L) (xB D (wX h cI cJ)) (xA 53 h)) 0 0 (xA 53 h) := by
  refine Met.ofW (cc := cX4_removeOne) (maxL := 2) (ret := none) (by decide) rfl ?_
  intro p e s m args below meth c s₁ B hml hv
  obtain ⟨hargs, hP, hE⟩ := hv
  have hx := B.exec
  have hb := B.bytes
  have hr := B.returns
  have hlocks := B.notSynchronized
  have hts := atoms_spec (ws := wsX4_removeOne) B.pre
  have hown : s.vm.findClass RX4 = some m.cls := findClass_of_methodNamed B.named
  have hS : va_S (xA 53 h) s.heap s.heap [] := va_S.rf
  have hD : ∀ (S : SX) (L : LX), va_D (xA 53 h) (wX h cI cJ S L) := fun S L => wX_D hh cI cJ S L
  have hK := hE.1
  have hst : xSt (xA 53 h) (xE D h cI cJ t0) := xE_st D h cI cJ t0
  have f0 := hts (.fieldLink RX4 24 "BookOfWills$Wills" "size" "I") (by decide +kernel)
  have inX4 : ∀ w ∈ u_ws RX4 TX4 5, w ∈ wsX4_removeOne := fun w hw9 => List.mem_cons_of_mem _ (List.mem_append_right _ hw9)
  have hl := lv_entry ([.ref (h 8), .int v1]) (n := 2) (Nat.le_of_ble_eq_true rfl)
  have hen : entryFrame m args 2 = F0 m 0 ((lg_sl ([.ref (h 8), .int v1]) ++ List.replicate (2 - (lg_sl ([.ref (h 8), .int v1])).length) Slot.unset).toArray) [] := by rw [hargs]; exact lg_entry_eq m _ _
  rw [hen]
  generalize (lg_sl ([.ref (h 8), .int v1]) ++ List.replicate (2 - (lg_sl ([.ref (h 8), .int v1])).length) Slot.unset).toArray = ls at hl ⊢
  have hl : lv_has ls 2 [(0, .ref (h 8)), (1, .int v1)] := hl
  change W p l e rX4_removeOne s m args below meth c s.heap [] 0 0 (MQ below (va_Qv (fun (u : SX × LX) => post u.1 ∧ u.2 = L) (xB D (wX h cI cJ)) (xA 53 h)) args s 0 0 (xA 53 h)) (F0 m 0 ls [])
  have hret : ∀ (S1 : SX) (H : Heap) (locs : List Loc) (ls : Array Slot) (pc : Nat), va_P D vwCl (wX h cI cJ S1 L) H → va_S (xA 53 h) s.heap H locs → post S1 → decode cX4_removeOne pc = .ok (.return_, 1) → W p l e rX4_removeOne s m args below meth c H locs 0 0 (MQ below (va_Qv (fun (u : SX × LX) => post u.1 ∧ u.2 = L) (xB D (wX h cI cJ)) (xA 53 h)) args s 0 0 (xA 53 h)) (F0 m pc ls []) := fun S1 H locs ls pc hP hS hw hd => W.vret hx hb hr (fun t ht hW => ⟨⟨(S1, L), rfl, ⟨hw, rfl⟩, show va_P D vwCl (wX h cI cJ S1 L) t.heap by rw [ht]; exact hP⟩, hS.F ht⟩) hS.2.2 hd
  generalize MQ below (va_Qv (fun (u : SX × LX) => post u.1 ∧ u.2 = L) (xB D (wX h cI cJ)) (xA 53 h)) args s 0 0 (xA 53 h) = Q at hret ⊢
  unfold kX4_removeOne at hw
  refine lv_aload_n hx hb dX4_removeOne_0 rfl (lv_at hl 0 rfl) ?_
  refine lv_iload_n hx hb dX4_removeOne_1 rfl (lv_at hl 1 rfl) ?_
  refine xVi0 (As := [.int v1]) (rest := []) hst hE hP hS ⟨hx, hb, hml, hown, hts⟩ (va_recv hK hP (ci := 4) (q := (RX4, TX4, 5)) rfl wX_8) (mX4_has l D h cI cJ t0 hh S L v1 _ hw) (cwV 1 hts gX4_removeOne_X4_has rfl rfl rfl (by decide +kernel) ⟨Nat.le_of_ble_eq_true rfl, Nat.le_of_ble_eq_true rfl⟩) rfl hl.1 rfl (Nat.le_of_ble_eq_true rfl) dX4_removeOne_2 ⟨Nat.zero_le _, Nat.zero_le _⟩ (fun r2 H locs hw hP hS => ?_)
  refine lv_if_eq (tgt := 35) hx hb dX4_removeOne_5 (by decide) (fun hc => ?_) (fun hc => ?_)
  · replace hw := And.left hw hc
    exact hret _ _ _ _ _ hP hS hw dX4_removeOne_35
  · replace hw := And.right hw hc
    refine lv_aload_n hx hb dX4_removeOne_8 rfl (lv_at hl 0 rfl) ?_
    refine lv_aload_n hx hb dX4_removeOne_9 rfl (lv_at hl 0 rfl) ?_
    refine lv_iload_n hx hb dX4_removeOne_10 rfl (lv_at hl 1 rfl) ?_
    refine lv_iconst (v := (1 : Int32)) hx hb dX4_removeOne_11 (by decide) ?_
    refine lv_iadd hx hb dX4_removeOne_12 ?_
    refine lv_iload_n hx hb dX4_removeOne_13 rfl (lv_at hl 1 rfl) ?_
    refine lv_aload_n hx hb dX4_removeOne_14 rfl (lv_at hl 0 rfl) ?_
    refine va_get (D := D) (ci := 4) (v := .int (S 8 0)) (C := RX4) (T := TX4) (N := 5) hx hb hts inX4 hown hK hP 8 wX_8 rfl 0 (by decide) f0 (fun _ h9 => h9) rfl dX4_removeOne_15 ?_
    refine lv_iload_n hx hb dX4_removeOne_18 rfl (lv_at hl 1 rfl) ?_
    refine lv_isub hx hb dX4_removeOne_19 ?_
    refine lv_iconst (v := (1 : Int32)) hx hb dX4_removeOne_20 (by decide) ?_
    refine lv_isub hx hb dX4_removeOne_21 ?_
    refine xVv1 (As := [.ref (h 8), .int (v1 + (1 : Int32)), .int v1, .int (((S 8 0) - v1) - (1 : Int32))]) (rest := []) hst hE hP hS ⟨hx, hb, hml, hown, hts⟩ (va_recv hK hP (ci := 4) (q := (RX4, TX4, 5)) rfl wX_8) (mX4_move_8_8 l D h cI cJ t0 hh S L (v1 + (1 : Int32)) v1 (((S 8 0) - v1) - (1 : Int32)) _ hw) (cwV 4 hts gX4_removeOne_X4_move rfl rfl rfl (by decide +kernel) ⟨Nat.le_of_ble_eq_true rfl, Nat.le_of_ble_eq_true rfl⟩) rfl hl.1 rfl (Nat.le_of_ble_eq_true rfl) dX4_removeOne_22 ⟨Nat.zero_le _, Nat.zero_le _⟩ (fun S22 H locs hw hP hS => ?_)
    refine lv_aload_n hx hb dX4_removeOne_25 rfl (lv_at hl 0 rfl) ?_
    refine lv_dup hx hb dX4_removeOne_26 rfl ?_
    refine va_get (D := D) (ci := 4) (v := .int (S22 8 0)) (C := RX4) (T := TX4) (N := 5) hx hb hts inX4 hown hK hP 8 wX_8 rfl 0 (by decide) f0 (fun _ h9 => h9) rfl dX4_removeOne_27 ?_
    refine lv_iconst (v := (1 : Int32)) hx hb dX4_removeOne_30 (by decide) ?_
    refine lv_isub hx hb dX4_removeOne_31 ?_
    refine x_put (D := D) (ci := 4) (v := .int ((S22 8 0) - (1 : Int32))) (ty := .int) (C := RX4) (T := TX4) (N := 5) (ws2 := wX h cI cJ (xu S22 8 0 ((S22 8 0) - (1 : Int32))) L) hx hb hts inX4 tyX4 tyX4_ok nmX4 hown hK hP (hD _ _) hS 8 wX_8 rfl 0 (by decide) f0 (fun _ h9 => h9) rfl (by decide +kernel) rfl rfl (Nat.le_of_ble_eq_true rfl) dX4_removeOne_32 (wX_p8_0 _) (fun H locs hP hS => ?_)
    exact hret _ _ _ _ _ hP hS hw dX4_removeOne_35
abbrev rX3_hasRoomFor : Room := { frames := 0, cells := 0, slots := 0, locals := 0 }
set_option maxHeartbeats 4000000 in
set_option maxRecDepth 100000 in
theorem mX3_hasRoomFor (l : Launch) (D : va_G) (h : Nat → Nat) (cI cJ : ClassId) (t0 : Nat) (hh : xdis 53 h) (S : SX) (L : LX) (v1 : Int32) (post : Int32 → Prop) (hw : kX3_hasRoomFor S L v1 post) : Met l yX3_hasRoomFor wsX3_hasRoomFor rX3_hasRoomFor (xPre D (wX h cI cJ) (xE D h cI cJ t0) S L [.ref (h 37), .int v1]) (va_Qi (fun (r : Int32) (u : SX × LX) => post r ∧ u.1 = S ∧ u.2 = L) (xB D (wX h cI cJ)) (xA 53 h)) 0 0 (xA 53 h) := by
  refine Met.ofW (cc := cX3_hasRoomFor) (maxL := 2) (ret := (some .boolean)) (by decide) rfl ?_
  intro p e s m args below meth c s₁ B hml hv
  obtain ⟨hargs, hP, hE⟩ := hv
  have hx := B.exec
  have hb := B.bytes
  have hr := B.returns
  have hlocks := B.notSynchronized
  have hts := atoms_spec (ws := wsX3_hasRoomFor) B.pre
  have hown : s.vm.findClass RX3 = some m.cls := findClass_of_methodNamed B.named
  have hS : va_S (xA 53 h) s.heap s.heap [] := va_S.rf
  have hD : ∀ (S : SX) (L : LX), va_D (xA 53 h) (wX h cI cJ S L) := fun S L => wX_D hh cI cJ S L
  have hK := hE.1
  have hst : xSt (xA 53 h) (xE D h cI cJ t0) := xE_st D h cI cJ t0
  have f0 := hts (.fieldLink RX3 15 "BookOfWills$Tape" "size" "I") (by decide +kernel)
  have inX3 : ∀ w ∈ u_ws RX3 TX3 3, w ∈ wsX3_hasRoomFor := fun w hw9 => List.mem_cons_of_mem _ (List.mem_append_right _ hw9)
  have hl := lv_entry ([.ref (h 37), .int v1]) (n := 2) (Nat.le_of_ble_eq_true rfl)
  have hen : entryFrame m args 2 = F0 m 0 ((lg_sl ([.ref (h 37), .int v1]) ++ List.replicate (2 - (lg_sl ([.ref (h 37), .int v1])).length) Slot.unset).toArray) [] := by rw [hargs]; exact lg_entry_eq m _ _
  rw [hen]
  generalize (lg_sl ([.ref (h 37), .int v1]) ++ List.replicate (2 - (lg_sl ([.ref (h 37), .int v1])).length) Slot.unset).toArray = ls at hl ⊢
  have hl : lv_has ls 2 [(0, .ref (h 37)), (1, .int v1)] := hl
  change W p l e rX3_hasRoomFor s m args below meth c s.heap [] 0 0 (MQ below (va_Qi (fun (r : Int32) (u : SX × LX) => post r ∧ u.1 = S ∧ u.2 = L) (xB D (wX h cI cJ)) (xA 53 h)) args s 0 0 (xA 53 h)) (F0 m 0 ls [])
  have hret : ∀ (r : Int32) (H : Heap) (locs : List Loc) (ls : Array Slot) (pc : Nat), va_P D vwCl (wX h cI cJ S L) H → va_S (xA 53 h) s.heap H locs → post r → narrow .boolean (.int r) = .int r → decode cX3_hasRoomFor pc = .ok (.ireturn, 1) → W p l e rX3_hasRoomFor s m args below meth c H locs 0 0 (MQ below (va_Qi (fun (r : Int32) (u : SX × LX) => post r ∧ u.1 = S ∧ u.2 = L) (xB D (wX h cI cJ)) (xA 53 h)) args s 0 0 (xA 53 h)) (F0 m pc ls [.int r]) := fun r H locs ls pc hP hS hw hna hd => W.zret hx hb hr hna (fun t ht hW => ⟨⟨r, (S, L), rfl, ⟨hw, rfl, rfl⟩, show va_P D vwCl (wX h cI cJ S L) t.heap by rw [ht]; exact hP⟩, hS.F ht⟩) hS.2.2 hd
  generalize MQ below (va_Qi (fun (r : Int32) (u : SX × LX) => post r ∧ u.1 = S ∧ u.2 = L) (xB D (wX h cI cJ)) (xA 53 h)) args s 0 0 (xA 53 h) = Q at hret ⊢
  unfold kX3_hasRoomFor at hw
  refine lv_iload_n hx hb dX3_hasRoomFor_0 rfl (lv_at hl 1 rfl) ?_
  refine lv_bipush (v := (100 : Int32)) hx hb dX3_hasRoomFor_1 (by decide) ?_
  refine lv_aload_n hx hb dX3_hasRoomFor_3 rfl (lv_at hl 0 rfl) ?_
  refine va_get (D := D) (ci := 3) (v := .int (S 37 0)) (C := RX3) (T := TX3) (N := 3) hx hb hts inX3 hown hK hP 37 wX_37 rfl 0 (by decide) f0 (fun _ h9 => h9) rfl dX3_hasRoomFor_4 ?_
  refine lv_isub hx hb dX3_hasRoomFor_7 ?_
  refine lv_icmp_gt (tgt := 15) hx hb dX3_hasRoomFor_8 (by decide) (fun hc => ?_) (fun hc => ?_)
  · replace hw := And.left hw hc
    refine lv_iconst (v := (0 : Int32)) hx hb dX3_hasRoomFor_15 (by decide) ?_
    exact hret _ _ _ _ _ hP hS hw rfl dX3_hasRoomFor_16
  · replace hw := And.right hw hc
    refine lv_iconst (v := (1 : Int32)) hx hb dX3_hasRoomFor_11 (by decide) ?_
    refine lv_goto (tgt := 16) hx hb dX3_hasRoomFor_12 (by decide) ?_
    exact hret _ _ _ _ _ hP hS hw rfl dX3_hasRoomFor_16
abbrev rX3_add : Room := { frames := 1, cells := 0, slots := 0, locals := 21 }
set_option maxHeartbeats 4000000 in
set_option maxRecDepth 100000 in
theorem mX3_add (l : Launch) (D : va_G) (h : Nat → Nat) (cI cJ : ClassId) (t0 : Nat) (hh : xdis 53 h) (S : SX) (L : LX) (v1 : Int32) (post : SX → Prop) (hw : kX3_add S L v1 post) : Met l yX3_add wsX3_add rX3_add (xPre D (wX h cI cJ) (xE D h cI cJ t0) S L [.ref (h 37), .int v1]) (va_Qv (fun (u : SX × LX) => post u.1 ∧ u.2 = L) (xB D (wX h cI cJ)) (xA 53 h)) 0 0 (xA 53 h) := by
  refine Met.ofW (cc := cX3_add) (maxL := 2) (ret := none) (by decide) rfl ?_
  intro p e s m args below meth c s₁ B hml hv
  obtain ⟨hargs, hP, hE⟩ := hv
  have hx := B.exec
  have hb := B.bytes
  have hr := B.returns
  have hlocks := B.notSynchronized
  have hts := atoms_spec (ws := wsX3_add) B.pre
  have hown : s.vm.findClass RX3 = some m.cls := findClass_of_methodNamed B.named
  have hS : va_S (xA 53 h) s.heap s.heap [] := va_S.rf
  have hD : ∀ (S : SX) (L : LX), va_D (xA 53 h) (wX h cI cJ S L) := fun S L => wX_D hh cI cJ S L
  have hK := hE.1
  have hst : xSt (xA 53 h) (xE D h cI cJ t0) := xE_st D h cI cJ t0
  have f0 := hts (.fieldLink RX3 9 "BookOfWills$Tape" "bytes" "[I") (by decide +kernel)
  have inX3 : ∀ w ∈ u_ws RX3 TX3 3, w ∈ wsX3_add := fun w hw9 => List.mem_cons_of_mem _ (List.mem_append_right _ hw9)
  have f2 := hts (.fieldLink RX3 15 "BookOfWills$Tape" "size" "I") (by decide +kernel)
  have hl := lv_entry ([.ref (h 37), .int v1]) (n := 2) (Nat.le_of_ble_eq_true rfl)
  have hen : entryFrame m args 2 = F0 m 0 ((lg_sl ([.ref (h 37), .int v1]) ++ List.replicate (2 - (lg_sl ([.ref (h 37), .int v1])).length) Slot.unset).toArray) [] := by rw [hargs]; exact lg_entry_eq m _ _
  rw [hen]
  generalize (lg_sl ([.ref (h 37), .int v1]) ++ List.replicate (2 - (lg_sl ([.ref (h 37), .int v1])).length) Slot.unset).toArray = ls at hl ⊢
  have hl : lv_has ls 2 [(0, .ref (h 37)), (1, .int v1)] := hl
  change W p l e rX3_add s m args below meth c s.heap [] 0 0 (MQ below (va_Qv (fun (u : SX × LX) => post u.1 ∧ u.2 = L) (xB D (wX h cI cJ)) (xA 53 h)) args s 0 0 (xA 53 h)) (F0 m 0 ls [])
  have hret : ∀ (S1 : SX) (H : Heap) (locs : List Loc) (ls : Array Slot) (pc : Nat), va_P D vwCl (wX h cI cJ S1 L) H → va_S (xA 53 h) s.heap H locs → post S1 → decode cX3_add pc = .ok (.return_, 1) → W p l e rX3_add s m args below meth c H locs 0 0 (MQ below (va_Qv (fun (u : SX × LX) => post u.1 ∧ u.2 = L) (xB D (wX h cI cJ)) (xA 53 h)) args s 0 0 (xA 53 h)) (F0 m pc ls []) := fun S1 H locs ls pc hP hS hw hd => W.vret hx hb hr (fun t ht hW => ⟨⟨(S1, L), rfl, ⟨hw, rfl⟩, show va_P D vwCl (wX h cI cJ S1 L) t.heap by rw [ht]; exact hP⟩, hS.F ht⟩) hS.2.2 hd
  generalize MQ below (va_Qv (fun (u : SX × LX) => post u.1 ∧ u.2 = L) (xB D (wX h cI cJ)) (xA 53 h)) args s 0 0 (xA 53 h) = Q at hret ⊢
  unfold kX3_add at hw
  refine lv_aload_n hx hb dX3_add_0 rfl (lv_at hl 0 rfl) ?_
  refine lv_iconst (v := (1 : Int32)) hx hb dX3_add_1 (by decide) ?_
  refine xVi0 (As := [.int (1 : Int32)]) (rest := []) hst hE hP hS ⟨hx, hb, hml, hown, hts⟩ (va_recv hK hP (ci := 3) (q := (RX3, TX3, 3)) rfl wX_37) (mX3_hasRoomFor l D h cI cJ t0 hh S L (1 : Int32) _ hw) (cwV 1 hts gX3_add_X3_hasRoomFor rfl rfl rfl (by decide +kernel) ⟨Nat.le_of_ble_eq_true rfl, Nat.le_of_ble_eq_true rfl⟩) rfl hl.1 rfl (Nat.le_of_ble_eq_true rfl) dX3_add_2 ⟨Nat.zero_le _, Nat.zero_le _⟩ (fun r2 H locs hw hP hS => ?_)
  refine lv_if_eq (tgt := 28) hx hb dX3_add_5 (by decide) (fun hc => ?_) (fun hc => ?_)
  · replace hw := And.left hw hc
    exact hret _ _ _ _ _ hP hS hw dX3_add_28
  · replace hw := And.right hw hc
    refine lv_aload_n hx hb dX3_add_8 rfl (lv_at hl 0 rfl) ?_
    refine va_get (D := D) (ci := 3) (v := .ref (h 38)) (C := RX3) (T := TX3) (N := 3) hx hb hts inX3 hown hK hP 37 wX_37 rfl 2 (by decide) f0 (fun _ h9 => h9) rfl dX3_add_9 ?_
    refine lv_aload_n hx hb dX3_add_12 rfl (lv_at hl 0 rfl) ?_
    refine va_get (D := D) (ci := 3) (v := .int (S 37 0)) (C := RX3) (T := TX3) (N := 3) hx hb hts inX3 hown hK hP 37 wX_37 rfl 0 (by decide) f2 (fun _ h9 => h9) rfl dX3_add_13 ?_
    refine lv_iload_n hx hb dX3_add_16 rfl (lv_at hl 1 rfl) ?_
    obtain ⟨hi, hw⟩ := hw
    refine x_iast (ws2 := wX h cI cJ (xu S 38 (S 37 0).toNatClampNeg v1) L) hx hb hK hP (hD _ _) hS 38 0 wX_38 rfl hi dX3_add_17 (wX_u38 _ _) (fun H locs hP hS => ?_)
    refine lv_aload_n hx hb dX3_add_18 rfl (lv_at hl 0 rfl) ?_
    refine lv_dup hx hb dX3_add_19 rfl ?_
    refine va_get (D := D) (ci := 3) (v := .int ((xu S 38 (S 37 0).toNatClampNeg v1) 37 0)) (C := RX3) (T := TX3) (N := 3) hx hb hts inX3 hown hK hP 37 wX_37 rfl 0 (by decide) f2 (fun _ h9 => h9) rfl dX3_add_20 ?_
    refine lv_iconst (v := (1 : Int32)) hx hb dX3_add_23 (by decide) ?_
    refine lv_iadd hx hb dX3_add_24 ?_
    refine x_put (D := D) (ci := 3) (v := .int (((xu S 38 (S 37 0).toNatClampNeg v1) 37 0) + (1 : Int32))) (ty := .int) (C := RX3) (T := TX3) (N := 3) (ws2 := wX h cI cJ (xu (xu S 38 (S 37 0).toNatClampNeg v1) 37 0 (((xu S 38 (S 37 0).toNatClampNeg v1) 37 0) + (1 : Int32))) L) hx hb hts inX3 tyX3 tyX3_ok nmX3 hown hK hP (hD _ _) hS 37 wX_37 rfl 0 (by decide) f2 (fun _ h9 => h9) rfl (by decide +kernel) rfl rfl (Nat.le_of_ble_eq_true rfl) dX3_add_25 (wX_p37_0 _) (fun H locs hP hS => ?_)
    exact hret _ _ _ _ _ hP hS hw dX3_add_28
abbrev rX0_takeFrom_39_3 : Room := { frames := 1, cells := 0, slots := 0, locals := 32 }
set_option maxHeartbeats 4000000 in
set_option maxRecDepth 100000 in
theorem mX0_takeFrom_39_3 (l : Launch) (D : va_G) (h : Nat → Nat) (cI cJ : ClassId) (t0 : Nat) (hh : xdis 53 h) (S : SX) (L : LX) (post : SX → Prop) (hw : kX0_takeFrom_39_3 S L  post) : Met l yX0_takeFrom wsX0_takeFrom rX0_takeFrom_39_3 (xPre D (wX h cI cJ) (xE D h cI cJ t0) S L [.ref (h 39), .ref (h 3)]) (va_Qv (fun (u : SX × LX) => post u.1 ∧ u.2 = L) (xB D (wX h cI cJ)) (xA 53 h)) 0 0 (xA 53 h) := by
  refine Met.ofW (cc := cX0_takeFrom) (maxL := 2) (ret := none) (by decide) rfl ?_
  intro p e s m args below meth c s₁ B hml hv
  obtain ⟨hargs, hP, hE⟩ := hv
  have hx := B.exec
  have hb := B.bytes
  have hr := B.returns
  have hlocks := B.notSynchronized
  have hts := atoms_spec (ws := wsX0_takeFrom) B.pre
  have hown : s.vm.findClass RX0 = some m.cls := findClass_of_methodNamed B.named
  have hS : va_S (xA 53 h) s.heap s.heap [] := va_S.rf
  have hD : ∀ (S : SX) (L : LX), va_D (xA 53 h) (wX h cI cJ S L) := fun S L => wX_D hh cI cJ S L
  have hK := hE.1
  have hst : xSt (xA 53 h) (xE D h cI cJ t0) := xE_st D h cI cJ t0
  have f0 := hts (.fieldLink RX0 9 "BookOfWills$Laws" "floor" "[I") (by decide +kernel)
  have inX0 : ∀ w ∈ u_ws RX0 TX0 4, w ∈ wsX0_takeFrom := fun w hw9 => List.mem_cons_of_mem _ (List.mem_append_right _ hw9)
  have f2 := hts (.methodLink RX0 24 arraycopyName) (by decide +kernel)
  have f3 := hts (.native arraycopyName) (by decide +kernel)
  have f4 := hts (.static arraycopyName) (by decide +kernel)
  have f5 := hts (.initialized "java/lang/System") (by decide +kernel)
  have f6 := hts (.fieldLink RX0 15 "BookOfWills$Laws" "line" "[I") (by decide +kernel)
  have f7 := hts (.fieldLink RX0 18 "BookOfWills$Laws" "keen" "[I") (by decide +kernel)
  have f8 := hts (.fieldLink RX0 21 "BookOfWills$Laws" "marks" "[I") (by decide +kernel)
  have hl := lv_entry ([.ref (h 39), .ref (h 3)]) (n := 2) (Nat.le_of_ble_eq_true rfl)
  have hen : entryFrame m args 2 = F0 m 0 ((lg_sl ([.ref (h 39), .ref (h 3)]) ++ List.replicate (2 - (lg_sl ([.ref (h 39), .ref (h 3)])).length) Slot.unset).toArray) [] := by rw [hargs]; exact lg_entry_eq m _ _
  rw [hen]
  generalize (lg_sl ([.ref (h 39), .ref (h 3)]) ++ List.replicate (2 - (lg_sl ([.ref (h 39), .ref (h 3)])).length) Slot.unset).toArray = ls at hl ⊢
  have hl : lv_has ls 2 [(0, .ref (h 39)), (1, .ref (h 3))] := hl
  change W p l e rX0_takeFrom_39_3 s m args below meth c s.heap [] 0 0 (MQ below (va_Qv (fun (u : SX × LX) => post u.1 ∧ u.2 = L) (xB D (wX h cI cJ)) (xA 53 h)) args s 0 0 (xA 53 h)) (F0 m 0 ls [])
  have hret : ∀ (S1 : SX) (H : Heap) (locs : List Loc) (ls : Array Slot) (pc : Nat), va_P D vwCl (wX h cI cJ S1 L) H → va_S (xA 53 h) s.heap H locs → post S1 → decode cX0_takeFrom pc = .ok (.return_, 1) → W p l e rX0_takeFrom_39_3 s m args below meth c H locs 0 0 (MQ below (va_Qv (fun (u : SX × LX) => post u.1 ∧ u.2 = L) (xB D (wX h cI cJ)) (xA 53 h)) args s 0 0 (xA 53 h)) (F0 m pc ls []) := fun S1 H locs ls pc hP hS hw hd => W.vret hx hb hr (fun t ht hW => ⟨⟨(S1, L), rfl, ⟨hw, rfl⟩, show va_P D vwCl (wX h cI cJ S1 L) t.heap by rw [ht]; exact hP⟩, hS.F ht⟩) hS.2.2 hd
  generalize MQ below (va_Qv (fun (u : SX × LX) => post u.1 ∧ u.2 = L) (xB D (wX h cI cJ)) (xA 53 h)) args s 0 0 (xA 53 h) = Q at hret ⊢
  unfold kX0_takeFrom_39_3 at hw
  refine lv_aload_n hx hb dX0_takeFrom_0 rfl (lv_at hl 1 rfl) ?_
  refine va_get (D := D) (ci := 0) (v := .ref (h 4)) (C := RX0) (T := TX0) (N := 4) hx hb hts inX0 hown hK hP 3 wX_3 rfl 0 (by decide) f0 (fun _ h9 => h9) rfl dX0_takeFrom_1 ?_
  refine lv_iconst (v := (0 : Int32)) hx hb dX0_takeFrom_4 (by decide) ?_
  refine lv_aload_n hx hb dX0_takeFrom_5 rfl (lv_at hl 0 rfl) ?_
  refine va_get (D := D) (ci := 0) (v := .ref (h 40)) (C := RX0) (T := TX0) (N := 4) hx hb hts inX0 hown hK hP 39 wX_39 rfl 0 (by decide) f0 (fun _ h9 => h9) rfl dX0_takeFrom_6 ?_
  refine lv_iconst (v := (0 : Int32)) hx hb dX0_takeFrom_9 (by decide) ?_
  refine lv_bipush (v := (8 : Int32)) hx hb dX0_takeFrom_10 (by decide) ?_
  obtain ⟨hi, hw⟩ := hw
  refine x_copyi (ws2 := wX h cI cJ (xcp S 40 4 (0 : Int32).toNatClampNeg (0 : Int32).toNatClampNeg (8 : Int32).toNatClampNeg) L) hx hb (hml.trans hl.1.symm) hown f2 f3 f4 f5 hK hP (hD _ _) hS 4 40 0 wX_4 wX_40 rfl hi.1 hi.2.1 hi.2.2.1 hi.2.2.2.1 hi.2.2.2.2 (Nat.le_of_ble_eq_true rfl) (Nat.le_of_ble_eq_true rfl) dX0_takeFrom_12 (wX_c40 _ _ _ _) (fun H locs hP hS => ?_)
  refine lv_aload_n hx hb dX0_takeFrom_15 rfl (lv_at hl 1 rfl) ?_
  refine va_get (D := D) (ci := 0) (v := .ref (h 5)) (C := RX0) (T := TX0) (N := 4) hx hb hts inX0 hown hK hP 3 wX_3 rfl 1 (by decide) f6 (fun _ h9 => h9) rfl dX0_takeFrom_16 ?_
  refine lv_iconst (v := (0 : Int32)) hx hb dX0_takeFrom_19 (by decide) ?_
  refine lv_aload_n hx hb dX0_takeFrom_20 rfl (lv_at hl 0 rfl) ?_
  refine va_get (D := D) (ci := 0) (v := .ref (h 41)) (C := RX0) (T := TX0) (N := 4) hx hb hts inX0 hown hK hP 39 wX_39 rfl 1 (by decide) f6 (fun _ h9 => h9) rfl dX0_takeFrom_21 ?_
  refine lv_iconst (v := (0 : Int32)) hx hb dX0_takeFrom_24 (by decide) ?_
  refine lv_bipush (v := (8 : Int32)) hx hb dX0_takeFrom_25 (by decide) ?_
  obtain ⟨hi, hw⟩ := hw
  refine x_copyi (ws2 := wX h cI cJ (xcp (xcp S 40 4 (0 : Int32).toNatClampNeg (0 : Int32).toNatClampNeg (8 : Int32).toNatClampNeg) 41 5 (0 : Int32).toNatClampNeg (0 : Int32).toNatClampNeg (8 : Int32).toNatClampNeg) L) hx hb (hml.trans hl.1.symm) hown f2 f3 f4 f5 hK hP (hD _ _) hS 5 41 0 wX_5 wX_41 rfl hi.1 hi.2.1 hi.2.2.1 hi.2.2.2.1 hi.2.2.2.2 (Nat.le_of_ble_eq_true rfl) (Nat.le_of_ble_eq_true rfl) dX0_takeFrom_27 (wX_c41 _ _ _ _) (fun H locs hP hS => ?_)
  refine lv_aload_n hx hb dX0_takeFrom_30 rfl (lv_at hl 1 rfl) ?_
  refine va_get (D := D) (ci := 0) (v := .ref (h 6)) (C := RX0) (T := TX0) (N := 4) hx hb hts inX0 hown hK hP 3 wX_3 rfl 2 (by decide) f7 (fun _ h9 => h9) rfl dX0_takeFrom_31 ?_
  refine lv_iconst (v := (0 : Int32)) hx hb dX0_takeFrom_34 (by decide) ?_
  refine lv_aload_n hx hb dX0_takeFrom_35 rfl (lv_at hl 0 rfl) ?_
  refine va_get (D := D) (ci := 0) (v := .ref (h 42)) (C := RX0) (T := TX0) (N := 4) hx hb hts inX0 hown hK hP 39 wX_39 rfl 2 (by decide) f7 (fun _ h9 => h9) rfl dX0_takeFrom_36 ?_
  refine lv_iconst (v := (0 : Int32)) hx hb dX0_takeFrom_39 (by decide) ?_
  refine lv_bipush (v := (8 : Int32)) hx hb dX0_takeFrom_40 (by decide) ?_
  obtain ⟨hi, hw⟩ := hw
  refine x_copyi (ws2 := wX h cI cJ (xcp (xcp (xcp S 40 4 (0 : Int32).toNatClampNeg (0 : Int32).toNatClampNeg (8 : Int32).toNatClampNeg) 41 5 (0 : Int32).toNatClampNeg (0 : Int32).toNatClampNeg (8 : Int32).toNatClampNeg) 42 6 (0 : Int32).toNatClampNeg (0 : Int32).toNatClampNeg (8 : Int32).toNatClampNeg) L) hx hb (hml.trans hl.1.symm) hown f2 f3 f4 f5 hK hP (hD _ _) hS 6 42 0 wX_6 wX_42 rfl hi.1 hi.2.1 hi.2.2.1 hi.2.2.2.1 hi.2.2.2.2 (Nat.le_of_ble_eq_true rfl) (Nat.le_of_ble_eq_true rfl) dX0_takeFrom_42 (wX_c42 _ _ _ _) (fun H locs hP hS => ?_)
  refine lv_aload_n hx hb dX0_takeFrom_45 rfl (lv_at hl 1 rfl) ?_
  refine va_get (D := D) (ci := 0) (v := .ref (h 7)) (C := RX0) (T := TX0) (N := 4) hx hb hts inX0 hown hK hP 3 wX_3 rfl 3 (by decide) f8 (fun _ h9 => h9) rfl dX0_takeFrom_46 ?_
  refine lv_iconst (v := (0 : Int32)) hx hb dX0_takeFrom_49 (by decide) ?_
  refine lv_aload_n hx hb dX0_takeFrom_50 rfl (lv_at hl 0 rfl) ?_
  refine va_get (D := D) (ci := 0) (v := .ref (h 43)) (C := RX0) (T := TX0) (N := 4) hx hb hts inX0 hown hK hP 39 wX_39 rfl 3 (by decide) f8 (fun _ h9 => h9) rfl dX0_takeFrom_51 ?_
  refine lv_iconst (v := (0 : Int32)) hx hb dX0_takeFrom_54 (by decide) ?_
  refine lv_bipush (v := (8 : Int32)) hx hb dX0_takeFrom_55 (by decide) ?_
  obtain ⟨hi, hw⟩ := hw
  refine x_copyi (ws2 := wX h cI cJ (xcp (xcp (xcp (xcp S 40 4 (0 : Int32).toNatClampNeg (0 : Int32).toNatClampNeg (8 : Int32).toNatClampNeg) 41 5 (0 : Int32).toNatClampNeg (0 : Int32).toNatClampNeg (8 : Int32).toNatClampNeg) 42 6 (0 : Int32).toNatClampNeg (0 : Int32).toNatClampNeg (8 : Int32).toNatClampNeg) 43 7 (0 : Int32).toNatClampNeg (0 : Int32).toNatClampNeg (8 : Int32).toNatClampNeg) L) hx hb (hml.trans hl.1.symm) hown f2 f3 f4 f5 hK hP (hD _ _) hS 7 43 0 wX_7 wX_43 rfl hi.1 hi.2.1 hi.2.2.1 hi.2.2.2.1 hi.2.2.2.2 (Nat.le_of_ble_eq_true rfl) (Nat.le_of_ble_eq_true rfl) dX0_takeFrom_57 (wX_c43 _ _ _ _) (fun H locs hP hS => ?_)
  exact hret _ _ _ _ _ hP hS hw dX0_takeFrom_60
abbrev rX3_next : Room := { frames := 0, cells := 0, slots := 0, locals := 0 }
set_option maxHeartbeats 4000000 in
set_option maxRecDepth 100000 in
theorem mX3_next (l : Launch) (D : va_G) (h : Nat → Nat) (cI cJ : ClassId) (t0 : Nat) (hh : xdis 53 h) (S : SX) (L : LX) (post : Int32 → SX → Prop) (hw : kX3_next S L  post) : Met l yX3_next wsX3_next rX3_next (xPre D (wX h cI cJ) (xE D h cI cJ t0) S L [.ref (h 37)]) (va_Qi (fun (r : Int32) (u : SX × LX) => post r u.1 ∧ u.2 = L) (xB D (wX h cI cJ)) (xA 53 h)) 0 0 (xA 53 h) := by
  refine Met.ofW (cc := cX3_next) (maxL := 1) (ret := (some .int)) (by decide) rfl ?_
  intro p e s m args below meth c s₁ B hml hv
  obtain ⟨hargs, hP, hE⟩ := hv
  have hx := B.exec
  have hb := B.bytes
  have hr := B.returns
  have hlocks := B.notSynchronized
  have hts := atoms_spec (ws := wsX3_next) B.pre
  have hown : s.vm.findClass RX3 = some m.cls := findClass_of_methodNamed B.named
  have hS : va_S (xA 53 h) s.heap s.heap [] := va_S.rf
  have hD : ∀ (S : SX) (L : LX), va_D (xA 53 h) (wX h cI cJ S L) := fun S L => wX_D hh cI cJ S L
  have hK := hE.1
  have hst : xSt (xA 53 h) (xE D h cI cJ t0) := xE_st D h cI cJ t0
  have f0 := hts (.fieldLink RX3 23 "BookOfWills$Tape" "place" "I") (by decide +kernel)
  have inX3 : ∀ w ∈ u_ws RX3 TX3 3, w ∈ wsX3_next := fun w hw9 => List.mem_cons_of_mem _ (List.mem_append_right _ hw9)
  have f2 := hts (.fieldLink RX3 15 "BookOfWills$Tape" "size" "I") (by decide +kernel)
  have f3 := hts (.fieldLink RX3 9 "BookOfWills$Tape" "bytes" "[I") (by decide +kernel)
  have hl := lv_entry ([.ref (h 37)]) (n := 1) (Nat.le_of_ble_eq_true rfl)
  have hen : entryFrame m args 1 = F0 m 0 ((lg_sl ([.ref (h 37)]) ++ List.replicate (1 - (lg_sl ([.ref (h 37)])).length) Slot.unset).toArray) [] := by rw [hargs]; exact lg_entry_eq m _ _
  rw [hen]
  generalize (lg_sl ([.ref (h 37)]) ++ List.replicate (1 - (lg_sl ([.ref (h 37)])).length) Slot.unset).toArray = ls at hl ⊢
  have hl : lv_has ls 1 [(0, .ref (h 37))] := hl
  change W p l e rX3_next s m args below meth c s.heap [] 0 0 (MQ below (va_Qi (fun (r : Int32) (u : SX × LX) => post r u.1 ∧ u.2 = L) (xB D (wX h cI cJ)) (xA 53 h)) args s 0 0 (xA 53 h)) (F0 m 0 ls [])
  have hret : ∀ (r : Int32) (S1 : SX) (H : Heap) (locs : List Loc) (ls : Array Slot) (pc : Nat), va_P D vwCl (wX h cI cJ S1 L) H → va_S (xA 53 h) s.heap H locs → post r S1 → decode cX3_next pc = .ok (.ireturn, 1) → W p l e rX3_next s m args below meth c H locs 0 0 (MQ below (va_Qi (fun (r : Int32) (u : SX × LX) => post r u.1 ∧ u.2 = L) (xB D (wX h cI cJ)) (xA 53 h)) args s 0 0 (xA 53 h)) (F0 m pc ls [.int r]) := fun r S1 H locs ls pc hP hS hw hd => W.iret hx hb hr (fun t ht hW => ⟨⟨r, (S1, L), rfl, ⟨hw, rfl⟩, show va_P D vwCl (wX h cI cJ S1 L) t.heap by rw [ht]; exact hP⟩, hS.F ht⟩) hS.2.2 hd
  generalize MQ below (va_Qi (fun (r : Int32) (u : SX × LX) => post r u.1 ∧ u.2 = L) (xB D (wX h cI cJ)) (xA 53 h)) args s 0 0 (xA 53 h) = Q at hret ⊢
  have b0 : ∀  (n0 : Nat) (S : SX) (H : Heap) (locs : List Loc) (ls : Array Slot), lv_has ls 1 [(0, .ref (h 37))] → va_P D vwCl (wX h cI cJ S L) H → va_S (xA 53 h) s.heap H locs → kX3_next_b0 L post n0 S → W p l e rX3_next s m args below meth c H locs 0 0 Q (F0 m 0 ls []) := by
    intro n0
    induction n0 with
    | zero => intro S H locs ls hl hP hS hw; exact absurd hw id
    | succ n0 i0 =>
      have b38 : ∀ (S : SX) (H : Heap) (locs : List Loc) (ls : Array Slot), lv_has ls 1 [(0, .ref (h 37))] → va_P D vwCl (wX h cI cJ S L) H → va_S (xA 53 h) s.heap H locs → kX3_next_b38 L post S → W p l e rX3_next s m args below meth c H locs 0 0 Q (F0 m 38 ls []) := by
        intro S H locs ls hl hP hS hw
        unfold kX3_next_b38 at hw
        refine lv_aload_n hx hb dX3_next_38 rfl (lv_at hl 0 rfl) ?_
        refine va_get (D := D) (ci := 3) (v := .int (S 37 1)) (C := RX3) (T := TX3) (N := 3) hx hb hts inX3 hown hK hP 37 wX_37 rfl 1 (by decide) f0 (fun _ h9 => h9) rfl dX3_next_39 ?_
        refine lv_aload_n hx hb dX3_next_42 rfl (lv_at hl 0 rfl) ?_
        refine va_get (D := D) (ci := 3) (v := .int (S 37 0)) (C := RX3) (T := TX3) (N := 3) hx hb hts inX3 hown hK hP 37 wX_37 rfl 0 (by decide) f2 (fun _ h9 => h9) rfl dX3_next_43 ?_
        refine lv_icmp_ge (tgt := 61) hx hb dX3_next_46 (by decide) (fun hc => ?_) (fun hc => ?_)
        · replace hw := And.left hw hc
          refine lv_iconst (v := (-1 : Int32)) hx hb dX3_next_61 (by decide) ?_
          exact hret _ _ _ _ _ _ hP hS hw dX3_next_62
        · replace hw := And.right hw hc
          refine lv_aload_n hx hb dX3_next_49 rfl (lv_at hl 0 rfl) ?_
          refine va_get (D := D) (ci := 3) (v := .ref (h 38)) (C := RX3) (T := TX3) (N := 3) hx hb hts inX3 hown hK hP 37 wX_37 rfl 2 (by decide) f3 (fun _ h9 => h9) rfl dX3_next_50 ?_
          refine lv_aload_n hx hb dX3_next_53 rfl (lv_at hl 0 rfl) ?_
          refine va_get (D := D) (ci := 3) (v := .int (S 37 1)) (C := RX3) (T := TX3) (N := 3) hx hb hts inX3 hown hK hP 37 wX_37 rfl 1 (by decide) f0 (fun _ h9 => h9) rfl dX3_next_54 ?_
          obtain ⟨hi, hw⟩ := hw
          refine va_iald hx hb hK hP 38 0 wX_38 rfl hi dX3_next_57 ?_
          refine lv_goto (tgt := 62) hx hb dX3_next_58 (by decide) ?_
          exact hret _ _ _ _ _ _ hP hS hw dX3_next_62
      intro S H locs ls hl hP hS hw
      unfold kX3_next_b0 at hw
      refine lv_aload_n hx hb dX3_next_0 rfl (lv_at hl 0 rfl) ?_
      refine va_get (D := D) (ci := 3) (v := .int (S 37 1)) (C := RX3) (T := TX3) (N := 3) hx hb hts inX3 hown hK hP 37 wX_37 rfl 1 (by decide) f0 (fun _ h9 => h9) rfl dX3_next_1 ?_
      refine lv_aload_n hx hb dX3_next_4 rfl (lv_at hl 0 rfl) ?_
      refine va_get (D := D) (ci := 3) (v := .int (S 37 0)) (C := RX3) (T := TX3) (N := 3) hx hb hts inX3 hown hK hP 37 wX_37 rfl 0 (by decide) f2 (fun _ h9 => h9) rfl dX3_next_5 ?_
      refine lv_icmp_ge (tgt := 38) hx hb dX3_next_8 (by decide) (fun hc => ?_) (fun hc => ?_)
      · replace hw := And.left hw hc
        exact b38 S _ _ _ (lv_sub hl [0] rfl) hP hS hw
      · replace hw := And.right hw hc
        refine lv_aload_n hx hb dX3_next_11 rfl (lv_at hl 0 rfl) ?_
        refine va_get (D := D) (ci := 3) (v := .ref (h 38)) (C := RX3) (T := TX3) (N := 3) hx hb hts inX3 hown hK hP 37 wX_37 rfl 2 (by decide) f3 (fun _ h9 => h9) rfl dX3_next_12 ?_
        refine lv_aload_n hx hb dX3_next_15 rfl (lv_at hl 0 rfl) ?_
        refine va_get (D := D) (ci := 3) (v := .int (S 37 1)) (C := RX3) (T := TX3) (N := 3) hx hb hts inX3 hown hK hP 37 wX_37 rfl 1 (by decide) f0 (fun _ h9 => h9) rfl dX3_next_16 ?_
        obtain ⟨hi, hw⟩ := hw
        refine va_iald hx hb hK hP 38 0 wX_38 rfl hi dX3_next_19 ?_
        refine lv_bipush (v := (32 : Int32)) hx hb dX3_next_20 (by decide) ?_
        refine lv_icmp_ne (tgt := 38) hx hb dX3_next_22 (by decide) (fun hc => ?_) (fun hc => ?_)
        · replace hw := And.right hw hc
          exact b38 S _ _ _ (lv_sub hl [0] rfl) hP hS hw
        · replace hw := And.left hw hc
          refine lv_aload_n hx hb dX3_next_25 rfl (lv_at hl 0 rfl) ?_
          refine lv_dup hx hb dX3_next_26 rfl ?_
          refine va_get (D := D) (ci := 3) (v := .int (S 37 1)) (C := RX3) (T := TX3) (N := 3) hx hb hts inX3 hown hK hP 37 wX_37 rfl 1 (by decide) f0 (fun _ h9 => h9) rfl dX3_next_27 ?_
          refine lv_iconst (v := (1 : Int32)) hx hb dX3_next_30 (by decide) ?_
          refine lv_iadd hx hb dX3_next_31 ?_
          refine x_put (D := D) (ci := 3) (v := .int ((S 37 1) + (1 : Int32))) (ty := .int) (C := RX3) (T := TX3) (N := 3) (ws2 := wX h cI cJ (xu S 37 1 ((S 37 1) + (1 : Int32))) L) hx hb hts inX3 tyX3 tyX3_ok nmX3 hown hK hP (hD _ _) hS 37 wX_37 rfl 1 (by decide) f0 (fun _ h9 => h9) rfl (by decide +kernel) rfl rfl (Nat.le_of_ble_eq_true rfl) dX3_next_32 (wX_p37_1 _) (fun H locs hP hS => ?_)
          refine lv_goto (tgt := 0) hx hb dX3_next_35 (by decide) ?_
          exact i0 (xu S 37 1 ((S 37 1) + (1 : Int32))) _ _ _ (lv_sub hl [0] rfl) hP hS hw
  unfold kX3_next at hw
  obtain ⟨n0, hw⟩ := hw
  exact b0  n0 S _ _ _ (lv_sub hl [0] rfl) hP hS hw
abbrev rX3_readDigit : Room := { frames := 1, cells := 0, slots := 0, locals := 25 }
set_option maxHeartbeats 4000000 in
set_option maxRecDepth 100000 in
theorem mX3_readDigit (l : Launch) (D : va_G) (h : Nat → Nat) (cI cJ : ClassId) (t0 : Nat) (hh : xdis 53 h) (S : SX) (L : LX) (v1 : Int32) (post : Int32 → SX → Prop) (hw : kX3_readDigit S L v1 post) : Met l yX3_readDigit wsX3_readDigit rX3_readDigit (xPre D (wX h cI cJ) (xE D h cI cJ t0) S L [.ref (h 37), .int v1]) (va_Qi (fun (r : Int32) (u : SX × LX) => post r u.1 ∧ u.2 = L) (xB D (wX h cI cJ)) (xA 53 h)) 0 0 (xA 53 h) := by
  refine Met.ofW (cc := cX3_readDigit) (maxL := 3) (ret := (some .int)) (by decide) rfl ?_
  intro p e s m args below meth c s₁ B hml hv
  obtain ⟨hargs, hP, hE⟩ := hv
  have hx := B.exec
  have hb := B.bytes
  have hr := B.returns
  have hlocks := B.notSynchronized
  have hts := atoms_spec (ws := wsX3_readDigit) B.pre
  have hown : s.vm.findClass RX3 = some m.cls := findClass_of_methodNamed B.named
  have hS : va_S (xA 53 h) s.heap s.heap [] := va_S.rf
  have hD : ∀ (S : SX) (L : LX), va_D (xA 53 h) (wX h cI cJ S L) := fun S L => wX_D hh cI cJ S L
  have hK := hE.1
  have hst : xSt (xA 53 h) (xE D h cI cJ t0) := xE_st D h cI cJ t0
  have f0 := hts (.initialized RX6) (by decide +kernel)
  have f1 := hts (.static yX6_isWithin) (by decide +kernel)
  have f2 := hts (.fieldLink RX3 23 "BookOfWills$Tape" "place" "I") (by decide +kernel)
  have inX3 : ∀ w ∈ u_ws RX3 TX3 3, w ∈ wsX3_readDigit := fun w hw9 => List.mem_cons_of_mem _ (List.mem_append_right _ hw9)
  have hl := lv_entry ([.ref (h 37), .int v1]) (n := 3) (Nat.le_of_ble_eq_true rfl)
  have hen : entryFrame m args 3 = F0 m 0 ((lg_sl ([.ref (h 37), .int v1]) ++ List.replicate (3 - (lg_sl ([.ref (h 37), .int v1])).length) Slot.unset).toArray) [] := by rw [hargs]; exact lg_entry_eq m _ _
  rw [hen]
  generalize (lg_sl ([.ref (h 37), .int v1]) ++ List.replicate (3 - (lg_sl ([.ref (h 37), .int v1])).length) Slot.unset).toArray = ls at hl ⊢
  have hl : lv_has ls 3 [(0, .ref (h 37)), (1, .int v1)] := hl
  change W p l e rX3_readDigit s m args below meth c s.heap [] 0 0 (MQ below (va_Qi (fun (r : Int32) (u : SX × LX) => post r u.1 ∧ u.2 = L) (xB D (wX h cI cJ)) (xA 53 h)) args s 0 0 (xA 53 h)) (F0 m 0 ls [])
  have hret : ∀ (r : Int32) (S1 : SX) (H : Heap) (locs : List Loc) (ls : Array Slot) (pc : Nat), va_P D vwCl (wX h cI cJ S1 L) H → va_S (xA 53 h) s.heap H locs → post r S1 → decode cX3_readDigit pc = .ok (.ireturn, 1) → W p l e rX3_readDigit s m args below meth c H locs 0 0 (MQ below (va_Qi (fun (r : Int32) (u : SX × LX) => post r u.1 ∧ u.2 = L) (xB D (wX h cI cJ)) (xA 53 h)) args s 0 0 (xA 53 h)) (F0 m pc ls [.int r]) := fun r S1 H locs ls pc hP hS hw hd => W.iret hx hb hr (fun t ht hW => ⟨⟨r, (S1, L), rfl, ⟨hw, rfl⟩, show va_P D vwCl (wX h cI cJ S1 L) t.heap by rw [ht]; exact hP⟩, hS.F ht⟩) hS.2.2 hd
  generalize MQ below (va_Qi (fun (r : Int32) (u : SX × LX) => post r u.1 ∧ u.2 = L) (xB D (wX h cI cJ)) (xA 53 h)) args s 0 0 (xA 53 h) = Q at hret ⊢
  unfold kX3_readDigit at hw
  refine lv_aload_n hx hb dX3_readDigit_0 rfl (lv_at hl 0 rfl) ?_
  refine xVi1 (As := []) (rest := []) hst hE hP hS ⟨hx, hb, hml, hown, hts⟩ (va_recv hK hP (ci := 3) (q := (RX3, TX3, 3)) rfl wX_37) (mX3_next l D h cI cJ t0 hh S L  _ hw) (cwV 0 hts gX3_readDigit_X3_next rfl rfl rfl (by decide +kernel) ⟨Nat.le_of_ble_eq_true rfl, Nat.le_of_ble_eq_true rfl⟩) rfl hl.1 rfl (Nat.le_of_ble_eq_true rfl) dX3_readDigit_1 ⟨Nat.zero_le _, Nat.zero_le _⟩ (fun r1 S1 H locs hw hP hS => ?_)
  refine lv_bipush (v := (48 : Int32)) hx hb dX3_readDigit_4 (by decide) ?_
  refine lv_isub hx hb dX3_readDigit_6 ?_
  refine lv_istore_n (lv' := [(2, .int (r1 - (48 : Int32))), (0, .ref (h 37)), (1, .int v1)]) hx hb dX3_readDigit_7 rfl hl (by decide) rfl (fun ls hl => ?_)
  refine lv_iload_n hx hb dX3_readDigit_8 rfl (lv_at hl 0 rfl) ?_
  refine lv_i2l hx hb dX3_readDigit_9 rfl ?_
  refine lv_lconst (v := (0 : Int64)) hx hb dX3_readDigit_10 (by decide) ?_
  refine lv_iload_n hx hb dX3_readDigit_11 rfl (lv_at hl 2 rfl) ?_
  refine lv_i2l hx hb dX3_readDigit_12 rfl ?_
  refine xNi0 (As := [.long ((r1 - (48 : Int32)).toInt64), .long (0 : Int64), .long v1.toInt64]) (rest := []) hst hE hP hS ⟨hx, hb, hml, hown, hts⟩ (mX6_isWithin l D h cI cJ t0 hh S1 L ((r1 - (48 : Int32)).toInt64) (0 : Int64) v1.toInt64 _ hw) ⟨va_cnB (own := RX3) (host := "BookOfWills") (index := 79) 3 hts gX3_readDigit_X6_isWithin_n79 rfl rfl rfl hE.2.1 (f0) (by decide +kernel) ⟨Nat.le_of_ble_eq_true rfl, Nat.le_of_ble_eq_true rfl⟩, f1, trivial⟩ rfl hl.1 rfl (Nat.le_of_ble_eq_true rfl) dX3_readDigit_13 ⟨Nat.zero_le _, Nat.zero_le _⟩ (fun r13 H locs hw hP hS => ?_)
  refine lv_if_ne (tgt := 21) hx hb dX3_readDigit_16 (by decide) (fun hc => ?_) (fun hc => ?_)
  · replace hw := And.right hw hc
    refine lv_aload_n hx hb dX3_readDigit_21 rfl (lv_at hl 1 rfl) ?_
    refine lv_dup hx hb dX3_readDigit_22 rfl ?_
    refine va_get (D := D) (ci := 3) (v := .int (S1 37 1)) (C := RX3) (T := TX3) (N := 3) hx hb hts inX3 hown hK hP 37 wX_37 rfl 1 (by decide) f2 (fun _ h9 => h9) rfl dX3_readDigit_23 ?_
    refine lv_iconst (v := (1 : Int32)) hx hb dX3_readDigit_26 (by decide) ?_
    refine lv_iadd hx hb dX3_readDigit_27 ?_
    refine x_put (D := D) (ci := 3) (v := .int ((S1 37 1) + (1 : Int32))) (ty := .int) (C := RX3) (T := TX3) (N := 3) (ws2 := wX h cI cJ (xu S1 37 1 ((S1 37 1) + (1 : Int32))) L) hx hb hts inX3 tyX3 tyX3_ok nmX3 hown hK hP (hD _ _) hS 37 wX_37 rfl 1 (by decide) f2 (fun _ h9 => h9) rfl (by decide +kernel) rfl rfl (Nat.le_of_ble_eq_true rfl) dX3_readDigit_28 (wX_p37_1 _) (fun H locs hP hS => ?_)
    refine lv_iload_n hx hb dX3_readDigit_31 rfl (lv_at hl 0 rfl) ?_
    exact hret _ _ _ _ _ _ hP hS hw dX3_readDigit_32
  · replace hw := And.left hw hc
    refine lv_iconst (v := (-1 : Int32)) hx hb dX3_readDigit_19 (by decide) ?_
    exact hret _ _ _ _ _ _ hP hS hw dX3_readDigit_20
abbrev rX3_takes : Room := { frames := 1, cells := 0, slots := 0, locals := 20 }
set_option maxHeartbeats 4000000 in
set_option maxRecDepth 100000 in
theorem mX3_takes (l : Launch) (D : va_G) (h : Nat → Nat) (cI cJ : ClassId) (t0 : Nat) (hh : xdis 53 h) (S : SX) (L : LX) (v1 : Int32) (post : Int32 → SX → Prop) (hw : kX3_takes S L v1 post) : Met l yX3_takes wsX3_takes rX3_takes (xPre D (wX h cI cJ) (xE D h cI cJ t0) S L [.ref (h 37), .int v1]) (va_Qi (fun (r : Int32) (u : SX × LX) => post r u.1 ∧ u.2 = L) (xB D (wX h cI cJ)) (xA 53 h)) 0 0 (xA 53 h) := by
  refine Met.ofW (cc := cX3_takes) (maxL := 2) (ret := (some .boolean)) (by decide) rfl ?_
  intro p e s m args below meth c s₁ B hml hv
  obtain ⟨hargs, hP, hE⟩ := hv
  have hx := B.exec
  have hb := B.bytes
  have hr := B.returns
  have hlocks := B.notSynchronized
  have hts := atoms_spec (ws := wsX3_takes) B.pre
  have hown : s.vm.findClass RX3 = some m.cls := findClass_of_methodNamed B.named
  have hS : va_S (xA 53 h) s.heap s.heap [] := va_S.rf
  have hD : ∀ (S : SX) (L : LX), va_D (xA 53 h) (wX h cI cJ S L) := fun S L => wX_D hh cI cJ S L
  have hK := hE.1
  have hst : xSt (xA 53 h) (xE D h cI cJ t0) := xE_st D h cI cJ t0
  have f0 := hts (.fieldLink RX3 23 "BookOfWills$Tape" "place" "I") (by decide +kernel)
  have inX3 : ∀ w ∈ u_ws RX3 TX3 3, w ∈ wsX3_takes := fun w hw9 => List.mem_cons_of_mem _ (List.mem_append_right _ hw9)
  have hl := lv_entry ([.ref (h 37), .int v1]) (n := 2) (Nat.le_of_ble_eq_true rfl)
  have hen : entryFrame m args 2 = F0 m 0 ((lg_sl ([.ref (h 37), .int v1]) ++ List.replicate (2 - (lg_sl ([.ref (h 37), .int v1])).length) Slot.unset).toArray) [] := by rw [hargs]; exact lg_entry_eq m _ _
  rw [hen]
  generalize (lg_sl ([.ref (h 37), .int v1]) ++ List.replicate (2 - (lg_sl ([.ref (h 37), .int v1])).length) Slot.unset).toArray = ls at hl ⊢
  have hl : lv_has ls 2 [(0, .ref (h 37)), (1, .int v1)] := hl
  change W p l e rX3_takes s m args below meth c s.heap [] 0 0 (MQ below (va_Qi (fun (r : Int32) (u : SX × LX) => post r u.1 ∧ u.2 = L) (xB D (wX h cI cJ)) (xA 53 h)) args s 0 0 (xA 53 h)) (F0 m 0 ls [])
  have hret : ∀ (r : Int32) (S1 : SX) (H : Heap) (locs : List Loc) (ls : Array Slot) (pc : Nat), va_P D vwCl (wX h cI cJ S1 L) H → va_S (xA 53 h) s.heap H locs → post r S1 → narrow .boolean (.int r) = .int r → decode cX3_takes pc = .ok (.ireturn, 1) → W p l e rX3_takes s m args below meth c H locs 0 0 (MQ below (va_Qi (fun (r : Int32) (u : SX × LX) => post r u.1 ∧ u.2 = L) (xB D (wX h cI cJ)) (xA 53 h)) args s 0 0 (xA 53 h)) (F0 m pc ls [.int r]) := fun r S1 H locs ls pc hP hS hw hna hd => W.zret hx hb hr hna (fun t ht hW => ⟨⟨r, (S1, L), rfl, ⟨hw, rfl⟩, show va_P D vwCl (wX h cI cJ S1 L) t.heap by rw [ht]; exact hP⟩, hS.F ht⟩) hS.2.2 hd
  generalize MQ below (va_Qi (fun (r : Int32) (u : SX × LX) => post r u.1 ∧ u.2 = L) (xB D (wX h cI cJ)) (xA 53 h)) args s 0 0 (xA 53 h) = Q at hret ⊢
  unfold kX3_takes at hw
  refine lv_aload_n hx hb dX3_takes_0 rfl (lv_at hl 0 rfl) ?_
  refine xVi1 (As := []) (rest := []) hst hE hP hS ⟨hx, hb, hml, hown, hts⟩ (va_recv hK hP (ci := 3) (q := (RX3, TX3, 3)) rfl wX_37) (mX3_next l D h cI cJ t0 hh S L  _ hw) (cwV 0 hts gX3_takes_X3_next rfl rfl rfl (by decide +kernel) ⟨Nat.le_of_ble_eq_true rfl, Nat.le_of_ble_eq_true rfl⟩) rfl hl.1 rfl (Nat.le_of_ble_eq_true rfl) dX3_takes_1 ⟨Nat.zero_le _, Nat.zero_le _⟩ (fun r1 S1 H locs hw hP hS => ?_)
  refine lv_iload_n hx hb dX3_takes_4 rfl (lv_at hl 1 rfl) ?_
  refine lv_icmp_eq (tgt := 10) hx hb dX3_takes_5 (by decide) (fun hc => ?_) (fun hc => ?_)
  · replace hw := And.left hw hc
    refine lv_aload_n hx hb dX3_takes_10 rfl (lv_at hl 0 rfl) ?_
    refine lv_dup hx hb dX3_takes_11 rfl ?_
    refine va_get (D := D) (ci := 3) (v := .int (S1 37 1)) (C := RX3) (T := TX3) (N := 3) hx hb hts inX3 hown hK hP 37 wX_37 rfl 1 (by decide) f0 (fun _ h9 => h9) rfl dX3_takes_12 ?_
    refine lv_iconst (v := (1 : Int32)) hx hb dX3_takes_15 (by decide) ?_
    refine lv_iadd hx hb dX3_takes_16 ?_
    refine x_put (D := D) (ci := 3) (v := .int ((S1 37 1) + (1 : Int32))) (ty := .int) (C := RX3) (T := TX3) (N := 3) (ws2 := wX h cI cJ (xu S1 37 1 ((S1 37 1) + (1 : Int32))) L) hx hb hts inX3 tyX3 tyX3_ok nmX3 hown hK hP (hD _ _) hS 37 wX_37 rfl 1 (by decide) f0 (fun _ h9 => h9) rfl (by decide +kernel) rfl rfl (Nat.le_of_ble_eq_true rfl) dX3_takes_17 (wX_p37_1 _) (fun H locs hP hS => ?_)
    refine lv_iconst (v := (1 : Int32)) hx hb dX3_takes_20 (by decide) ?_
    exact hret _ _ _ _ _ _ hP hS hw rfl dX3_takes_21
  · replace hw := And.right hw hc
    refine lv_iconst (v := (0 : Int32)) hx hb dX3_takes_8 (by decide) ?_
    exact hret _ _ _ _ _ _ hP hS hw rfl dX3_takes_9
abbrev rX3_readNumber : Room := { frames := 1, cells := 0, slots := 0, locals := 32 }
set_option maxHeartbeats 4000000 in
set_option maxRecDepth 100000 in
theorem mX3_readNumber (l : Launch) (D : va_G) (h : Nat → Nat) (cI cJ : ClassId) (t0 : Nat) (hh : xdis 53 h) (S : SX) (L : LX) (v1 : Int32) (post : Int32 → SX → Prop) (hw : kX3_readNumber S L v1 post) : Met l yX3_readNumber wsX3_readNumber rX3_readNumber (xPre D (wX h cI cJ) (xE D h cI cJ t0) S L [.ref (h 37), .int v1]) (va_Qi (fun (r : Int32) (u : SX × LX) => post r u.1 ∧ u.2 = L) (xB D (wX h cI cJ)) (xA 53 h)) 0 0 (xA 53 h) := by
  refine Met.ofW (cc := cX3_readNumber) (maxL := 4) (ret := (some .int)) (by decide) rfl ?_
  intro p e s m args below meth c s₁ B hml hv
  obtain ⟨hargs, hP, hE⟩ := hv
  have hx := B.exec
  have hb := B.bytes
  have hr := B.returns
  have hlocks := B.notSynchronized
  have hts := atoms_spec (ws := wsX3_readNumber) B.pre
  have hown : s.vm.findClass RX3 = some m.cls := findClass_of_methodNamed B.named
  have hS : va_S (xA 53 h) s.heap s.heap [] := va_S.rf
  have hD : ∀ (S : SX) (L : LX), va_D (xA 53 h) (wX h cI cJ S L) := fun S L => wX_D hh cI cJ S L
  have hK := hE.1
  have hst : xSt (xA 53 h) (xE D h cI cJ t0) := xE_st D h cI cJ t0
  have f0 := hts (.fieldLink RX3 23 "BookOfWills$Tape" "place" "I") (by decide +kernel)
  have inX3 : ∀ w ∈ u_ws RX3 TX3 3, w ∈ wsX3_readNumber := fun w hw9 => List.mem_cons_of_mem _ (List.mem_append_right _ hw9)
  have f2 := hts (.fieldLink RX3 15 "BookOfWills$Tape" "size" "I") (by decide +kernel)
  have f3 := hts (.fieldLink RX3 9 "BookOfWills$Tape" "bytes" "[I") (by decide +kernel)
  have f4 := hts (.constantLong RX3 83 (48)) (by decide +kernel)
  have f5 := hts (.constantLong RX3 85 (57)) (by decide +kernel)
  have f6 := hts (.initialized RX6) (by decide +kernel)
  have f7 := hts (.static yX6_isWithin) (by decide +kernel)
  have f8 := hts (.methodLink RX3 87 Lib.Math.min.name) (by decide +kernel)
  have f9 := hts (.static Lib.Math.min.name) (by decide +kernel)
  have f10 := hts (.initialized "java/lang/Math") (by decide +kernel)
  have f11 := hts (.code Lib.Math.min.name Lib.Math.min.code 2 (some .int)) (by decide +kernel)
  have hl := lv_entry ([.ref (h 37), .int v1]) (n := 4) (Nat.le_of_ble_eq_true rfl)
  have hen : entryFrame m args 4 = F0 m 0 ((lg_sl ([.ref (h 37), .int v1]) ++ List.replicate (4 - (lg_sl ([.ref (h 37), .int v1])).length) Slot.unset).toArray) [] := by rw [hargs]; exact lg_entry_eq m _ _
  rw [hen]
  generalize (lg_sl ([.ref (h 37), .int v1]) ++ List.replicate (4 - (lg_sl ([.ref (h 37), .int v1])).length) Slot.unset).toArray = ls at hl ⊢
  have hl : lv_has ls 4 [(0, .ref (h 37)), (1, .int v1)] := hl
  change W p l e rX3_readNumber s m args below meth c s.heap [] 0 0 (MQ below (va_Qi (fun (r : Int32) (u : SX × LX) => post r u.1 ∧ u.2 = L) (xB D (wX h cI cJ)) (xA 53 h)) args s 0 0 (xA 53 h)) (F0 m 0 ls [])
  have hret : ∀ (r : Int32) (S1 : SX) (H : Heap) (locs : List Loc) (ls : Array Slot) (pc : Nat), va_P D vwCl (wX h cI cJ S1 L) H → va_S (xA 53 h) s.heap H locs → post r S1 → decode cX3_readNumber pc = .ok (.ireturn, 1) → W p l e rX3_readNumber s m args below meth c H locs 0 0 (MQ below (va_Qi (fun (r : Int32) (u : SX × LX) => post r u.1 ∧ u.2 = L) (xB D (wX h cI cJ)) (xA 53 h)) args s 0 0 (xA 53 h)) (F0 m pc ls [.int r]) := fun r S1 H locs ls pc hP hS hw hd => W.iret hx hb hr (fun t ht hW => ⟨⟨r, (S1, L), rfl, ⟨hw, rfl⟩, show va_P D vwCl (wX h cI cJ S1 L) t.heap by rw [ht]; exact hP⟩, hS.F ht⟩) hS.2.2 hd
  generalize MQ below (va_Qi (fun (r : Int32) (u : SX × LX) => post r u.1 ∧ u.2 = L) (xB D (wX h cI cJ)) (xA 53 h)) args s 0 0 (xA 53 h) = Q at hret ⊢
  have b26 : ∀ (v2 : Int32) (n26 : Nat) (v3 : Int32) (S : SX) (H : Heap) (locs : List Loc) (ls : Array Slot), lv_has ls 4 [(0, .ref (h 37)), (1, .int v1), (2, .int v2), (3, .int v3)] → va_P D vwCl (wX h cI cJ S L) H → va_S (xA 53 h) s.heap H locs → kX3_readNumber_b26 L v1 v2 post n26 v3 S → W p l e rX3_readNumber s m args below meth c H locs 0 0 Q (F0 m 26 ls []) := by
    intro v2 n26
    induction n26 with
    | zero => intro v3 S H locs ls hl hP hS hw; exact absurd hw id
    | succ n26 i26 =>
      have b96 : ∀ (v3 : Int32) (S : SX) (H : Heap) (locs : List Loc) (ls : Array Slot), lv_has ls 4 [(0, .ref (h 37)), (1, .int v1), (2, .int v2), (3, .int v3)] → va_P D vwCl (wX h cI cJ S L) H → va_S (xA 53 h) s.heap H locs → kX3_readNumber_b96 L v1 v2 post v3 S → W p l e rX3_readNumber s m args below meth c H locs 0 0 Q (F0 m 96 ls []) := by
        intro v3 S H locs ls hl hP hS hw
        unfold kX3_readNumber_b96 at hw
        refine lv_iload_n hx hb dX3_readNumber_96 rfl (lv_at hl 3 rfl) ?_
        refine lv_iload_n hx hb dX3_readNumber_97 rfl (lv_at hl 1 rfl) ?_
        refine lv_icmp_le (tgt := 108) hx hb dX3_readNumber_98 (by decide) (fun hc => ?_) (fun hc => ?_)
        · replace hw := And.left hw hc
          refine lv_iload_n hx hb dX3_readNumber_108 rfl (lv_at hl 3 rfl) ?_
          exact hret _ _ _ _ _ _ hP hS hw dX3_readNumber_109
        · replace hw := And.right hw hc
          refine lv_aload_n hx hb dX3_readNumber_101 rfl (lv_at hl 0 rfl) ?_
          refine lv_iload_n hx hb dX3_readNumber_102 rfl (lv_at hl 2 rfl) ?_
          refine x_put (D := D) (ci := 3) (v := .int v2) (ty := .int) (C := RX3) (T := TX3) (N := 3) (ws2 := wX h cI cJ (xu S 37 1 v2) L) hx hb hts inX3 tyX3 tyX3_ok nmX3 hown hK hP (hD _ _) hS 37 wX_37 rfl 1 (by decide) f0 (fun _ h9 => h9) rfl (by decide +kernel) rfl rfl (Nat.le_of_ble_eq_true rfl) dX3_readNumber_103 (wX_p37_1 _) (fun H locs hP hS => ?_)
          refine lv_iconst (v := (-1 : Int32)) hx hb dX3_readNumber_106 (by decide) ?_
          exact hret _ _ _ _ _ _ hP hS hw dX3_readNumber_107
      intro v3 S H locs ls hl hP hS hw
      unfold kX3_readNumber_b26 at hw
      refine lv_aload_n hx hb dX3_readNumber_26 rfl (lv_at hl 0 rfl) ?_
      refine va_get (D := D) (ci := 3) (v := .int (S 37 1)) (C := RX3) (T := TX3) (N := 3) hx hb hts inX3 hown hK hP 37 wX_37 rfl 1 (by decide) f0 (fun _ h9 => h9) rfl dX3_readNumber_27 ?_
      refine lv_aload_n hx hb dX3_readNumber_30 rfl (lv_at hl 0 rfl) ?_
      refine va_get (D := D) (ci := 3) (v := .int (S 37 0)) (C := RX3) (T := TX3) (N := 3) hx hb hts inX3 hown hK hP 37 wX_37 rfl 0 (by decide) f2 (fun _ h9 => h9) rfl dX3_readNumber_31 ?_
      refine lv_icmp_ge (tgt := 96) hx hb dX3_readNumber_34 (by decide) (fun hc => ?_) (fun hc => ?_)
      · replace hw := And.left hw hc
        exact b96 v3 S _ _ _ (lv_sub hl [0, 1, 2, 3] rfl) hP hS hw
      · replace hw := And.right hw hc
        refine lv_aload_n hx hb dX3_readNumber_37 rfl (lv_at hl 0 rfl) ?_
        refine va_get (D := D) (ci := 3) (v := .ref (h 38)) (C := RX3) (T := TX3) (N := 3) hx hb hts inX3 hown hK hP 37 wX_37 rfl 2 (by decide) f3 (fun _ h9 => h9) rfl dX3_readNumber_38 ?_
        refine lv_aload_n hx hb dX3_readNumber_41 rfl (lv_at hl 0 rfl) ?_
        refine va_get (D := D) (ci := 3) (v := .int (S 37 1)) (C := RX3) (T := TX3) (N := 3) hx hb hts inX3 hown hK hP 37 wX_37 rfl 1 (by decide) f0 (fun _ h9 => h9) rfl dX3_readNumber_42 ?_
        obtain ⟨hi, hw⟩ := hw
        refine va_iald hx hb hK hP 38 0 wX_38 rfl hi dX3_readNumber_45 ?_
        refine lv_i2l hx hb dX3_readNumber_46 rfl ?_
        refine lv_ldc2 (v := (48 : Int64)) hx hb hown (f4) dX3_readNumber_47 ?_
        refine lv_ldc2 (v := (57 : Int64)) hx hb hown (f5) dX3_readNumber_50 ?_
        refine xNi0 (As := [.long ((S 38 (S 37 1).toNatClampNeg).toInt64), .long (48 : Int64), .long (57 : Int64)]) (rest := []) hst hE hP hS ⟨hx, hb, hml, hown, hts⟩ (mX6_isWithin l D h cI cJ t0 hh S L ((S 38 (S 37 1).toNatClampNeg).toInt64) (48 : Int64) (57 : Int64) _ hw) ⟨va_cnB (own := RX3) (host := "BookOfWills") (index := 79) 3 hts gX3_readNumber_X6_isWithin_n79 rfl rfl rfl hE.2.1 (f6) (by decide +kernel) ⟨Nat.le_of_ble_eq_true rfl, Nat.le_of_ble_eq_true rfl⟩, f7, trivial⟩ rfl hl.1 rfl (Nat.le_of_ble_eq_true rfl) dX3_readNumber_53 ⟨Nat.zero_le _, Nat.zero_le _⟩ (fun r53 H locs hw hP hS => ?_)
        refine lv_if_eq (tgt := 96) hx hb dX3_readNumber_56 (by decide) (fun hc => ?_) (fun hc => ?_)
        · replace hw := And.left hw hc
          exact b96 v3 S _ _ _ (lv_sub hl [0, 1, 2, 3] rfl) hP hS hw
        · replace hw := And.right hw hc
          refine lv_iload_n hx hb dX3_readNumber_59 rfl (lv_at hl 3 rfl) ?_
          refine lv_bipush (v := (10 : Int32)) hx hb dX3_readNumber_60 (by decide) ?_
          refine lv_imul hx hb dX3_readNumber_62 ?_
          refine lv_aload_n hx hb dX3_readNumber_63 rfl (lv_at hl 0 rfl) ?_
          refine va_get (D := D) (ci := 3) (v := .ref (h 38)) (C := RX3) (T := TX3) (N := 3) hx hb hts inX3 hown hK hP 37 wX_37 rfl 2 (by decide) f3 (fun _ h9 => h9) rfl dX3_readNumber_64 ?_
          refine lv_aload_n hx hb dX3_readNumber_67 rfl (lv_at hl 0 rfl) ?_
          refine va_get (D := D) (ci := 3) (v := .int (S 37 1)) (C := RX3) (T := TX3) (N := 3) hx hb hts inX3 hown hK hP 37 wX_37 rfl 1 (by decide) f0 (fun _ h9 => h9) rfl dX3_readNumber_68 ?_
          obtain ⟨hi, hw⟩ := hw
          refine va_iald hx hb hK hP 38 0 wX_38 rfl hi dX3_readNumber_71 ?_
          refine lv_iadd hx hb dX3_readNumber_72 ?_
          refine lv_bipush (v := (48 : Int32)) hx hb dX3_readNumber_73 (by decide) ?_
          refine lv_isub hx hb dX3_readNumber_75 ?_
          refine lv_sipush (v := (10000 : Int32)) hx hb dX3_readNumber_76 (by decide) ?_
          refine va_mmin hx hb (hml.trans hl.1.symm) hown f8 f9 f10 f11 (Nat.le_of_ble_eq_true rfl) (Nat.le_of_ble_eq_true rfl) (Nat.zero_le _) (Nat.zero_le _) dX3_readNumber_79 ?_
          refine lv_istore_n (lv' := [(3, .int (if (10000 : Int32) < (((v3 * (10 : Int32)) + (S 38 (S 37 1).toNatClampNeg)) - (48 : Int32)) then (10000 : Int32) else (((v3 * (10 : Int32)) + (S 38 (S 37 1).toNatClampNeg)) - (48 : Int32)))), (0, .ref (h 37)), (1, .int v1), (2, .int v2)]) hx hb dX3_readNumber_82 rfl hl (by decide) rfl (fun ls hl => ?_)
          refine lv_aload_n hx hb dX3_readNumber_83 rfl (lv_at hl 1 rfl) ?_
          refine lv_dup hx hb dX3_readNumber_84 rfl ?_
          refine va_get (D := D) (ci := 3) (v := .int (S 37 1)) (C := RX3) (T := TX3) (N := 3) hx hb hts inX3 hown hK hP 37 wX_37 rfl 1 (by decide) f0 (fun _ h9 => h9) rfl dX3_readNumber_85 ?_
          refine lv_iconst (v := (1 : Int32)) hx hb dX3_readNumber_88 (by decide) ?_
          refine lv_iadd hx hb dX3_readNumber_89 ?_
          refine x_put (D := D) (ci := 3) (v := .int ((S 37 1) + (1 : Int32))) (ty := .int) (C := RX3) (T := TX3) (N := 3) (ws2 := wX h cI cJ (xu S 37 1 ((S 37 1) + (1 : Int32))) L) hx hb hts inX3 tyX3 tyX3_ok nmX3 hown hK hP (hD _ _) hS 37 wX_37 rfl 1 (by decide) f0 (fun _ h9 => h9) rfl (by decide +kernel) rfl rfl (Nat.le_of_ble_eq_true rfl) dX3_readNumber_90 (wX_p37_1 _) (fun H locs hP hS => ?_)
          refine lv_goto (tgt := 26) hx hb dX3_readNumber_93 (by decide) ?_
          exact i26 (if (10000 : Int32) < (((v3 * (10 : Int32)) + (S 38 (S 37 1).toNatClampNeg)) - (48 : Int32)) then (10000 : Int32) else (((v3 * (10 : Int32)) + (S 38 (S 37 1).toNatClampNeg)) - (48 : Int32))) (xu S 37 1 ((S 37 1) + (1 : Int32))) _ _ _ (lv_sub hl [1, 2, 3, 0] rfl) hP hS hw
  unfold kX3_readNumber at hw
  refine lv_aload_n hx hb dX3_readNumber_0 rfl (lv_at hl 0 rfl) ?_
  refine xVi1 (As := []) (rest := []) hst hE hP hS ⟨hx, hb, hml, hown, hts⟩ (va_recv hK hP (ci := 3) (q := (RX3, TX3, 3)) rfl wX_37) (mX3_next l D h cI cJ t0 hh S L  _ hw) (cwV 0 hts gX3_readNumber_X3_next rfl rfl rfl (by decide +kernel) ⟨Nat.le_of_ble_eq_true rfl, Nat.le_of_ble_eq_true rfl⟩) rfl hl.1 rfl (Nat.le_of_ble_eq_true rfl) dX3_readNumber_1 ⟨Nat.zero_le _, Nat.zero_le _⟩ (fun r1 S1 H locs hw hP hS => ?_)
  refine lv_i2l hx hb dX3_readNumber_4 rfl ?_
  refine lv_ldc2 (v := (48 : Int64)) hx hb hown (f4) dX3_readNumber_5 ?_
  refine lv_ldc2 (v := (57 : Int64)) hx hb hown (f5) dX3_readNumber_8 ?_
  refine xNi0 (As := [.long r1.toInt64, .long (48 : Int64), .long (57 : Int64)]) (rest := []) hst hE hP hS ⟨hx, hb, hml, hown, hts⟩ (mX6_isWithin l D h cI cJ t0 hh S1 L r1.toInt64 (48 : Int64) (57 : Int64) _ hw) ⟨va_cnB (own := RX3) (host := "BookOfWills") (index := 79) 3 hts gX3_readNumber_X6_isWithin_n79 rfl rfl rfl hE.2.1 (f6) (by decide +kernel) ⟨Nat.le_of_ble_eq_true rfl, Nat.le_of_ble_eq_true rfl⟩, f7, trivial⟩ rfl hl.1 rfl (Nat.le_of_ble_eq_true rfl) dX3_readNumber_11 ⟨Nat.zero_le _, Nat.zero_le _⟩ (fun r11 H locs hw hP hS => ?_)
  refine lv_if_ne (tgt := 19) hx hb dX3_readNumber_14 (by decide) (fun hc => ?_) (fun hc => ?_)
  · replace hw := And.right hw hc
    refine lv_aload_n hx hb dX3_readNumber_19 rfl (lv_at hl 0 rfl) ?_
    refine va_get (D := D) (ci := 3) (v := .int (S1 37 1)) (C := RX3) (T := TX3) (N := 3) hx hb hts inX3 hown hK hP 37 wX_37 rfl 1 (by decide) f0 (fun _ h9 => h9) rfl dX3_readNumber_20 ?_
    refine lv_istore_n (lv' := [(2, .int (S1 37 1)), (0, .ref (h 37)), (1, .int v1)]) hx hb dX3_readNumber_23 rfl hl (by decide) rfl (fun ls hl => ?_)
    refine lv_iconst (v := (0 : Int32)) hx hb dX3_readNumber_24 (by decide) ?_
    refine lv_istore_n (lv' := [(3, .int (0 : Int32)), (2, .int (S1 37 1)), (0, .ref (h 37)), (1, .int v1)]) hx hb dX3_readNumber_25 rfl hl (by decide) rfl (fun ls hl => ?_)
    obtain ⟨n26, hw⟩ := hw
    exact b26 (S1 37 1) n26 (0 : Int32) S1 _ _ _ (lv_sub hl [2, 3, 1, 0] rfl) hP hS hw
  · replace hw := And.left hw hc
    refine lv_iconst (v := (-1 : Int32)) hx hb dX3_readNumber_17 (by decide) ?_
    exact hret _ _ _ _ _ _ hP hS hw dX3_readNumber_18
abbrev rX3_readPerhaps : Room := { frames := 2, cells := 0, slots := 0, locals := 55 }
set_option maxHeartbeats 4000000 in
set_option maxRecDepth 100000 in
theorem mX3_readPerhaps (l : Launch) (D : va_G) (h : Nat → Nat) (cI cJ : ClassId) (t0 : Nat) (hh : xdis 53 h) (S : SX) (L : LX) (v1 : Int32) (v2 : Int32) (post : Int32 → SX → Prop) (hw : kX3_readPerhaps S L v1 v2 post) : Met l yX3_readPerhaps wsX3_readPerhaps rX3_readPerhaps (xPre D (wX h cI cJ) (xE D h cI cJ t0) S L [.ref (h 37), .int v1, .int v2]) (va_Qi (fun (r : Int32) (u : SX × LX) => post r u.1 ∧ u.2 = L) (xB D (wX h cI cJ)) (xA 53 h)) 0 0 (xA 53 h) := by
  refine Met.ofW (cc := cX3_readPerhaps) (maxL := 3) (ret := (some .int)) (by decide) rfl ?_
  intro p e s m args below meth c s₁ B hml hv
  obtain ⟨hargs, hP, hE⟩ := hv
  have hx := B.exec
  have hb := B.bytes
  have hr := B.returns
  have hlocks := B.notSynchronized
  have hts := atoms_spec (ws := wsX3_readPerhaps) B.pre
  have hown : s.vm.findClass RX3 = some m.cls := findClass_of_methodNamed B.named
  have hS : va_S (xA 53 h) s.heap s.heap [] := va_S.rf
  have hD : ∀ (S : SX) (L : LX), va_D (xA 53 h) (wX h cI cJ S L) := fun S L => wX_D hh cI cJ S L
  have hK := hE.1
  have hst : xSt (xA 53 h) (xE D h cI cJ t0) := xE_st D h cI cJ t0
  skip
  have hl := lv_entry ([.ref (h 37), .int v1, .int v2]) (n := 3) (Nat.le_of_ble_eq_true rfl)
  have hen : entryFrame m args 3 = F0 m 0 ((lg_sl ([.ref (h 37), .int v1, .int v2]) ++ List.replicate (3 - (lg_sl ([.ref (h 37), .int v1, .int v2])).length) Slot.unset).toArray) [] := by rw [hargs]; exact lg_entry_eq m _ _
  rw [hen]
  generalize (lg_sl ([.ref (h 37), .int v1, .int v2]) ++ List.replicate (3 - (lg_sl ([.ref (h 37), .int v1, .int v2])).length) Slot.unset).toArray = ls at hl ⊢
  have hl : lv_has ls 3 [(0, .ref (h 37)), (1, .int v1), (2, .int v2)] := hl
  change W p l e rX3_readPerhaps s m args below meth c s.heap [] 0 0 (MQ below (va_Qi (fun (r : Int32) (u : SX × LX) => post r u.1 ∧ u.2 = L) (xB D (wX h cI cJ)) (xA 53 h)) args s 0 0 (xA 53 h)) (F0 m 0 ls [])
  have hret : ∀ (r : Int32) (S1 : SX) (H : Heap) (locs : List Loc) (ls : Array Slot) (pc : Nat), va_P D vwCl (wX h cI cJ S1 L) H → va_S (xA 53 h) s.heap H locs → post r S1 → decode cX3_readPerhaps pc = .ok (.ireturn, 1) → W p l e rX3_readPerhaps s m args below meth c H locs 0 0 (MQ below (va_Qi (fun (r : Int32) (u : SX × LX) => post r u.1 ∧ u.2 = L) (xB D (wX h cI cJ)) (xA 53 h)) args s 0 0 (xA 53 h)) (F0 m pc ls [.int r]) := fun r S1 H locs ls pc hP hS hw hd => W.iret hx hb hr (fun t ht hW => ⟨⟨r, (S1, L), rfl, ⟨hw, rfl⟩, show va_P D vwCl (wX h cI cJ S1 L) t.heap by rw [ht]; exact hP⟩, hS.F ht⟩) hS.2.2 hd
  generalize MQ below (va_Qi (fun (r : Int32) (u : SX × LX) => post r u.1 ∧ u.2 = L) (xB D (wX h cI cJ)) (xA 53 h)) args s 0 0 (xA 53 h) = Q at hret ⊢
  unfold kX3_readPerhaps at hw
  refine lv_aload_n hx hb dX3_readPerhaps_0 rfl (lv_at hl 0 rfl) ?_
  refine lv_iload_n hx hb dX3_readPerhaps_1 rfl (lv_at hl 1 rfl) ?_
  refine xVi1 (As := [.int v1]) (rest := []) hst hE hP hS ⟨hx, hb, hml, hown, hts⟩ (va_recv hK hP (ci := 3) (q := (RX3, TX3, 3)) rfl wX_37) (mX3_takes l D h cI cJ t0 hh S L v1 _ hw) (cwV 1 hts gX3_readPerhaps_X3_takes rfl rfl rfl (by decide +kernel) ⟨Nat.le_of_ble_eq_true rfl, Nat.le_of_ble_eq_true rfl⟩) rfl hl.1 rfl (Nat.le_of_ble_eq_true rfl) dX3_readPerhaps_2 ⟨Nat.zero_le _, Nat.zero_le _⟩ (fun r2 S2 H locs hw hP hS => ?_)
  refine lv_if_eq (tgt := 16) hx hb dX3_readPerhaps_5 (by decide) (fun hc => ?_) (fun hc => ?_)
  · replace hw := And.left hw hc
    refine lv_iconst (v := (0 : Int32)) hx hb dX3_readPerhaps_16 (by decide) ?_
    exact hret _ _ _ _ _ _ hP hS hw dX3_readPerhaps_17
  · replace hw := And.right hw hc
    refine lv_aload_n hx hb dX3_readPerhaps_8 rfl (lv_at hl 0 rfl) ?_
    refine lv_iload_n hx hb dX3_readPerhaps_9 rfl (lv_at hl 2 rfl) ?_
    refine xVi1 (As := [.int v2]) (rest := []) hst hE hP hS ⟨hx, hb, hml, hown, hts⟩ (va_recv hK hP (ci := 3) (q := (RX3, TX3, 3)) rfl wX_37) (mX3_readNumber l D h cI cJ t0 hh S2 L v2 _ hw) (cwV 1 hts gX3_readPerhaps_X3_readNumber rfl rfl rfl (by decide +kernel) ⟨Nat.le_of_ble_eq_true rfl, Nat.le_of_ble_eq_true rfl⟩) rfl hl.1 rfl (Nat.le_of_ble_eq_true rfl) dX3_readPerhaps_10 ⟨Nat.zero_le _, Nat.zero_le _⟩ (fun r10 S10 H locs hw hP hS => ?_)
    refine lv_goto (tgt := 17) hx hb dX3_readPerhaps_13 (by decide) ?_
    exact hret _ _ _ _ _ _ hP hS hw dX3_readPerhaps_17
abbrev rX0_changeFrom : Room := { frames := 0, cells := 0, slots := 0, locals := 0 }
set_option maxHeartbeats 4000000 in
set_option maxRecDepth 100000 in
theorem mX0_changeFrom (l : Launch) (D : va_G) (h : Nat → Nat) (cI cJ : ClassId) (t0 : Nat) (hh : xdis 53 h) (S : SX) (L : LX) (v1 : Int32) (v2 : Int32) (v3 : Int32) (v4 : Int32) (v5 : Int32) (post : SX → Prop) (hw : kX0_changeFrom S L v1 v2 v3 v4 v5 post) : Met l yX0_changeFrom wsX0_changeFrom rX0_changeFrom (xPre D (wX h cI cJ) (xE D h cI cJ t0) S L [.ref (h 39), .int v1, .int v2, .int v3, .int v4, .int v5]) (va_Qv (fun (u : SX × LX) => post u.1 ∧ u.2 = L) (xB D (wX h cI cJ)) (xA 53 h)) 0 0 (xA 53 h) := by
  refine Met.ofW (cc := cX0_changeFrom) (maxL := 7) (ret := none) (by decide) rfl ?_
  intro p e s m args below meth c s₁ B hml hv
  obtain ⟨hargs, hP, hE⟩ := hv
  have hx := B.exec
  have hb := B.bytes
  have hr := B.returns
  have hlocks := B.notSynchronized
  have hts := atoms_spec (ws := wsX0_changeFrom) B.pre
  have hown : s.vm.findClass RX0 = some m.cls := findClass_of_methodNamed B.named
  have hS : va_S (xA 53 h) s.heap s.heap [] := va_S.rf
  have hD : ∀ (S : SX) (L : LX), va_D (xA 53 h) (wX h cI cJ S L) := fun S L => wX_D hh cI cJ S L
  have hK := hE.1
  have hst : xSt (xA 53 h) (xE D h cI cJ t0) := xE_st D h cI cJ t0
  have f0 := hts (.fieldLink RX0 9 "BookOfWills$Laws" "floor" "[I") (by decide +kernel)
  have inX0 : ∀ w ∈ u_ws RX0 TX0 4, w ∈ wsX0_changeFrom := fun w hw9 => List.mem_cons_of_mem _ (List.mem_append_right _ hw9)
  have f2 := hts (.fieldLink RX0 15 "BookOfWills$Laws" "line" "[I") (by decide +kernel)
  have f3 := hts (.fieldLink RX0 18 "BookOfWills$Laws" "keen" "[I") (by decide +kernel)
  have f4 := hts (.fieldLink RX0 21 "BookOfWills$Laws" "marks" "[I") (by decide +kernel)
  have hl := lv_entry ([.ref (h 39), .int v1, .int v2, .int v3, .int v4, .int v5]) (n := 7) (Nat.le_of_ble_eq_true rfl)
  have hen : entryFrame m args 7 = F0 m 0 ((lg_sl ([.ref (h 39), .int v1, .int v2, .int v3, .int v4, .int v5]) ++ List.replicate (7 - (lg_sl ([.ref (h 39), .int v1, .int v2, .int v3, .int v4, .int v5])).length) Slot.unset).toArray) [] := by rw [hargs]; exact lg_entry_eq m _ _
  rw [hen]
  generalize (lg_sl ([.ref (h 39), .int v1, .int v2, .int v3, .int v4, .int v5]) ++ List.replicate (7 - (lg_sl ([.ref (h 39), .int v1, .int v2, .int v3, .int v4, .int v5])).length) Slot.unset).toArray = ls at hl ⊢
  have hl : lv_has ls 7 [(0, .ref (h 39)), (1, .int v1), (2, .int v2), (3, .int v3), (4, .int v4), (5, .int v5)] := hl
  change W p l e rX0_changeFrom s m args below meth c s.heap [] 0 0 (MQ below (va_Qv (fun (u : SX × LX) => post u.1 ∧ u.2 = L) (xB D (wX h cI cJ)) (xA 53 h)) args s 0 0 (xA 53 h)) (F0 m 0 ls [])
  have hret : ∀ (S1 : SX) (H : Heap) (locs : List Loc) (ls : Array Slot) (pc : Nat), va_P D vwCl (wX h cI cJ S1 L) H → va_S (xA 53 h) s.heap H locs → post S1 → decode cX0_changeFrom pc = .ok (.return_, 1) → W p l e rX0_changeFrom s m args below meth c H locs 0 0 (MQ below (va_Qv (fun (u : SX × LX) => post u.1 ∧ u.2 = L) (xB D (wX h cI cJ)) (xA 53 h)) args s 0 0 (xA 53 h)) (F0 m pc ls []) := fun S1 H locs ls pc hP hS hw hd => W.vret hx hb hr (fun t ht hW => ⟨⟨(S1, L), rfl, ⟨hw, rfl⟩, show va_P D vwCl (wX h cI cJ S1 L) t.heap by rw [ht]; exact hP⟩, hS.F ht⟩) hS.2.2 hd
  generalize MQ below (va_Qv (fun (u : SX × LX) => post u.1 ∧ u.2 = L) (xB D (wX h cI cJ)) (xA 53 h)) args s 0 0 (xA 53 h) = Q at hret ⊢
  have b3 : ∀  (n3 : Nat) (v6 : Int32) (S : SX) (H : Heap) (locs : List Loc) (ls : Array Slot), lv_has ls 7 [(0, .ref (h 39)), (2, .int v2), (3, .int v3), (4, .int v4), (5, .int v5), (6, .int v6)] → va_P D vwCl (wX h cI cJ S L) H → va_S (xA 53 h) s.heap H locs → kX0_changeFrom_b3 L v1 v2 v3 v4 v5 post n3 v6 S → W p l e rX0_changeFrom s m args below meth c H locs 0 0 Q (F0 m 3 ls []) := by
    intro n3
    induction n3 with
    | zero => intro v6 S H locs ls hl hP hS hw; exact absurd hw id
    | succ n3 i3 =>
      intro v6 S H locs ls hl hP hS hw
      unfold kX0_changeFrom_b3 at hw
      refine lv_iload hx hb dX0_changeFrom_3 (lv_at hl 5 rfl) ?_
      refine lv_bipush (v := (8 : Int32)) hx hb dX0_changeFrom_5 (by decide) ?_
      refine lv_icmp_ge (tgt := 50) hx hb dX0_changeFrom_7 (by decide) (fun hc => ?_) (fun hc => ?_)
      · replace hw := And.left hw hc
        exact hret _ _ _ _ _ hP hS hw dX0_changeFrom_50
      · replace hw := And.right hw hc
        refine lv_aload_n hx hb dX0_changeFrom_10 rfl (lv_at hl 0 rfl) ?_
        refine va_get (D := D) (ci := 0) (v := .ref (h 40)) (C := RX0) (T := TX0) (N := 4) hx hb hts inX0 hown hK hP 39 wX_39 rfl 0 (by decide) f0 (fun _ h9 => h9) rfl dX0_changeFrom_11 ?_
        refine lv_iload hx hb dX0_changeFrom_14 (lv_at hl 5 rfl) ?_
        refine lv_iload_n hx hb dX0_changeFrom_16 rfl (lv_at hl 1 rfl) ?_
        obtain ⟨hi, hw⟩ := hw
        refine x_iast (ws2 := wX h cI cJ (xu S 40 v6.toNatClampNeg v2) L) hx hb hK hP (hD _ _) hS 40 0 wX_40 rfl hi dX0_changeFrom_17 (wX_u40 _ _) (fun H locs hP hS => ?_)
        refine lv_aload_n hx hb dX0_changeFrom_18 rfl (lv_at hl 0 rfl) ?_
        refine va_get (D := D) (ci := 0) (v := .ref (h 41)) (C := RX0) (T := TX0) (N := 4) hx hb hts inX0 hown hK hP 39 wX_39 rfl 1 (by decide) f2 (fun _ h9 => h9) rfl dX0_changeFrom_19 ?_
        refine lv_iload hx hb dX0_changeFrom_22 (lv_at hl 5 rfl) ?_
        refine lv_iload_n hx hb dX0_changeFrom_24 rfl (lv_at hl 2 rfl) ?_
        obtain ⟨hi, hw⟩ := hw
        refine x_iast (ws2 := wX h cI cJ (xu (xu S 40 v6.toNatClampNeg v2) 41 v6.toNatClampNeg v3) L) hx hb hK hP (hD _ _) hS 41 0 wX_41 rfl hi dX0_changeFrom_25 (wX_u41 _ _) (fun H locs hP hS => ?_)
        refine lv_aload_n hx hb dX0_changeFrom_26 rfl (lv_at hl 0 rfl) ?_
        refine va_get (D := D) (ci := 0) (v := .ref (h 42)) (C := RX0) (T := TX0) (N := 4) hx hb hts inX0 hown hK hP 39 wX_39 rfl 2 (by decide) f3 (fun _ h9 => h9) rfl dX0_changeFrom_27 ?_
        refine lv_iload hx hb dX0_changeFrom_30 (lv_at hl 5 rfl) ?_
        refine lv_iload hx hb dX0_changeFrom_32 (lv_at hl 3 rfl) ?_
        obtain ⟨hi, hw⟩ := hw
        refine x_iast (ws2 := wX h cI cJ (xu (xu (xu S 40 v6.toNatClampNeg v2) 41 v6.toNatClampNeg v3) 42 v6.toNatClampNeg v4) L) hx hb hK hP (hD _ _) hS 42 0 wX_42 rfl hi dX0_changeFrom_34 (wX_u42 _ _) (fun H locs hP hS => ?_)
        refine lv_aload_n hx hb dX0_changeFrom_35 rfl (lv_at hl 0 rfl) ?_
        refine va_get (D := D) (ci := 0) (v := .ref (h 43)) (C := RX0) (T := TX0) (N := 4) hx hb hts inX0 hown hK hP 39 wX_39 rfl 3 (by decide) f4 (fun _ h9 => h9) rfl dX0_changeFrom_36 ?_
        refine lv_iload hx hb dX0_changeFrom_39 (lv_at hl 5 rfl) ?_
        refine lv_iload hx hb dX0_changeFrom_41 (lv_at hl 4 rfl) ?_
        obtain ⟨hi, hw⟩ := hw
        refine x_iast (ws2 := wX h cI cJ (xu (xu (xu (xu S 40 v6.toNatClampNeg v2) 41 v6.toNatClampNeg v3) 42 v6.toNatClampNeg v4) 43 v6.toNatClampNeg v5) L) hx hb hK hP (hD _ _) hS 43 0 wX_43 rfl hi dX0_changeFrom_43 (wX_u43 _ _) (fun H locs hP hS => ?_)
        refine lv_iinc (v := v6 + (1 : Int32)) (lv' := [(6, .int (v6 + (1 : Int32))), (0, .ref (h 39)), (2, .int v2), (3, .int v3), (4, .int v4), (5, .int v5)]) hx hb dX0_changeFrom_44 hl (k := 5) rfl rfl (by decide) rfl (fun ls hl => ?_)
        refine lv_goto (tgt := 3) hx hb dX0_changeFrom_47 (by decide) ?_
        exact i3 (v6 + (1 : Int32)) (xu (xu (xu (xu S 40 v6.toNatClampNeg v2) 41 v6.toNatClampNeg v3) 42 v6.toNatClampNeg v4) 43 v6.toNatClampNeg v5) _ _ _ (lv_sub hl [1, 2, 3, 4, 5, 0] rfl) hP hS hw
  unfold kX0_changeFrom at hw
  refine lv_iload_n hx hb dX0_changeFrom_0 rfl (lv_at hl 1 rfl) ?_
  refine lv_istore (lv' := [(6, .int v1), (0, .ref (h 39)), (1, .int v1), (2, .int v2), (3, .int v3), (4, .int v4), (5, .int v5)]) hx hb dX0_changeFrom_1 hl (by decide) rfl (fun ls hl => ?_)
  obtain ⟨n3, hw⟩ := hw
  exact b3  n3 v1 S _ _ _ (lv_sub hl [1, 3, 4, 5, 6, 0] rfl) hP hS hw
abbrev rX3_readLaw : Room := { frames := 3, cells := 0, slots := 0, locals := 77 }
set_option maxHeartbeats 4000000 in
set_option maxRecDepth 100000 in
theorem mX3_readLaw (l : Launch) (D : va_G) (h : Nat → Nat) (cI cJ : ClassId) (t0 : Nat) (hh : xdis 53 h) (S : SX) (L : LX) (post : Int32 → SX → Prop) (hw : kX3_readLaw S L  post) : Met l yX3_readLaw wsX3_readLaw rX3_readLaw (xPre D (wX h cI cJ) (xE D h cI cJ t0) S L [.ref (h 37), .ref (h 39)]) (va_Qi (fun (r : Int32) (u : SX × LX) => post r u.1 ∧ u.2 = L) (xB D (wX h cI cJ)) (xA 53 h)) 0 0 (xA 53 h) := by
  refine Met.ofW (cc := cX3_readLaw) (maxL := 8) (ret := (some .boolean)) (by decide) rfl ?_
  intro p e s m args below meth c s₁ B hml hv
  obtain ⟨hargs, hP, hE⟩ := hv
  have hx := B.exec
  have hb := B.bytes
  have hr := B.returns
  have hlocks := B.notSynchronized
  have hts := atoms_spec (ws := wsX3_readLaw) B.pre
  have hown : s.vm.findClass RX3 = some m.cls := findClass_of_methodNamed B.named
  have hS : va_S (xA 53 h) s.heap s.heap [] := va_S.rf
  have hD : ∀ (S : SX) (L : LX), va_D (xA 53 h) (wX h cI cJ S L) := fun S L => wX_D hh cI cJ S L
  have hK := hE.1
  have hst : xSt (xA 53 h) (xE D h cI cJ t0) := xE_st D h cI cJ t0
  have f0 := hts (.fieldLink RX3 53 "BookOfWills$Tape" "MARK_SIGNS" "[C") (by decide +kernel)
  have hl := lv_entry ([.ref (h 37), .ref (h 39)]) (n := 8) (Nat.le_of_ble_eq_true rfl)
  have hen : entryFrame m args 8 = F0 m 0 ((lg_sl ([.ref (h 37), .ref (h 39)]) ++ List.replicate (8 - (lg_sl ([.ref (h 37), .ref (h 39)])).length) Slot.unset).toArray) [] := by rw [hargs]; exact lg_entry_eq m _ _
  rw [hen]
  generalize (lg_sl ([.ref (h 37), .ref (h 39)]) ++ List.replicate (8 - (lg_sl ([.ref (h 37), .ref (h 39)])).length) Slot.unset).toArray = ls at hl ⊢
  have hl : lv_has ls 8 [(0, .ref (h 37)), (1, .ref (h 39))] := hl
  change W p l e rX3_readLaw s m args below meth c s.heap [] 0 0 (MQ below (va_Qi (fun (r : Int32) (u : SX × LX) => post r u.1 ∧ u.2 = L) (xB D (wX h cI cJ)) (xA 53 h)) args s 0 0 (xA 53 h)) (F0 m 0 ls [])
  have hret : ∀ (r : Int32) (S1 : SX) (H : Heap) (locs : List Loc) (ls : Array Slot) (pc : Nat), va_P D vwCl (wX h cI cJ S1 L) H → va_S (xA 53 h) s.heap H locs → post r S1 → narrow .boolean (.int r) = .int r → decode cX3_readLaw pc = .ok (.ireturn, 1) → W p l e rX3_readLaw s m args below meth c H locs 0 0 (MQ below (va_Qi (fun (r : Int32) (u : SX × LX) => post r u.1 ∧ u.2 = L) (xB D (wX h cI cJ)) (xA 53 h)) args s 0 0 (xA 53 h)) (F0 m pc ls [.int r]) := fun r S1 H locs ls pc hP hS hw hna hd => W.zret hx hb hr hna (fun t ht hW => ⟨⟨r, (S1, L), rfl, ⟨hw, rfl⟩, show va_P D vwCl (wX h cI cJ S1 L) t.heap by rw [ht]; exact hP⟩, hS.F ht⟩) hS.2.2 hd
  generalize MQ below (va_Qi (fun (r : Int32) (u : SX × LX) => post r u.1 ∧ u.2 = L) (xB D (wX h cI cJ)) (xA 53 h)) args s 0 0 (xA 53 h) = Q at hret ⊢
  have b84 : ∀ (v2 : Int32) (v3 : Int32) (v4 : Int32) (v5 : Int32) (n84 : Nat) (v6 : Int32) (v7 : Int32) (S : SX) (H : Heap) (locs : List Loc) (ls : Array Slot), lv_has ls 8 [(0, .ref (h 37)), (1, .ref (h 39)), (2, .int v2), (3, .int v3), (4, .int v4), (5, .int v5), (6, .int v6), (7, .int v7)] → va_P D vwCl (wX h cI cJ S L) H → va_S (xA 53 h) s.heap H locs → kX3_readLaw_b84 L v2 v3 v4 v5 post n84 v6 v7 S → W p l e rX3_readLaw s m args below meth c H locs 0 0 Q (F0 m 84 ls []) := by
    intro v2 v3 v4 v5 n84
    induction n84 with
    | zero => intro v6 v7 S H locs ls hl hP hS hw; exact absurd hw id
    | succ n84 i84 =>
      intro v6 v7 S H locs ls hl hP hS hw
      unfold kX3_readLaw_b84 at hw
      refine lv_iload hx hb dX3_readLaw_84 (lv_at hl 7 rfl) ?_
      refine lv_iconst (v := (4 : Int32)) hx hb dX3_readLaw_86 (by decide) ?_
      refine lv_icmp_ge (tgt := 118) hx hb dX3_readLaw_87 (by decide) (fun hc => ?_) (fun hc => ?_)
      · replace hw := And.left hw hc
        refine lv_aload_n hx hb dX3_readLaw_118 rfl (lv_at hl 1 rfl) ?_
        refine lv_iload_n hx hb dX3_readLaw_119 rfl (lv_at hl 2 rfl) ?_
        refine lv_iload_n hx hb dX3_readLaw_120 rfl (lv_at hl 3 rfl) ?_
        refine lv_iload hx hb dX3_readLaw_121 (lv_at hl 4 rfl) ?_
        refine lv_iload hx hb dX3_readLaw_123 (lv_at hl 5 rfl) ?_
        refine lv_iload hx hb dX3_readLaw_125 (lv_at hl 6 rfl) ?_
        refine xVv1 (As := [.int v2, .int v3, .int v4, .int v5, .int v6]) (rest := []) hst hE hP hS ⟨hx, hb, hml, hown, hts⟩ (va_recv hK hP (ci := 0) (q := (RX0, TX0, 4)) rfl wX_39) (mX0_changeFrom l D h cI cJ t0 hh S L v2 v3 v4 v5 v6 _ hw) (cwV 5 hts gX3_readLaw_X0_changeFrom rfl rfl rfl (by decide +kernel) ⟨Nat.le_of_ble_eq_true rfl, Nat.le_of_ble_eq_true rfl⟩) rfl hl.1 rfl (Nat.le_of_ble_eq_true rfl) dX3_readLaw_127 ⟨Nat.zero_le _, Nat.zero_le _⟩ (fun S127 H locs hw hP hS => ?_)
        refine lv_iconst (v := (1 : Int32)) hx hb dX3_readLaw_130 (by decide) ?_
        exact hret _ _ _ _ _ _ hP hS hw rfl dX3_readLaw_131
      · replace hw := And.right hw hc
        refine lv_aload_n hx hb dX3_readLaw_90 rfl (lv_at hl 0 rfl) ?_
        refine va_gets hx hb hE.2.2.2.2.1 hS hown f0 (fun _ h9 => h9) dX3_readLaw_91 ?_
        refine lv_iload hx hb dX3_readLaw_94 (lv_at hl 7 rfl) ?_
        obtain ⟨hi, hw⟩ := hw
        refine va_tc (v := .int (xmk v7.toNatClampNeg)) hx hb hE.2.2.2.2.2 hS hi rfl dX3_readLaw_96 ?_
        refine xVi1 (As := [.int (xmk v7.toNatClampNeg)]) (rest := []) hst hE hP hS ⟨hx, hb, hml, hown, hts⟩ (va_recv hK hP (ci := 3) (q := (RX3, TX3, 3)) rfl wX_37) (mX3_takes l D h cI cJ t0 hh S L (xmk v7.toNatClampNeg) _ hw) (cwV 1 hts gX3_readLaw_X3_takes rfl rfl rfl (by decide +kernel) ⟨Nat.le_of_ble_eq_true rfl, Nat.le_of_ble_eq_true rfl⟩) rfl hl.1 rfl (Nat.le_of_ble_eq_true rfl) dX3_readLaw_97 ⟨Nat.zero_le _, Nat.zero_le _⟩ (fun r97 S97 H locs hw hP hS => ?_)
        refine lv_if_eq (tgt := 112) hx hb dX3_readLaw_100 (by decide) (fun hc => ?_) (fun hc => ?_)
        · replace hw := And.left hw hc
          refine lv_iinc (v := v7 + (1 : Int32)) (lv' := [(7, .int (v7 + (1 : Int32))), (0, .ref (h 37)), (1, .ref (h 39)), (2, .int v2), (3, .int v3), (4, .int v4), (5, .int v5), (6, .int v6)]) hx hb dX3_readLaw_112 hl (k := 7) rfl rfl (by decide) rfl (fun ls hl => ?_)
          refine lv_goto (tgt := 84) hx hb dX3_readLaw_115 (by decide) ?_
          exact i84 v6 (v7 + (1 : Int32)) S97 _ _ _ (lv_sub hl [1, 2, 3, 4, 5, 6, 7, 0] rfl) hP hS hw
        · replace hw := And.right hw hc
          refine lv_iload hx hb dX3_readLaw_103 (lv_at hl 6 rfl) ?_
          refine lv_iconst (v := (1 : Int32)) hx hb dX3_readLaw_105 (by decide) ?_
          refine lv_iload hx hb dX3_readLaw_106 (lv_at hl 7 rfl) ?_
          refine lv_ishl hx hb dX3_readLaw_108 ?_
          refine lv_ior hx hb dX3_readLaw_109 ?_
          refine lv_istore (lv' := [(6, .int (v6 ||| ((1 : Int32) <<< (v7 &&& 31)))), (0, .ref (h 37)), (1, .ref (h 39)), (2, .int v2), (3, .int v3), (4, .int v4), (5, .int v5), (7, .int v7)]) hx hb dX3_readLaw_110 hl (by decide) rfl (fun ls hl => ?_)
          refine lv_iinc (v := v7 + (1 : Int32)) (lv' := [(7, .int (v7 + (1 : Int32))), (6, .int (v6 ||| ((1 : Int32) <<< (v7 &&& 31)))), (0, .ref (h 37)), (1, .ref (h 39)), (2, .int v2), (3, .int v3), (4, .int v4), (5, .int v5)]) hx hb dX3_readLaw_112 hl (k := 7) rfl rfl (by decide) rfl (fun ls hl => ?_)
          refine lv_goto (tgt := 84) hx hb dX3_readLaw_115 (by decide) ?_
          exact i84 (v6 ||| ((1 : Int32) <<< (v7 &&& 31))) (v7 + (1 : Int32)) S97 _ _ _ (lv_sub hl [2, 3, 4, 5, 6, 7, 1, 0] rfl) hP hS hw
  unfold kX3_readLaw at hw
  refine lv_aload_n hx hb dX3_readLaw_0 rfl (lv_at hl 0 rfl) ?_
  refine lv_bipush (v := (7 : Int32)) hx hb dX3_readLaw_1 (by decide) ?_
  refine xVi1 (As := [.int (7 : Int32)]) (rest := []) hst hE hP hS ⟨hx, hb, hml, hown, hts⟩ (va_recv hK hP (ci := 3) (q := (RX3, TX3, 3)) rfl wX_37) (mX3_readDigit l D h cI cJ t0 hh S L (7 : Int32) _ hw) (cwV 1 hts gX3_readLaw_X3_readDigit rfl rfl rfl (by decide +kernel) ⟨Nat.le_of_ble_eq_true rfl, Nat.le_of_ble_eq_true rfl⟩) rfl hl.1 rfl (Nat.le_of_ble_eq_true rfl) dX3_readLaw_3 ⟨Nat.zero_le _, Nat.zero_le _⟩ (fun r3 S3 H locs hw hP hS => ?_)
  refine lv_istore_n (lv' := [(2, .int r3), (0, .ref (h 37)), (1, .ref (h 39))]) hx hb dX3_readLaw_6 rfl hl (by decide) rfl (fun ls hl => ?_)
  refine lv_iload_n hx hb dX3_readLaw_7 rfl (lv_at hl 0 rfl) ?_
  refine lv_iconst (v := (-1 : Int32)) hx hb dX3_readLaw_8 (by decide) ?_
  refine lv_icmp_eq (tgt := 21) hx hb dX3_readLaw_9 (by decide) (fun hc => ?_) (fun hc => ?_)
  · replace hw := And.left hw hc
    refine lv_iconst (v := (0 : Int32)) hx hb dX3_readLaw_21 (by decide) ?_
    exact hret _ _ _ _ _ _ hP hS hw rfl dX3_readLaw_22
  · replace hw := And.right hw hc
    refine lv_aload_n hx hb dX3_readLaw_12 rfl (lv_at hl 1 rfl) ?_
    refine lv_bipush (v := (58 : Int32)) hx hb dX3_readLaw_13 (by decide) ?_
    refine xVi1 (As := [.int (58 : Int32)]) (rest := []) hst hE hP hS ⟨hx, hb, hml, hown, hts⟩ (va_recv hK hP (ci := 3) (q := (RX3, TX3, 3)) rfl wX_37) (mX3_takes l D h cI cJ t0 hh S3 L (58 : Int32) _ hw) (cwV 1 hts gX3_readLaw_X3_takes rfl rfl rfl (by decide +kernel) ⟨Nat.le_of_ble_eq_true rfl, Nat.le_of_ble_eq_true rfl⟩) rfl hl.1 rfl (Nat.le_of_ble_eq_true rfl) dX3_readLaw_15 ⟨Nat.zero_le _, Nat.zero_le _⟩ (fun r15 S15 H locs hw hP hS => ?_)
    refine lv_if_ne (tgt := 23) hx hb dX3_readLaw_18 (by decide) (fun hc => ?_) (fun hc => ?_)
    · replace hw := And.right hw hc
      refine lv_aload_n hx hb dX3_readLaw_23 rfl (lv_at hl 1 rfl) ?_
      refine lv_bipush (v := (102 : Int32)) hx hb dX3_readLaw_24 (by decide) ?_
      refine lv_sipush (v := (9999 : Int32)) hx hb dX3_readLaw_26 (by decide) ?_
      refine xVi1 (As := [.int (102 : Int32), .int (9999 : Int32)]) (rest := []) hst hE hP hS ⟨hx, hb, hml, hown, hts⟩ (va_recv hK hP (ci := 3) (q := (RX3, TX3, 3)) rfl wX_37) (mX3_readPerhaps l D h cI cJ t0 hh S15 L (102 : Int32) (9999 : Int32) _ hw) (cwV 2 hts gX3_readLaw_X3_readPerhaps rfl rfl rfl (by decide +kernel) ⟨Nat.le_of_ble_eq_true rfl, Nat.le_of_ble_eq_true rfl⟩) rfl hl.1 rfl (Nat.le_of_ble_eq_true rfl) dX3_readLaw_29 ⟨Nat.zero_le _, Nat.zero_le _⟩ (fun r29 S29 H locs hw hP hS => ?_)
      refine lv_istore_n (lv' := [(3, .int r29), (2, .int r3), (0, .ref (h 37)), (1, .ref (h 39))]) hx hb dX3_readLaw_32 rfl hl (by decide) rfl (fun ls hl => ?_)
      refine lv_iload_n hx hb dX3_readLaw_33 rfl (lv_at hl 0 rfl) ?_
      refine lv_iconst (v := (-1 : Int32)) hx hb dX3_readLaw_34 (by decide) ?_
      refine lv_icmp_ne (tgt := 40) hx hb dX3_readLaw_35 (by decide) (fun hc => ?_) (fun hc => ?_)
      · replace hw := And.right hw hc
        refine lv_aload_n hx hb dX3_readLaw_40 rfl (lv_at hl 2 rfl) ?_
        refine lv_bipush (v := (108 : Int32)) hx hb dX3_readLaw_41 (by decide) ?_
        refine lv_sipush (v := (9999 : Int32)) hx hb dX3_readLaw_43 (by decide) ?_
        refine xVi1 (As := [.int (108 : Int32), .int (9999 : Int32)]) (rest := []) hst hE hP hS ⟨hx, hb, hml, hown, hts⟩ (va_recv hK hP (ci := 3) (q := (RX3, TX3, 3)) rfl wX_37) (mX3_readPerhaps l D h cI cJ t0 hh S29 L (108 : Int32) (9999 : Int32) _ hw) (cwV 2 hts gX3_readLaw_X3_readPerhaps rfl rfl rfl (by decide +kernel) ⟨Nat.le_of_ble_eq_true rfl, Nat.le_of_ble_eq_true rfl⟩) rfl hl.1 rfl (Nat.le_of_ble_eq_true rfl) dX3_readLaw_46 ⟨Nat.zero_le _, Nat.zero_le _⟩ (fun r46 S46 H locs hw hP hS => ?_)
        refine lv_istore (lv' := [(4, .int r46), (3, .int r29), (2, .int r3), (0, .ref (h 37)), (1, .ref (h 39))]) hx hb dX3_readLaw_49 hl (by decide) rfl (fun ls hl => ?_)
        refine lv_iload hx hb dX3_readLaw_51 (lv_at hl 0 rfl) ?_
        refine lv_iconst (v := (-1 : Int32)) hx hb dX3_readLaw_53 (by decide) ?_
        refine lv_icmp_ne (tgt := 59) hx hb dX3_readLaw_54 (by decide) (fun hc => ?_) (fun hc => ?_)
        · replace hw := And.right hw hc
          refine lv_aload_n hx hb dX3_readLaw_59 rfl (lv_at hl 3 rfl) ?_
          refine lv_bipush (v := (104 : Int32)) hx hb dX3_readLaw_60 (by decide) ?_
          refine lv_sipush (v := (999 : Int32)) hx hb dX3_readLaw_62 (by decide) ?_
          refine xVi1 (As := [.int (104 : Int32), .int (999 : Int32)]) (rest := []) hst hE hP hS ⟨hx, hb, hml, hown, hts⟩ (va_recv hK hP (ci := 3) (q := (RX3, TX3, 3)) rfl wX_37) (mX3_readPerhaps l D h cI cJ t0 hh S46 L (104 : Int32) (999 : Int32) _ hw) (cwV 2 hts gX3_readLaw_X3_readPerhaps rfl rfl rfl (by decide +kernel) ⟨Nat.le_of_ble_eq_true rfl, Nat.le_of_ble_eq_true rfl⟩) rfl hl.1 rfl (Nat.le_of_ble_eq_true rfl) dX3_readLaw_65 ⟨Nat.zero_le _, Nat.zero_le _⟩ (fun r65 S65 H locs hw hP hS => ?_)
          refine lv_istore (lv' := [(5, .int r65), (4, .int r46), (3, .int r29), (2, .int r3), (0, .ref (h 37)), (1, .ref (h 39))]) hx hb dX3_readLaw_68 hl (by decide) rfl (fun ls hl => ?_)
          refine lv_iload hx hb dX3_readLaw_70 (lv_at hl 0 rfl) ?_
          refine lv_iconst (v := (-1 : Int32)) hx hb dX3_readLaw_72 (by decide) ?_
          refine lv_icmp_ne (tgt := 78) hx hb dX3_readLaw_73 (by decide) (fun hc => ?_) (fun hc => ?_)
          · replace hw := And.right hw hc
            refine lv_iconst (v := (0 : Int32)) hx hb dX3_readLaw_78 (by decide) ?_
            refine lv_istore (lv' := [(6, .int (0 : Int32)), (5, .int r65), (4, .int r46), (3, .int r29), (2, .int r3), (0, .ref (h 37)), (1, .ref (h 39))]) hx hb dX3_readLaw_79 hl (by decide) rfl (fun ls hl => ?_)
            refine lv_iconst (v := (0 : Int32)) hx hb dX3_readLaw_81 (by decide) ?_
            refine lv_istore (lv' := [(7, .int (0 : Int32)), (6, .int (0 : Int32)), (5, .int r65), (4, .int r46), (3, .int r29), (2, .int r3), (0, .ref (h 37)), (1, .ref (h 39))]) hx hb dX3_readLaw_82 hl (by decide) rfl (fun ls hl => ?_)
            obtain ⟨n84, hw⟩ := hw
            exact b84 r3 r29 r46 r65 n84 (0 : Int32) (0 : Int32) S65 _ _ _ (lv_sub hl [6, 7, 5, 4, 3, 2, 1, 0] rfl) hP hS hw
          · replace hw := And.left hw hc
            refine lv_iconst (v := (0 : Int32)) hx hb dX3_readLaw_76 (by decide) ?_
            exact hret _ _ _ _ _ _ hP hS hw rfl dX3_readLaw_77
        · replace hw := And.left hw hc
          refine lv_iconst (v := (0 : Int32)) hx hb dX3_readLaw_57 (by decide) ?_
          exact hret _ _ _ _ _ _ hP hS hw rfl dX3_readLaw_58
      · replace hw := And.left hw hc
        refine lv_iconst (v := (0 : Int32)) hx hb dX3_readLaw_38 (by decide) ?_
        exact hret _ _ _ _ _ _ hP hS hw rfl dX3_readLaw_39
    · replace hw := And.left hw hc
      refine lv_iconst (v := (0 : Int32)) hx hb dX3_readLaw_21 (by decide) ?_
      exact hret _ _ _ _ _ _ hP hS hw rfl dX3_readLaw_22
abbrev rX3_fault : Room := { frames := 0, cells := 0, slots := 0, locals := 0 }
set_option maxHeartbeats 4000000 in
set_option maxRecDepth 100000 in
theorem mX3_fault (l : Launch) (D : va_G) (h : Nat → Nat) (cI cJ : ClassId) (t0 : Nat) (hh : xdis 53 h) (S : SX) (L : LX) (post : Int32 → Prop) (hw : kX3_fault S L  post) : Met l yX3_fault wsX3_fault rX3_fault (xPre D (wX h cI cJ) (xE D h cI cJ t0) S L [.ref (h 37)]) (va_Qi (fun (r : Int32) (u : SX × LX) => post r ∧ u.1 = S ∧ u.2 = L) (xB D (wX h cI cJ)) (xA 53 h)) 0 0 (xA 53 h) := by
  refine Met.ofW (cc := cX3_fault) (maxL := 1) (ret := (some .int)) (by decide) rfl ?_
  intro p e s m args below meth c s₁ B hml hv
  obtain ⟨hargs, hP, hE⟩ := hv
  have hx := B.exec
  have hb := B.bytes
  have hr := B.returns
  have hlocks := B.notSynchronized
  have hts := atoms_spec (ws := wsX3_fault) B.pre
  have hown : s.vm.findClass RX3 = some m.cls := findClass_of_methodNamed B.named
  have hS : va_S (xA 53 h) s.heap s.heap [] := va_S.rf
  have hD : ∀ (S : SX) (L : LX), va_D (xA 53 h) (wX h cI cJ S L) := fun S L => wX_D hh cI cJ S L
  have hK := hE.1
  have hst : xSt (xA 53 h) (xE D h cI cJ t0) := xE_st D h cI cJ t0
  have f0 := hts (.fieldLink RX3 23 "BookOfWills$Tape" "place" "I") (by decide +kernel)
  have inX3 : ∀ w ∈ u_ws RX3 TX3 3, w ∈ wsX3_fault := fun w hw9 => List.mem_cons_of_mem _ (List.mem_append_right _ hw9)
  have hl := lv_entry ([.ref (h 37)]) (n := 1) (Nat.le_of_ble_eq_true rfl)
  have hen : entryFrame m args 1 = F0 m 0 ((lg_sl ([.ref (h 37)]) ++ List.replicate (1 - (lg_sl ([.ref (h 37)])).length) Slot.unset).toArray) [] := by rw [hargs]; exact lg_entry_eq m _ _
  rw [hen]
  generalize (lg_sl ([.ref (h 37)]) ++ List.replicate (1 - (lg_sl ([.ref (h 37)])).length) Slot.unset).toArray = ls at hl ⊢
  have hl : lv_has ls 1 [(0, .ref (h 37))] := hl
  change W p l e rX3_fault s m args below meth c s.heap [] 0 0 (MQ below (va_Qi (fun (r : Int32) (u : SX × LX) => post r ∧ u.1 = S ∧ u.2 = L) (xB D (wX h cI cJ)) (xA 53 h)) args s 0 0 (xA 53 h)) (F0 m 0 ls [])
  have hret : ∀ (r : Int32) (H : Heap) (locs : List Loc) (ls : Array Slot) (pc : Nat), va_P D vwCl (wX h cI cJ S L) H → va_S (xA 53 h) s.heap H locs → post r → decode cX3_fault pc = .ok (.ireturn, 1) → W p l e rX3_fault s m args below meth c H locs 0 0 (MQ below (va_Qi (fun (r : Int32) (u : SX × LX) => post r ∧ u.1 = S ∧ u.2 = L) (xB D (wX h cI cJ)) (xA 53 h)) args s 0 0 (xA 53 h)) (F0 m pc ls [.int r]) := fun r H locs ls pc hP hS hw hd => W.iret hx hb hr (fun t ht hW => ⟨⟨r, (S, L), rfl, ⟨hw, rfl, rfl⟩, show va_P D vwCl (wX h cI cJ S L) t.heap by rw [ht]; exact hP⟩, hS.F ht⟩) hS.2.2 hd
  generalize MQ below (va_Qi (fun (r : Int32) (u : SX × LX) => post r ∧ u.1 = S ∧ u.2 = L) (xB D (wX h cI cJ)) (xA 53 h)) args s 0 0 (xA 53 h) = Q at hret ⊢
  unfold kX3_fault at hw
  refine lv_bipush (v := (-20 : Int32)) hx hb dX3_fault_0 (by decide) ?_
  refine lv_aload_n hx hb dX3_fault_2 rfl (lv_at hl 0 rfl) ?_
  refine va_get (D := D) (ci := 3) (v := .int (S 37 1)) (C := RX3) (T := TX3) (N := 3) hx hb hts inX3 hown hK hP 37 wX_37 rfl 1 (by decide) f0 (fun _ h9 => h9) rfl dX3_fault_3 ?_
  refine lv_isub hx hb dX3_fault_6 ?_
  exact hret _ _ _ _ _ hP hS hw dX3_fault_7
abbrev rX3_readLaws : Room := { frames := 4, cells := 0, slots := 0, locals := 104 }
set_option maxHeartbeats 4000000 in
set_option maxRecDepth 100000 in
theorem mX3_readLaws (l : Launch) (D : va_G) (h : Nat → Nat) (cI cJ : ClassId) (t0 : Nat) (hh : xdis 53 h) (S : SX) (L : LX) (post : Int32 → SX → Prop) (hw : kX3_readLaws S L  post) : Met l yX3_readLaws wsX3_readLaws rX3_readLaws (xPre D (wX h cI cJ) (xE D h cI cJ t0) S L [.ref (h 37), .ref (h 39)]) (va_Qi (fun (r : Int32) (u : SX × LX) => post r u.1 ∧ u.2 = L) (xB D (wX h cI cJ)) (xA 53 h)) 0 0 (xA 53 h) := by
  refine Met.ofW (cc := cX3_readLaws) (maxL := 3) (ret := (some .int)) (by decide) rfl ?_
  intro p e s m args below meth c s₁ B hml hv
  obtain ⟨hargs, hP, hE⟩ := hv
  have hx := B.exec
  have hb := B.bytes
  have hr := B.returns
  have hlocks := B.notSynchronized
  have hts := atoms_spec (ws := wsX3_readLaws) B.pre
  have hown : s.vm.findClass RX3 = some m.cls := findClass_of_methodNamed B.named
  have hS : va_S (xA 53 h) s.heap s.heap [] := va_S.rf
  have hD : ∀ (S : SX) (L : LX), va_D (xA 53 h) (wX h cI cJ S L) := fun S L => wX_D hh cI cJ S L
  have hK := hE.1
  have hst : xSt (xA 53 h) (xE D h cI cJ t0) := xE_st D h cI cJ t0
  have f0 := hts (.fieldLink RX3 23 "BookOfWills$Tape" "place" "I") (by decide +kernel)
  have inX3 : ∀ w ∈ u_ws RX3 TX3 3, w ∈ wsX3_readLaws := fun w hw9 => List.mem_cons_of_mem _ (List.mem_append_left _ (List.mem_append_right _ hw9))
  have hl := lv_entry ([.ref (h 37), .ref (h 39)]) (n := 3) (Nat.le_of_ble_eq_true rfl)
  have hen : entryFrame m args 3 = F0 m 0 ((lg_sl ([.ref (h 37), .ref (h 39)]) ++ List.replicate (3 - (lg_sl ([.ref (h 37), .ref (h 39)])).length) Slot.unset).toArray) [] := by rw [hargs]; exact lg_entry_eq m _ _
  rw [hen]
  generalize (lg_sl ([.ref (h 37), .ref (h 39)]) ++ List.replicate (3 - (lg_sl ([.ref (h 37), .ref (h 39)])).length) Slot.unset).toArray = ls at hl ⊢
  have hl : lv_has ls 3 [(0, .ref (h 37)), (1, .ref (h 39))] := hl
  change W p l e rX3_readLaws s m args below meth c s.heap [] 0 0 (MQ below (va_Qi (fun (r : Int32) (u : SX × LX) => post r u.1 ∧ u.2 = L) (xB D (wX h cI cJ)) (xA 53 h)) args s 0 0 (xA 53 h)) (F0 m 0 ls [])
  have hret : ∀ (r : Int32) (S1 : SX) (H : Heap) (locs : List Loc) (ls : Array Slot) (pc : Nat), va_P D vwCl (wX h cI cJ S1 L) H → va_S (xA 53 h) s.heap H locs → post r S1 → decode cX3_readLaws pc = .ok (.ireturn, 1) → W p l e rX3_readLaws s m args below meth c H locs 0 0 (MQ below (va_Qi (fun (r : Int32) (u : SX × LX) => post r u.1 ∧ u.2 = L) (xB D (wX h cI cJ)) (xA 53 h)) args s 0 0 (xA 53 h)) (F0 m pc ls [.int r]) := fun r S1 H locs ls pc hP hS hw hd => W.iret hx hb hr (fun t ht hW => ⟨⟨r, (S1, L), rfl, ⟨hw, rfl⟩, show va_P D vwCl (wX h cI cJ S1 L) t.heap by rw [ht]; exact hP⟩, hS.F ht⟩) hS.2.2 hd
  generalize MQ below (va_Qi (fun (r : Int32) (u : SX × LX) => post r u.1 ∧ u.2 = L) (xB D (wX h cI cJ)) (xA 53 h)) args s 0 0 (xA 53 h) = Q at hret ⊢
  have b7 : ∀  (n7 : Nat) (v2 : Int32) (S : SX) (H : Heap) (locs : List Loc) (ls : Array Slot), lv_has ls 3 [(0, .ref (h 37)), (1, .ref (h 39)), (2, .int v2)] → va_P D vwCl (wX h cI cJ S L) H → va_S (xA 53 h) s.heap H locs → kX3_readLaws_b7 L post n7 v2 S → W p l e rX3_readLaws s m args below meth c H locs 0 0 Q (F0 m 7 ls []) := by
    intro n7
    induction n7 with
    | zero => intro v2 S H locs ls hl hP hS hw; exact absurd hw id
    | succ n7 i7 =>
      have b51 : ∀ (S : SX) (H : Heap) (locs : List Loc) (ls : Array Slot), lv_has ls 3 [(0, .ref (h 37))] → va_P D vwCl (wX h cI cJ S L) H → va_S (xA 53 h) s.heap H locs → kX3_readLaws_b51 L post S → W p l e rX3_readLaws s m args below meth c H locs 0 0 Q (F0 m 51 ls []) := by
        intro S H locs ls hl hP hS hw
        unfold kX3_readLaws_b51 at hw
        refine lv_aload_n hx hb dX3_readLaws_51 rfl (lv_at hl 0 rfl) ?_
        refine xVi0 (As := []) (rest := []) hst hE hP hS ⟨hx, hb, hml, hown, hts⟩ (va_recv hK hP (ci := 3) (q := (RX3, TX3, 3)) rfl wX_37) (mX3_fault l D h cI cJ t0 hh S L  _ hw) (cwV 0 hts gX3_readLaws_X3_fault rfl rfl rfl (by decide +kernel) ⟨Nat.le_of_ble_eq_true rfl, Nat.le_of_ble_eq_true rfl⟩) rfl hl.1 rfl (Nat.le_of_ble_eq_true rfl) dX3_readLaws_52 ⟨Nat.zero_le _, Nat.zero_le _⟩ (fun r52 H locs hw hP hS => ?_)
        exact hret _ _ _ _ _ _ hP hS hw dX3_readLaws_55
      intro v2 S H locs ls hl hP hS hw
      unfold kX3_readLaws_b7 at hw
      refine lv_iload_n hx hb dX3_readLaws_7 rfl (lv_at hl 2 rfl) ?_
      refine lv_bipush (v := (8 : Int32)) hx hb dX3_readLaws_8 (by decide) ?_
      refine lv_icmp_gt (tgt := 62) hx hb dX3_readLaws_10 (by decide) (fun hc => ?_) (fun hc => ?_)
      · replace hw := And.left hw hc
        refine lv_aload_n hx hb dX3_readLaws_62 rfl (lv_at hl 0 rfl) ?_
        refine xVi0 (As := []) (rest := []) hst hE hP hS ⟨hx, hb, hml, hown, hts⟩ (va_recv hK hP (ci := 3) (q := (RX3, TX3, 3)) rfl wX_37) (mX3_fault l D h cI cJ t0 hh S L  _ hw) (cwV 0 hts gX3_readLaws_X3_fault rfl rfl rfl (by decide +kernel) ⟨Nat.le_of_ble_eq_true rfl, Nat.le_of_ble_eq_true rfl⟩) rfl hl.1 rfl (Nat.le_of_ble_eq_true rfl) dX3_readLaws_63 ⟨Nat.zero_le _, Nat.zero_le _⟩ (fun r63 H locs hw hP hS => ?_)
        exact hret _ _ _ _ _ _ hP hS hw dX3_readLaws_66
      · replace hw := And.right hw hc
        refine lv_aload_n hx hb dX3_readLaws_13 rfl (lv_at hl 0 rfl) ?_
        refine lv_aload_n hx hb dX3_readLaws_14 rfl (lv_at hl 1 rfl) ?_
        refine xVi1 (As := [.ref (h 39)]) (rest := []) hst hE hP hS ⟨hx, hb, hml, hown, hts⟩ (va_recv hK hP (ci := 3) (q := (RX3, TX3, 3)) rfl wX_37) (mX3_readLaw l D h cI cJ t0 hh S L  _ hw) (cwV 1 hts gX3_readLaws_X3_readLaw rfl rfl rfl (by decide +kernel) ⟨Nat.le_of_ble_eq_true rfl, Nat.le_of_ble_eq_true rfl⟩) rfl hl.1 rfl (Nat.le_of_ble_eq_true rfl) dX3_readLaws_15 ⟨Nat.zero_le _, Nat.zero_le _⟩ (fun r15 S15 H locs hw hP hS => ?_)
        refine lv_if_ne (tgt := 26) hx hb dX3_readLaws_18 (by decide) (fun hc => ?_) (fun hc => ?_)
        · replace hw := And.right hw hc
          refine lv_aload_n hx hb dX3_readLaws_26 rfl (lv_at hl 0 rfl) ?_
          refine xVi1 (As := []) (rest := []) hst hE hP hS ⟨hx, hb, hml, hown, hts⟩ (va_recv hK hP (ci := 3) (q := (RX3, TX3, 3)) rfl wX_37) (mX3_next l D h cI cJ t0 hh S15 L  _ hw) (cwV 0 hts gX3_readLaws_X3_next rfl rfl rfl (by decide +kernel) ⟨Nat.le_of_ble_eq_true rfl, Nat.le_of_ble_eq_true rfl⟩) rfl hl.1 rfl (Nat.le_of_ble_eq_true rfl) dX3_readLaws_27 ⟨Nat.zero_le _, Nat.zero_le _⟩ (fun r27 S27 H locs hw hP hS => ?_)
          refine lv_iconst (v := (-1 : Int32)) hx hb dX3_readLaws_30 (by decide) ?_
          refine lv_icmp_ne (tgt := 36) hx hb dX3_readLaws_31 (by decide) (fun hc => ?_) (fun hc => ?_)
          · replace hw := And.right hw hc
            refine lv_iload_n hx hb dX3_readLaws_36 rfl (lv_at hl 2 rfl) ?_
            refine lv_bipush (v := (8 : Int32)) hx hb dX3_readLaws_37 (by decide) ?_
            refine lv_icmp_eq (tgt := 51) hx hb dX3_readLaws_39 (by decide) (fun hc => ?_) (fun hc => ?_)
            · replace hw := And.left hw hc
              exact b51 S27 _ _ _ (lv_sub hl [0] rfl) hP hS hw
            · replace hw := And.right hw hc
              refine lv_aload_n hx hb dX3_readLaws_42 rfl (lv_at hl 0 rfl) ?_
              refine lv_bipush (v := (59 : Int32)) hx hb dX3_readLaws_43 (by decide) ?_
              refine xVi1 (As := [.int (59 : Int32)]) (rest := []) hst hE hP hS ⟨hx, hb, hml, hown, hts⟩ (va_recv hK hP (ci := 3) (q := (RX3, TX3, 3)) rfl wX_37) (mX3_takes l D h cI cJ t0 hh S27 L (59 : Int32) _ hw) (cwV 1 hts gX3_readLaws_X3_takes rfl rfl rfl (by decide +kernel) ⟨Nat.le_of_ble_eq_true rfl, Nat.le_of_ble_eq_true rfl⟩) rfl hl.1 rfl (Nat.le_of_ble_eq_true rfl) dX3_readLaws_45 ⟨Nat.zero_le _, Nat.zero_le _⟩ (fun r45 S45 H locs hw hP hS => ?_)
              refine lv_if_ne (tgt := 56) hx hb dX3_readLaws_48 (by decide) (fun hc => ?_) (fun hc => ?_)
              · replace hw := And.right hw hc
                refine lv_iinc (v := v2 + (1 : Int32)) (lv' := [(2, .int (v2 + (1 : Int32))), (0, .ref (h 37)), (1, .ref (h 39))]) hx hb dX3_readLaws_56 hl (k := 2) rfl rfl (by decide) rfl (fun ls hl => ?_)
                refine lv_goto (tgt := 7) hx hb dX3_readLaws_59 (by decide) ?_
                exact i7 (v2 + (1 : Int32)) S45 _ _ _ (lv_sub hl [1, 2, 0] rfl) hP hS hw
              · replace hw := And.left hw hc
                exact b51 S45 _ _ _ (lv_sub hl [0] rfl) hP hS hw
          · replace hw := And.left hw hc
            refine lv_iload_n hx hb dX3_readLaws_34 rfl (lv_at hl 2 rfl) ?_
            exact hret _ _ _ _ _ _ hP hS hw dX3_readLaws_35
        · replace hw := And.left hw hc
          refine lv_aload_n hx hb dX3_readLaws_21 rfl (lv_at hl 0 rfl) ?_
          refine xVi0 (As := []) (rest := []) hst hE hP hS ⟨hx, hb, hml, hown, hts⟩ (va_recv hK hP (ci := 3) (q := (RX3, TX3, 3)) rfl wX_37) (mX3_fault l D h cI cJ t0 hh S15 L  _ hw) (cwV 0 hts gX3_readLaws_X3_fault rfl rfl rfl (by decide +kernel) ⟨Nat.le_of_ble_eq_true rfl, Nat.le_of_ble_eq_true rfl⟩) rfl hl.1 rfl (Nat.le_of_ble_eq_true rfl) dX3_readLaws_22 ⟨Nat.zero_le _, Nat.zero_le _⟩ (fun r22 H locs hw hP hS => ?_)
          exact hret _ _ _ _ _ _ hP hS hw dX3_readLaws_25
  unfold kX3_readLaws at hw
  refine lv_aload_n hx hb dX3_readLaws_0 rfl (lv_at hl 0 rfl) ?_
  refine lv_iconst (v := (0 : Int32)) hx hb dX3_readLaws_1 (by decide) ?_
  refine x_put (D := D) (ci := 3) (v := .int (0 : Int32)) (ty := .int) (C := RX3) (T := TX3) (N := 3) (ws2 := wX h cI cJ (xu S 37 1 (0 : Int32)) L) hx hb hts inX3 tyX3 tyX3_ok nmX3 hown hK hP (hD _ _) hS 37 wX_37 rfl 1 (by decide) f0 (fun _ h9 => h9) rfl (by decide +kernel) rfl rfl (Nat.le_of_ble_eq_true rfl) dX3_readLaws_2 (wX_p37_1 _) (fun H locs hP hS => ?_)
  refine lv_iconst (v := (1 : Int32)) hx hb dX3_readLaws_5 (by decide) ?_
  refine lv_istore_n (lv' := [(2, .int (1 : Int32)), (0, .ref (h 37)), (1, .ref (h 39))]) hx hb dX3_readLaws_6 rfl hl (by decide) rfl (fun ls hl => ?_)
  obtain ⟨n7, hw⟩ := hw
  exact b7  n7 (1 : Int32) (xu S 37 1 (0 : Int32)) _ _ _ (lv_sub hl [1, 2, 0] rfl) hP hS hw
abbrev rX3_clear : Room := { frames := 0, cells := 0, slots := 0, locals := 0 }
set_option maxHeartbeats 4000000 in
set_option maxRecDepth 100000 in
theorem mX3_clear (l : Launch) (D : va_G) (h : Nat → Nat) (cI cJ : ClassId) (t0 : Nat) (hh : xdis 53 h) (S : SX) (L : LX) (post : SX → Prop) (hw : kX3_clear S L  post) : Met l yX3_clear wsX3_clear rX3_clear (xPre D (wX h cI cJ) (xE D h cI cJ t0) S L [.ref (h 37)]) (va_Qv (fun (u : SX × LX) => post u.1 ∧ u.2 = L) (xB D (wX h cI cJ)) (xA 53 h)) 0 0 (xA 53 h) := by
  refine Met.ofW (cc := cX3_clear) (maxL := 1) (ret := none) (by decide) rfl ?_
  intro p e s m args below meth c s₁ B hml hv
  obtain ⟨hargs, hP, hE⟩ := hv
  have hx := B.exec
  have hb := B.bytes
  have hr := B.returns
  have hlocks := B.notSynchronized
  have hts := atoms_spec (ws := wsX3_clear) B.pre
  have hown : s.vm.findClass RX3 = some m.cls := findClass_of_methodNamed B.named
  have hS : va_S (xA 53 h) s.heap s.heap [] := va_S.rf
  have hD : ∀ (S : SX) (L : LX), va_D (xA 53 h) (wX h cI cJ S L) := fun S L => wX_D hh cI cJ S L
  have hK := hE.1
  have hst : xSt (xA 53 h) (xE D h cI cJ t0) := xE_st D h cI cJ t0
  have f0 := hts (.fieldLink RX3 15 "BookOfWills$Tape" "size" "I") (by decide +kernel)
  have inX3 : ∀ w ∈ u_ws RX3 TX3 3, w ∈ wsX3_clear := fun w hw9 => List.mem_cons_of_mem _ (List.mem_append_right _ hw9)
  have hl := lv_entry ([.ref (h 37)]) (n := 1) (Nat.le_of_ble_eq_true rfl)
  have hen : entryFrame m args 1 = F0 m 0 ((lg_sl ([.ref (h 37)]) ++ List.replicate (1 - (lg_sl ([.ref (h 37)])).length) Slot.unset).toArray) [] := by rw [hargs]; exact lg_entry_eq m _ _
  rw [hen]
  generalize (lg_sl ([.ref (h 37)]) ++ List.replicate (1 - (lg_sl ([.ref (h 37)])).length) Slot.unset).toArray = ls at hl ⊢
  have hl : lv_has ls 1 [(0, .ref (h 37))] := hl
  change W p l e rX3_clear s m args below meth c s.heap [] 0 0 (MQ below (va_Qv (fun (u : SX × LX) => post u.1 ∧ u.2 = L) (xB D (wX h cI cJ)) (xA 53 h)) args s 0 0 (xA 53 h)) (F0 m 0 ls [])
  have hret : ∀ (S1 : SX) (H : Heap) (locs : List Loc) (ls : Array Slot) (pc : Nat), va_P D vwCl (wX h cI cJ S1 L) H → va_S (xA 53 h) s.heap H locs → post S1 → decode cX3_clear pc = .ok (.return_, 1) → W p l e rX3_clear s m args below meth c H locs 0 0 (MQ below (va_Qv (fun (u : SX × LX) => post u.1 ∧ u.2 = L) (xB D (wX h cI cJ)) (xA 53 h)) args s 0 0 (xA 53 h)) (F0 m pc ls []) := fun S1 H locs ls pc hP hS hw hd => W.vret hx hb hr (fun t ht hW => ⟨⟨(S1, L), rfl, ⟨hw, rfl⟩, show va_P D vwCl (wX h cI cJ S1 L) t.heap by rw [ht]; exact hP⟩, hS.F ht⟩) hS.2.2 hd
  generalize MQ below (va_Qv (fun (u : SX × LX) => post u.1 ∧ u.2 = L) (xB D (wX h cI cJ)) (xA 53 h)) args s 0 0 (xA 53 h) = Q at hret ⊢
  unfold kX3_clear at hw
  refine lv_aload_n hx hb dX3_clear_0 rfl (lv_at hl 0 rfl) ?_
  refine lv_iconst (v := (0 : Int32)) hx hb dX3_clear_1 (by decide) ?_
  refine x_put (D := D) (ci := 3) (v := .int (0 : Int32)) (ty := .int) (C := RX3) (T := TX3) (N := 3) (ws2 := wX h cI cJ (xu S 37 0 (0 : Int32)) L) hx hb hts inX3 tyX3 tyX3_ok nmX3 hown hK hP (hD _ _) hS 37 wX_37 rfl 0 (by decide) f0 (fun _ h9 => h9) rfl (by decide +kernel) rfl rfl (Nat.le_of_ble_eq_true rfl) dX3_clear_2 (wX_p37_0 _) (fun H locs hP hS => ?_)
  exact hret _ _ _ _ _ hP hS hw dX3_clear_5
abbrev rX0_takeFrom_3_39 : Room := { frames := 1, cells := 0, slots := 0, locals := 32 }
set_option maxHeartbeats 4000000 in
set_option maxRecDepth 100000 in
theorem mX0_takeFrom_3_39 (l : Launch) (D : va_G) (h : Nat → Nat) (cI cJ : ClassId) (t0 : Nat) (hh : xdis 53 h) (S : SX) (L : LX) (post : SX → Prop) (hw : kX0_takeFrom_3_39 S L  post) : Met l yX0_takeFrom wsX0_takeFrom rX0_takeFrom_3_39 (xPre D (wX h cI cJ) (xE D h cI cJ t0) S L [.ref (h 3), .ref (h 39)]) (va_Qv (fun (u : SX × LX) => post u.1 ∧ u.2 = L) (xB D (wX h cI cJ)) (xA 53 h)) 0 0 (xA 53 h) := by
  refine Met.ofW (cc := cX0_takeFrom) (maxL := 2) (ret := none) (by decide) rfl ?_
  intro p e s m args below meth c s₁ B hml hv
  obtain ⟨hargs, hP, hE⟩ := hv
  have hx := B.exec
  have hb := B.bytes
  have hr := B.returns
  have hlocks := B.notSynchronized
  have hts := atoms_spec (ws := wsX0_takeFrom) B.pre
  have hown : s.vm.findClass RX0 = some m.cls := findClass_of_methodNamed B.named
  have hS : va_S (xA 53 h) s.heap s.heap [] := va_S.rf
  have hD : ∀ (S : SX) (L : LX), va_D (xA 53 h) (wX h cI cJ S L) := fun S L => wX_D hh cI cJ S L
  have hK := hE.1
  have hst : xSt (xA 53 h) (xE D h cI cJ t0) := xE_st D h cI cJ t0
  have f0 := hts (.fieldLink RX0 9 "BookOfWills$Laws" "floor" "[I") (by decide +kernel)
  have inX0 : ∀ w ∈ u_ws RX0 TX0 4, w ∈ wsX0_takeFrom := fun w hw9 => List.mem_cons_of_mem _ (List.mem_append_right _ hw9)
  have f2 := hts (.methodLink RX0 24 arraycopyName) (by decide +kernel)
  have f3 := hts (.native arraycopyName) (by decide +kernel)
  have f4 := hts (.static arraycopyName) (by decide +kernel)
  have f5 := hts (.initialized "java/lang/System") (by decide +kernel)
  have f6 := hts (.fieldLink RX0 15 "BookOfWills$Laws" "line" "[I") (by decide +kernel)
  have f7 := hts (.fieldLink RX0 18 "BookOfWills$Laws" "keen" "[I") (by decide +kernel)
  have f8 := hts (.fieldLink RX0 21 "BookOfWills$Laws" "marks" "[I") (by decide +kernel)
  have hl := lv_entry ([.ref (h 3), .ref (h 39)]) (n := 2) (Nat.le_of_ble_eq_true rfl)
  have hen : entryFrame m args 2 = F0 m 0 ((lg_sl ([.ref (h 3), .ref (h 39)]) ++ List.replicate (2 - (lg_sl ([.ref (h 3), .ref (h 39)])).length) Slot.unset).toArray) [] := by rw [hargs]; exact lg_entry_eq m _ _
  rw [hen]
  generalize (lg_sl ([.ref (h 3), .ref (h 39)]) ++ List.replicate (2 - (lg_sl ([.ref (h 3), .ref (h 39)])).length) Slot.unset).toArray = ls at hl ⊢
  have hl : lv_has ls 2 [(0, .ref (h 3)), (1, .ref (h 39))] := hl
  change W p l e rX0_takeFrom_3_39 s m args below meth c s.heap [] 0 0 (MQ below (va_Qv (fun (u : SX × LX) => post u.1 ∧ u.2 = L) (xB D (wX h cI cJ)) (xA 53 h)) args s 0 0 (xA 53 h)) (F0 m 0 ls [])
  have hret : ∀ (S1 : SX) (H : Heap) (locs : List Loc) (ls : Array Slot) (pc : Nat), va_P D vwCl (wX h cI cJ S1 L) H → va_S (xA 53 h) s.heap H locs → post S1 → decode cX0_takeFrom pc = .ok (.return_, 1) → W p l e rX0_takeFrom_3_39 s m args below meth c H locs 0 0 (MQ below (va_Qv (fun (u : SX × LX) => post u.1 ∧ u.2 = L) (xB D (wX h cI cJ)) (xA 53 h)) args s 0 0 (xA 53 h)) (F0 m pc ls []) := fun S1 H locs ls pc hP hS hw hd => W.vret hx hb hr (fun t ht hW => ⟨⟨(S1, L), rfl, ⟨hw, rfl⟩, show va_P D vwCl (wX h cI cJ S1 L) t.heap by rw [ht]; exact hP⟩, hS.F ht⟩) hS.2.2 hd
  generalize MQ below (va_Qv (fun (u : SX × LX) => post u.1 ∧ u.2 = L) (xB D (wX h cI cJ)) (xA 53 h)) args s 0 0 (xA 53 h) = Q at hret ⊢
  unfold kX0_takeFrom_3_39 at hw
  refine lv_aload_n hx hb dX0_takeFrom_0 rfl (lv_at hl 1 rfl) ?_
  refine va_get (D := D) (ci := 0) (v := .ref (h 40)) (C := RX0) (T := TX0) (N := 4) hx hb hts inX0 hown hK hP 39 wX_39 rfl 0 (by decide) f0 (fun _ h9 => h9) rfl dX0_takeFrom_1 ?_
  refine lv_iconst (v := (0 : Int32)) hx hb dX0_takeFrom_4 (by decide) ?_
  refine lv_aload_n hx hb dX0_takeFrom_5 rfl (lv_at hl 0 rfl) ?_
  refine va_get (D := D) (ci := 0) (v := .ref (h 4)) (C := RX0) (T := TX0) (N := 4) hx hb hts inX0 hown hK hP 3 wX_3 rfl 0 (by decide) f0 (fun _ h9 => h9) rfl dX0_takeFrom_6 ?_
  refine lv_iconst (v := (0 : Int32)) hx hb dX0_takeFrom_9 (by decide) ?_
  refine lv_bipush (v := (8 : Int32)) hx hb dX0_takeFrom_10 (by decide) ?_
  obtain ⟨hi, hw⟩ := hw
  refine x_copyi (ws2 := wX h cI cJ (xcp S 4 40 (0 : Int32).toNatClampNeg (0 : Int32).toNatClampNeg (8 : Int32).toNatClampNeg) L) hx hb (hml.trans hl.1.symm) hown f2 f3 f4 f5 hK hP (hD _ _) hS 40 4 0 wX_40 wX_4 rfl hi.1 hi.2.1 hi.2.2.1 hi.2.2.2.1 hi.2.2.2.2 (Nat.le_of_ble_eq_true rfl) (Nat.le_of_ble_eq_true rfl) dX0_takeFrom_12 (wX_c4 _ _ _ _) (fun H locs hP hS => ?_)
  refine lv_aload_n hx hb dX0_takeFrom_15 rfl (lv_at hl 1 rfl) ?_
  refine va_get (D := D) (ci := 0) (v := .ref (h 41)) (C := RX0) (T := TX0) (N := 4) hx hb hts inX0 hown hK hP 39 wX_39 rfl 1 (by decide) f6 (fun _ h9 => h9) rfl dX0_takeFrom_16 ?_
  refine lv_iconst (v := (0 : Int32)) hx hb dX0_takeFrom_19 (by decide) ?_
  refine lv_aload_n hx hb dX0_takeFrom_20 rfl (lv_at hl 0 rfl) ?_
  refine va_get (D := D) (ci := 0) (v := .ref (h 5)) (C := RX0) (T := TX0) (N := 4) hx hb hts inX0 hown hK hP 3 wX_3 rfl 1 (by decide) f6 (fun _ h9 => h9) rfl dX0_takeFrom_21 ?_
  refine lv_iconst (v := (0 : Int32)) hx hb dX0_takeFrom_24 (by decide) ?_
  refine lv_bipush (v := (8 : Int32)) hx hb dX0_takeFrom_25 (by decide) ?_
  obtain ⟨hi, hw⟩ := hw
  refine x_copyi (ws2 := wX h cI cJ (xcp (xcp S 4 40 (0 : Int32).toNatClampNeg (0 : Int32).toNatClampNeg (8 : Int32).toNatClampNeg) 5 41 (0 : Int32).toNatClampNeg (0 : Int32).toNatClampNeg (8 : Int32).toNatClampNeg) L) hx hb (hml.trans hl.1.symm) hown f2 f3 f4 f5 hK hP (hD _ _) hS 41 5 0 wX_41 wX_5 rfl hi.1 hi.2.1 hi.2.2.1 hi.2.2.2.1 hi.2.2.2.2 (Nat.le_of_ble_eq_true rfl) (Nat.le_of_ble_eq_true rfl) dX0_takeFrom_27 (wX_c5 _ _ _ _) (fun H locs hP hS => ?_)
  refine lv_aload_n hx hb dX0_takeFrom_30 rfl (lv_at hl 1 rfl) ?_
  refine va_get (D := D) (ci := 0) (v := .ref (h 42)) (C := RX0) (T := TX0) (N := 4) hx hb hts inX0 hown hK hP 39 wX_39 rfl 2 (by decide) f7 (fun _ h9 => h9) rfl dX0_takeFrom_31 ?_
  refine lv_iconst (v := (0 : Int32)) hx hb dX0_takeFrom_34 (by decide) ?_
  refine lv_aload_n hx hb dX0_takeFrom_35 rfl (lv_at hl 0 rfl) ?_
  refine va_get (D := D) (ci := 0) (v := .ref (h 6)) (C := RX0) (T := TX0) (N := 4) hx hb hts inX0 hown hK hP 3 wX_3 rfl 2 (by decide) f7 (fun _ h9 => h9) rfl dX0_takeFrom_36 ?_
  refine lv_iconst (v := (0 : Int32)) hx hb dX0_takeFrom_39 (by decide) ?_
  refine lv_bipush (v := (8 : Int32)) hx hb dX0_takeFrom_40 (by decide) ?_
  obtain ⟨hi, hw⟩ := hw
  refine x_copyi (ws2 := wX h cI cJ (xcp (xcp (xcp S 4 40 (0 : Int32).toNatClampNeg (0 : Int32).toNatClampNeg (8 : Int32).toNatClampNeg) 5 41 (0 : Int32).toNatClampNeg (0 : Int32).toNatClampNeg (8 : Int32).toNatClampNeg) 6 42 (0 : Int32).toNatClampNeg (0 : Int32).toNatClampNeg (8 : Int32).toNatClampNeg) L) hx hb (hml.trans hl.1.symm) hown f2 f3 f4 f5 hK hP (hD _ _) hS 42 6 0 wX_42 wX_6 rfl hi.1 hi.2.1 hi.2.2.1 hi.2.2.2.1 hi.2.2.2.2 (Nat.le_of_ble_eq_true rfl) (Nat.le_of_ble_eq_true rfl) dX0_takeFrom_42 (wX_c6 _ _ _ _) (fun H locs hP hS => ?_)
  refine lv_aload_n hx hb dX0_takeFrom_45 rfl (lv_at hl 1 rfl) ?_
  refine va_get (D := D) (ci := 0) (v := .ref (h 43)) (C := RX0) (T := TX0) (N := 4) hx hb hts inX0 hown hK hP 39 wX_39 rfl 3 (by decide) f8 (fun _ h9 => h9) rfl dX0_takeFrom_46 ?_
  refine lv_iconst (v := (0 : Int32)) hx hb dX0_takeFrom_49 (by decide) ?_
  refine lv_aload_n hx hb dX0_takeFrom_50 rfl (lv_at hl 0 rfl) ?_
  refine va_get (D := D) (ci := 0) (v := .ref (h 7)) (C := RX0) (T := TX0) (N := 4) hx hb hts inX0 hown hK hP 3 wX_3 rfl 3 (by decide) f8 (fun _ h9 => h9) rfl dX0_takeFrom_51 ?_
  refine lv_iconst (v := (0 : Int32)) hx hb dX0_takeFrom_54 (by decide) ?_
  refine lv_bipush (v := (8 : Int32)) hx hb dX0_takeFrom_55 (by decide) ?_
  obtain ⟨hi, hw⟩ := hw
  refine x_copyi (ws2 := wX h cI cJ (xcp (xcp (xcp (xcp S 4 40 (0 : Int32).toNatClampNeg (0 : Int32).toNatClampNeg (8 : Int32).toNatClampNeg) 5 41 (0 : Int32).toNatClampNeg (0 : Int32).toNatClampNeg (8 : Int32).toNatClampNeg) 6 42 (0 : Int32).toNatClampNeg (0 : Int32).toNatClampNeg (8 : Int32).toNatClampNeg) 7 43 (0 : Int32).toNatClampNeg (0 : Int32).toNatClampNeg (8 : Int32).toNatClampNeg) L) hx hb (hml.trans hl.1.symm) hown f2 f3 f4 f5 hK hP (hD _ _) hS 43 7 0 wX_43 wX_7 rfl hi.1 hi.2.1 hi.2.2.1 hi.2.2.2.1 hi.2.2.2.2 (Nat.le_of_ble_eq_true rfl) (Nat.le_of_ble_eq_true rfl) dX0_takeFrom_57 (wX_c7 _ _ _ _) (fun H locs hP hS => ?_)
  exact hret _ _ _ _ _ hP hS hw dX0_takeFrom_60
abbrev rX4_hasRoomFor_44 : Room := { frames := 0, cells := 0, slots := 0, locals := 0 }
set_option maxHeartbeats 4000000 in
set_option maxRecDepth 100000 in
theorem mX4_hasRoomFor_44 (l : Launch) (D : va_G) (h : Nat → Nat) (cI cJ : ClassId) (t0 : Nat) (hh : xdis 53 h) (S : SX) (L : LX) (v1 : Int32) (post : Int32 → Prop) (hw : kX4_hasRoomFor_44 S L v1 post) : Met l yX4_hasRoomFor wsX4_hasRoomFor rX4_hasRoomFor_44 (xPre D (wX h cI cJ) (xE D h cI cJ t0) S L [.ref (h 44), .int v1]) (va_Qi (fun (r : Int32) (u : SX × LX) => post r ∧ u.1 = S ∧ u.2 = L) (xB D (wX h cI cJ)) (xA 53 h)) 0 0 (xA 53 h) := by
  refine Met.ofW (cc := cX4_hasRoomFor) (maxL := 2) (ret := (some .boolean)) (by decide) rfl ?_
  intro p e s m args below meth c s₁ B hml hv
  obtain ⟨hargs, hP, hE⟩ := hv
  have hx := B.exec
  have hb := B.bytes
  have hr := B.returns
  have hlocks := B.notSynchronized
  have hts := atoms_spec (ws := wsX4_hasRoomFor) B.pre
  have hown : s.vm.findClass RX4 = some m.cls := findClass_of_methodNamed B.named
  have hS : va_S (xA 53 h) s.heap s.heap [] := va_S.rf
  have hD : ∀ (S : SX) (L : LX), va_D (xA 53 h) (wX h cI cJ S L) := fun S L => wX_D hh cI cJ S L
  have hK := hE.1
  have hst : xSt (xA 53 h) (xE D h cI cJ t0) := xE_st D h cI cJ t0
  have f0 := hts (.fieldLink RX4 24 "BookOfWills$Wills" "size" "I") (by decide +kernel)
  have inX4 : ∀ w ∈ u_ws RX4 TX4 5, w ∈ wsX4_hasRoomFor := fun w hw9 => List.mem_cons_of_mem _ (List.mem_append_right _ hw9)
  have hl := lv_entry ([.ref (h 44), .int v1]) (n := 2) (Nat.le_of_ble_eq_true rfl)
  have hen : entryFrame m args 2 = F0 m 0 ((lg_sl ([.ref (h 44), .int v1]) ++ List.replicate (2 - (lg_sl ([.ref (h 44), .int v1])).length) Slot.unset).toArray) [] := by rw [hargs]; exact lg_entry_eq m _ _
  rw [hen]
  generalize (lg_sl ([.ref (h 44), .int v1]) ++ List.replicate (2 - (lg_sl ([.ref (h 44), .int v1])).length) Slot.unset).toArray = ls at hl ⊢
  have hl : lv_has ls 2 [(0, .ref (h 44)), (1, .int v1)] := hl
  change W p l e rX4_hasRoomFor_44 s m args below meth c s.heap [] 0 0 (MQ below (va_Qi (fun (r : Int32) (u : SX × LX) => post r ∧ u.1 = S ∧ u.2 = L) (xB D (wX h cI cJ)) (xA 53 h)) args s 0 0 (xA 53 h)) (F0 m 0 ls [])
  have hret : ∀ (r : Int32) (H : Heap) (locs : List Loc) (ls : Array Slot) (pc : Nat), va_P D vwCl (wX h cI cJ S L) H → va_S (xA 53 h) s.heap H locs → post r → narrow .boolean (.int r) = .int r → decode cX4_hasRoomFor pc = .ok (.ireturn, 1) → W p l e rX4_hasRoomFor_44 s m args below meth c H locs 0 0 (MQ below (va_Qi (fun (r : Int32) (u : SX × LX) => post r ∧ u.1 = S ∧ u.2 = L) (xB D (wX h cI cJ)) (xA 53 h)) args s 0 0 (xA 53 h)) (F0 m pc ls [.int r]) := fun r H locs ls pc hP hS hw hna hd => W.zret hx hb hr hna (fun t ht hW => ⟨⟨r, (S, L), rfl, ⟨hw, rfl, rfl⟩, show va_P D vwCl (wX h cI cJ S L) t.heap by rw [ht]; exact hP⟩, hS.F ht⟩) hS.2.2 hd
  generalize MQ below (va_Qi (fun (r : Int32) (u : SX × LX) => post r ∧ u.1 = S ∧ u.2 = L) (xB D (wX h cI cJ)) (xA 53 h)) args s 0 0 (xA 53 h) = Q at hret ⊢
  unfold kX4_hasRoomFor_44 at hw
  refine lv_iload_n hx hb dX4_hasRoomFor_0 rfl (lv_at hl 1 rfl) ?_
  refine lv_bipush (v := (24 : Int32)) hx hb dX4_hasRoomFor_1 (by decide) ?_
  refine lv_aload_n hx hb dX4_hasRoomFor_3 rfl (lv_at hl 0 rfl) ?_
  refine va_get (D := D) (ci := 4) (v := .int (S 44 0)) (C := RX4) (T := TX4) (N := 5) hx hb hts inX4 hown hK hP 44 wX_44 rfl 0 (by decide) f0 (fun _ h9 => h9) rfl dX4_hasRoomFor_4 ?_
  refine lv_isub hx hb dX4_hasRoomFor_7 ?_
  refine lv_icmp_gt (tgt := 15) hx hb dX4_hasRoomFor_8 (by decide) (fun hc => ?_) (fun hc => ?_)
  · replace hw := And.left hw hc
    refine lv_iconst (v := (0 : Int32)) hx hb dX4_hasRoomFor_15 (by decide) ?_
    exact hret _ _ _ _ _ hP hS hw rfl dX4_hasRoomFor_16
  · replace hw := And.right hw hc
    refine lv_iconst (v := (1 : Int32)) hx hb dX4_hasRoomFor_11 (by decide) ?_
    refine lv_goto (tgt := 16) hx hb dX4_hasRoomFor_12 (by decide) ?_
    exact hret _ _ _ _ _ hP hS hw rfl dX4_hasRoomFor_16
abbrev rX4_add_44 : Room := { frames := 1, cells := 0, slots := 0, locals := 21 }
set_option maxHeartbeats 4000000 in
set_option maxRecDepth 100000 in
theorem mX4_add_44 (l : Launch) (D : va_G) (h : Nat → Nat) (cI cJ : ClassId) (t0 : Nat) (hh : xdis 53 h) (S : SX) (L : LX) (v1 : Int32) (v2 : Int32) (v3 : Int32) (v4 : Int32) (post : SX → Prop) (hw : kX4_add_44 S L v1 v2 v3 v4 post) : Met l yX4_add wsX4_add rX4_add_44 (xPre D (wX h cI cJ) (xE D h cI cJ t0) S L [.ref (h 44), .int v1, .int v2, .int v3, .int v4]) (va_Qv (fun (u : SX × LX) => post u.1 ∧ u.2 = L) (xB D (wX h cI cJ)) (xA 53 h)) 0 0 (xA 53 h) := by
  refine Met.ofW (cc := cX4_add) (maxL := 6) (ret := none) (by decide) rfl ?_
  intro p e s m args below meth c s₁ B hml hv
  obtain ⟨hargs, hP, hE⟩ := hv
  have hx := B.exec
  have hb := B.bytes
  have hr := B.returns
  have hlocks := B.notSynchronized
  have hts := atoms_spec (ws := wsX4_add) B.pre
  have hown : s.vm.findClass RX4 = some m.cls := findClass_of_methodNamed B.named
  have hS : va_S (xA 53 h) s.heap s.heap [] := va_S.rf
  have hD : ∀ (S : SX) (L : LX), va_D (xA 53 h) (wX h cI cJ S L) := fun S L => wX_D hh cI cJ S L
  have hK := hE.1
  have hst : xSt (xA 53 h) (xE D h cI cJ t0) := xE_st D h cI cJ t0
  have f0 := hts (.fieldLink RX4 24 "BookOfWills$Wills" "size" "I") (by decide +kernel)
  have inX4 : ∀ w ∈ u_ws RX4 TX4 5, w ∈ wsX4_add := fun w hw9 => List.mem_cons_of_mem _ (List.mem_append_right _ hw9)
  have f2 := hts (.fieldLink RX4 21 "BookOfWills$Wills" "had" "[I") (by decide +kernel)
  have f3 := hts (.fieldLink RX4 9 "BookOfWills$Wills" "year" "[I") (by decide +kernel)
  have f4 := hts (.fieldLink RX4 15 "BookOfWills$Wills" "age" "[I") (by decide +kernel)
  have f5 := hts (.fieldLink RX4 18 "BookOfWills$Wills" "sex" "[I") (by decide +kernel)
  have hl := lv_entry ([.ref (h 44), .int v1, .int v2, .int v3, .int v4]) (n := 6) (Nat.le_of_ble_eq_true rfl)
  have hen : entryFrame m args 6 = F0 m 0 ((lg_sl ([.ref (h 44), .int v1, .int v2, .int v3, .int v4]) ++ List.replicate (6 - (lg_sl ([.ref (h 44), .int v1, .int v2, .int v3, .int v4])).length) Slot.unset).toArray) [] := by rw [hargs]; exact lg_entry_eq m _ _
  rw [hen]
  generalize (lg_sl ([.ref (h 44), .int v1, .int v2, .int v3, .int v4]) ++ List.replicate (6 - (lg_sl ([.ref (h 44), .int v1, .int v2, .int v3, .int v4])).length) Slot.unset).toArray = ls at hl ⊢
  have hl : lv_has ls 6 [(0, .ref (h 44)), (1, .int v1), (2, .int v2), (3, .int v3), (4, .int v4)] := hl
  change W p l e rX4_add_44 s m args below meth c s.heap [] 0 0 (MQ below (va_Qv (fun (u : SX × LX) => post u.1 ∧ u.2 = L) (xB D (wX h cI cJ)) (xA 53 h)) args s 0 0 (xA 53 h)) (F0 m 0 ls [])
  have hret : ∀ (S1 : SX) (H : Heap) (locs : List Loc) (ls : Array Slot) (pc : Nat), va_P D vwCl (wX h cI cJ S1 L) H → va_S (xA 53 h) s.heap H locs → post S1 → decode cX4_add pc = .ok (.return_, 1) → W p l e rX4_add_44 s m args below meth c H locs 0 0 (MQ below (va_Qv (fun (u : SX × LX) => post u.1 ∧ u.2 = L) (xB D (wX h cI cJ)) (xA 53 h)) args s 0 0 (xA 53 h)) (F0 m pc ls []) := fun S1 H locs ls pc hP hS hw hd => W.vret hx hb hr (fun t ht hW => ⟨⟨(S1, L), rfl, ⟨hw, rfl⟩, show va_P D vwCl (wX h cI cJ S1 L) t.heap by rw [ht]; exact hP⟩, hS.F ht⟩) hS.2.2 hd
  generalize MQ below (va_Qv (fun (u : SX × LX) => post u.1 ∧ u.2 = L) (xB D (wX h cI cJ)) (xA 53 h)) args s 0 0 (xA 53 h) = Q at hret ⊢
  have b55 : ∀  (n55 : Nat) (v5 : Int32) (S : SX) (H : Heap) (locs : List Loc) (ls : Array Slot), lv_has ls 6 [(0, .ref (h 44)), (5, .int v5)] → va_P D vwCl (wX h cI cJ S L) H → va_S (xA 53 h) s.heap H locs → kX4_add_44_b55 L v1 v2 v3 v4 post n55 v5 S → W p l e rX4_add_44 s m args below meth c H locs 0 0 Q (F0 m 55 ls []) := by
    intro n55
    induction n55 with
    | zero => intro v5 S H locs ls hl hP hS hw; exact absurd hw id
    | succ n55 i55 =>
      intro v5 S H locs ls hl hP hS hw
      unfold kX4_add_44_b55 at hw
      refine lv_iload hx hb dX4_add_55 (lv_at hl 1 rfl) ?_
      refine lv_iconst (v := (4 : Int32)) hx hb dX4_add_57 (by decide) ?_
      refine lv_icmp_ge (tgt := 82) hx hb dX4_add_58 (by decide) (fun hc => ?_) (fun hc => ?_)
      · replace hw := And.left hw hc
        refine lv_aload_n hx hb dX4_add_82 rfl (lv_at hl 0 rfl) ?_
        refine lv_dup hx hb dX4_add_83 rfl ?_
        refine va_get (D := D) (ci := 4) (v := .int (S 44 0)) (C := RX4) (T := TX4) (N := 5) hx hb hts inX4 hown hK hP 44 wX_44 rfl 0 (by decide) f0 (fun _ h9 => h9) rfl dX4_add_84 ?_
        refine lv_iconst (v := (1 : Int32)) hx hb dX4_add_87 (by decide) ?_
        refine lv_iadd hx hb dX4_add_88 ?_
        refine x_put (D := D) (ci := 4) (v := .int ((S 44 0) + (1 : Int32))) (ty := .int) (C := RX4) (T := TX4) (N := 5) (ws2 := wX h cI cJ (xu S 44 0 ((S 44 0) + (1 : Int32))) L) hx hb hts inX4 tyX4 tyX4_ok nmX4 hown hK hP (hD _ _) hS 44 wX_44 rfl 0 (by decide) f0 (fun _ h9 => h9) rfl (by decide +kernel) rfl rfl (Nat.le_of_ble_eq_true rfl) dX4_add_89 (wX_p44_0 _) (fun H locs hP hS => ?_)
        exact hret _ _ _ _ _ hP hS hw dX4_add_92
      · replace hw := And.right hw hc
        refine lv_aload_n hx hb dX4_add_61 rfl (lv_at hl 0 rfl) ?_
        refine va_get (D := D) (ci := 4) (v := .ref (h 48)) (C := RX4) (T := TX4) (N := 5) hx hb hts inX4 hown hK hP 44 wX_44 rfl 4 (by decide) f2 (fun _ h9 => h9) rfl dX4_add_62 ?_
        refine lv_aload_n hx hb dX4_add_65 rfl (lv_at hl 0 rfl) ?_
        refine va_get (D := D) (ci := 4) (v := .int (S 44 0)) (C := RX4) (T := TX4) (N := 5) hx hb hts inX4 hown hK hP 44 wX_44 rfl 0 (by decide) f0 (fun _ h9 => h9) rfl dX4_add_66 ?_
        refine lv_iconst (v := (4 : Int32)) hx hb dX4_add_69 (by decide) ?_
        refine lv_imul hx hb dX4_add_70 ?_
        refine lv_iload hx hb dX4_add_71 (lv_at hl 1 rfl) ?_
        refine lv_iadd hx hb dX4_add_73 ?_
        refine lv_iconst (v := (0 : Int32)) hx hb dX4_add_74 (by decide) ?_
        obtain ⟨hi, hw⟩ := hw
        refine x_iast (ws2 := wX h cI cJ (xu S 48 (((S 44 0) * (4 : Int32)) + v5).toNatClampNeg (0 : Int32)) L) hx hb hK hP (hD _ _) hS 48 0 wX_48 rfl hi dX4_add_75 (wX_u48 _ _) (fun H locs hP hS => ?_)
        refine lv_iinc (v := v5 + (1 : Int32)) (lv' := [(5, .int (v5 + (1 : Int32))), (0, .ref (h 44))]) hx hb dX4_add_76 hl (k := 1) rfl rfl (by decide) rfl (fun ls hl => ?_)
        refine lv_goto (tgt := 55) hx hb dX4_add_79 (by decide) ?_
        exact i55 (v5 + (1 : Int32)) (xu S 48 (((S 44 0) * (4 : Int32)) + v5).toNatClampNeg (0 : Int32)) _ _ _ (lv_sub hl [1, 0] rfl) hP hS hw
  unfold kX4_add_44 at hw
  refine lv_aload_n hx hb dX4_add_0 rfl (lv_at hl 0 rfl) ?_
  refine lv_iconst (v := (1 : Int32)) hx hb dX4_add_1 (by decide) ?_
  refine xVi0 (As := [.int (1 : Int32)]) (rest := []) hst hE hP hS ⟨hx, hb, hml, hown, hts⟩ (va_recv hK hP (ci := 4) (q := (RX4, TX4, 5)) rfl wX_44) (mX4_hasRoomFor_44 l D h cI cJ t0 hh S L (1 : Int32) _ hw) (cwV 1 hts gX4_add_X4_hasRoomFor rfl rfl rfl (by decide +kernel) ⟨Nat.le_of_ble_eq_true rfl, Nat.le_of_ble_eq_true rfl⟩) rfl hl.1 rfl (Nat.le_of_ble_eq_true rfl) dX4_add_2 ⟨Nat.zero_le _, Nat.zero_le _⟩ (fun r2 H locs hw hP hS => ?_)
  refine lv_if_ne (tgt := 9) hx hb dX4_add_5 (by decide) (fun hc => ?_) (fun hc => ?_)
  · replace hw := And.right hw hc
    refine lv_aload_n hx hb dX4_add_9 rfl (lv_at hl 0 rfl) ?_
    refine va_get (D := D) (ci := 4) (v := .ref (h 45)) (C := RX4) (T := TX4) (N := 5) hx hb hts inX4 hown hK hP 44 wX_44 rfl 1 (by decide) f3 (fun _ h9 => h9) rfl dX4_add_10 ?_
    refine lv_aload_n hx hb dX4_add_13 rfl (lv_at hl 0 rfl) ?_
    refine va_get (D := D) (ci := 4) (v := .int (S 44 0)) (C := RX4) (T := TX4) (N := 5) hx hb hts inX4 hown hK hP 44 wX_44 rfl 0 (by decide) f0 (fun _ h9 => h9) rfl dX4_add_14 ?_
    refine lv_iload_n hx hb dX4_add_17 rfl (lv_at hl 1 rfl) ?_
    obtain ⟨hi, hw⟩ := hw
    refine x_iast (ws2 := wX h cI cJ (xu S 45 (S 44 0).toNatClampNeg v1) L) hx hb hK hP (hD _ _) hS 45 0 wX_45 rfl hi dX4_add_18 (wX_u45 _ _) (fun H locs hP hS => ?_)
    refine lv_aload_n hx hb dX4_add_19 rfl (lv_at hl 0 rfl) ?_
    refine va_get (D := D) (ci := 4) (v := .ref (h 46)) (C := RX4) (T := TX4) (N := 5) hx hb hts inX4 hown hK hP 44 wX_44 rfl 2 (by decide) f4 (fun _ h9 => h9) rfl dX4_add_20 ?_
    refine lv_aload_n hx hb dX4_add_23 rfl (lv_at hl 0 rfl) ?_
    refine va_get (D := D) (ci := 4) (v := .int ((xu S 45 (S 44 0).toNatClampNeg v1) 44 0)) (C := RX4) (T := TX4) (N := 5) hx hb hts inX4 hown hK hP 44 wX_44 rfl 0 (by decide) f0 (fun _ h9 => h9) rfl dX4_add_24 ?_
    refine lv_iload_n hx hb dX4_add_27 rfl (lv_at hl 2 rfl) ?_
    obtain ⟨hi, hw⟩ := hw
    refine x_iast (ws2 := wX h cI cJ (xu (xu S 45 (S 44 0).toNatClampNeg v1) 46 ((xu S 45 (S 44 0).toNatClampNeg v1) 44 0).toNatClampNeg v2) L) hx hb hK hP (hD _ _) hS 46 0 wX_46 rfl hi dX4_add_28 (wX_u46 _ _) (fun H locs hP hS => ?_)
    refine lv_aload_n hx hb dX4_add_29 rfl (lv_at hl 0 rfl) ?_
    refine va_get (D := D) (ci := 4) (v := .ref (h 47)) (C := RX4) (T := TX4) (N := 5) hx hb hts inX4 hown hK hP 44 wX_44 rfl 3 (by decide) f5 (fun _ h9 => h9) rfl dX4_add_30 ?_
    refine lv_aload_n hx hb dX4_add_33 rfl (lv_at hl 0 rfl) ?_
    refine va_get (D := D) (ci := 4) (v := .int ((xu (xu S 45 (S 44 0).toNatClampNeg v1) 46 ((xu S 45 (S 44 0).toNatClampNeg v1) 44 0).toNatClampNeg v2) 44 0)) (C := RX4) (T := TX4) (N := 5) hx hb hts inX4 hown hK hP 44 wX_44 rfl 0 (by decide) f0 (fun _ h9 => h9) rfl dX4_add_34 ?_
    refine lv_iload_n hx hb dX4_add_37 rfl (lv_at hl 3 rfl) ?_
    obtain ⟨hi, hw⟩ := hw
    refine x_iast (ws2 := wX h cI cJ (xu (xu (xu S 45 (S 44 0).toNatClampNeg v1) 46 ((xu S 45 (S 44 0).toNatClampNeg v1) 44 0).toNatClampNeg v2) 47 ((xu (xu S 45 (S 44 0).toNatClampNeg v1) 46 ((xu S 45 (S 44 0).toNatClampNeg v1) 44 0).toNatClampNeg v2) 44 0).toNatClampNeg v3) L) hx hb hK hP (hD _ _) hS 47 0 wX_47 rfl hi dX4_add_38 (wX_u47 _ _) (fun H locs hP hS => ?_)
    refine lv_aload_n hx hb dX4_add_39 rfl (lv_at hl 0 rfl) ?_
    refine va_get (D := D) (ci := 4) (v := .ref (h 48)) (C := RX4) (T := TX4) (N := 5) hx hb hts inX4 hown hK hP 44 wX_44 rfl 4 (by decide) f2 (fun _ h9 => h9) rfl dX4_add_40 ?_
    refine lv_aload_n hx hb dX4_add_43 rfl (lv_at hl 0 rfl) ?_
    refine va_get (D := D) (ci := 4) (v := .int ((xu (xu (xu S 45 (S 44 0).toNatClampNeg v1) 46 ((xu S 45 (S 44 0).toNatClampNeg v1) 44 0).toNatClampNeg v2) 47 ((xu (xu S 45 (S 44 0).toNatClampNeg v1) 46 ((xu S 45 (S 44 0).toNatClampNeg v1) 44 0).toNatClampNeg v2) 44 0).toNatClampNeg v3) 44 0)) (C := RX4) (T := TX4) (N := 5) hx hb hts inX4 hown hK hP 44 wX_44 rfl 0 (by decide) f0 (fun _ h9 => h9) rfl dX4_add_44 ?_
    refine lv_iconst (v := (4 : Int32)) hx hb dX4_add_47 (by decide) ?_
    refine lv_imul hx hb dX4_add_48 ?_
    refine lv_iload hx hb dX4_add_49 (lv_at hl 4 rfl) ?_
    obtain ⟨hi, hw⟩ := hw
    refine x_iast (ws2 := wX h cI cJ (xu (xu (xu (xu S 45 (S 44 0).toNatClampNeg v1) 46 ((xu S 45 (S 44 0).toNatClampNeg v1) 44 0).toNatClampNeg v2) 47 ((xu (xu S 45 (S 44 0).toNatClampNeg v1) 46 ((xu S 45 (S 44 0).toNatClampNeg v1) 44 0).toNatClampNeg v2) 44 0).toNatClampNeg v3) 48 (((xu (xu (xu S 45 (S 44 0).toNatClampNeg v1) 46 ((xu S 45 (S 44 0).toNatClampNeg v1) 44 0).toNatClampNeg v2) 47 ((xu (xu S 45 (S 44 0).toNatClampNeg v1) 46 ((xu S 45 (S 44 0).toNatClampNeg v1) 44 0).toNatClampNeg v2) 44 0).toNatClampNeg v3) 44 0) * (4 : Int32)).toNatClampNeg v4) L) hx hb hK hP (hD _ _) hS 48 0 wX_48 rfl hi dX4_add_51 (wX_u48 _ _) (fun H locs hP hS => ?_)
    refine lv_iconst (v := (1 : Int32)) hx hb dX4_add_52 (by decide) ?_
    refine lv_istore (lv' := [(5, .int (1 : Int32)), (0, .ref (h 44)), (1, .int v1), (2, .int v2), (3, .int v3), (4, .int v4)]) hx hb dX4_add_53 hl (by decide) rfl (fun ls hl => ?_)
    obtain ⟨n55, hw⟩ := hw
    exact b55  n55 (1 : Int32) (xu (xu (xu (xu S 45 (S 44 0).toNatClampNeg v1) 46 ((xu S 45 (S 44 0).toNatClampNeg v1) 44 0).toNatClampNeg v2) 47 ((xu (xu S 45 (S 44 0).toNatClampNeg v1) 46 ((xu S 45 (S 44 0).toNatClampNeg v1) 44 0).toNatClampNeg v2) 44 0).toNatClampNeg v3) 48 (((xu (xu (xu S 45 (S 44 0).toNatClampNeg v1) 46 ((xu S 45 (S 44 0).toNatClampNeg v1) 44 0).toNatClampNeg v2) 47 ((xu (xu S 45 (S 44 0).toNatClampNeg v1) 46 ((xu S 45 (S 44 0).toNatClampNeg v1) 44 0).toNatClampNeg v2) 44 0).toNatClampNeg v3) 44 0) * (4 : Int32)).toNatClampNeg v4) _ _ _ (lv_sub hl [1, 0] rfl) hP hS hw
  · replace hw := And.left hw hc
    exact hret _ _ _ _ _ hP hS hw dX4_add_8
abbrev rX3_readThings : Room := { frames := 3, cells := 0, slots := 0, locals := 77 }
set_option maxHeartbeats 4000000 in
set_option maxRecDepth 100000 in
theorem mX3_readThings (l : Launch) (D : va_G) (h : Nat → Nat) (cI cJ : ClassId) (t0 : Nat) (hh : xdis 53 h) (S : SX) (L : LX) (post : Int32 → SX → Prop) (hw : kX3_readThings S L  post) : Met l yX3_readThings wsX3_readThings rX3_readThings (xPre D (wX h cI cJ) (xE D h cI cJ t0) S L [.ref (h 37), .ref (h 44)]) (va_Qi (fun (r : Int32) (u : SX × LX) => post r u.1 ∧ u.2 = L) (xB D (wX h cI cJ)) (xA 53 h)) 0 0 (xA 53 h) := by
  refine Met.ofW (cc := cX3_readThings) (maxL := 6) (ret := (some .boolean)) (by decide) rfl ?_
  intro p e s m args below meth c s₁ B hml hv
  obtain ⟨hargs, hP, hE⟩ := hv
  have hx := B.exec
  have hb := B.bytes
  have hr := B.returns
  have hlocks := B.notSynchronized
  have hts := atoms_spec (ws := wsX3_readThings) B.pre
  have hown : s.vm.findClass RX3 = some m.cls := findClass_of_methodNamed B.named
  have hS : va_S (xA 53 h) s.heap s.heap [] := va_S.rf
  have hD : ∀ (S : SX) (L : LX), va_D (xA 53 h) (wX h cI cJ S L) := fun S L => wX_D hh cI cJ S L
  have hK := hE.1
  have hst : xSt (xA 53 h) (xE D h cI cJ t0) := xE_st D h cI cJ t0
  have f0 := hts (.fieldLink RX3 75 "BookOfWills$Wills" "size" "I") (by decide +kernel)
  have inX4 : ∀ w ∈ u_ws RX4 TX4 5, w ∈ wsX3_readThings := fun w hw9 => List.mem_cons_of_mem _ (List.mem_append_left _ (List.mem_append_right _ hw9))
  have f2 := hts (.fieldLink RX3 76 "BookOfWills$Wills" "had" "[I") (by decide +kernel)
  have hl := lv_entry ([.ref (h 37), .ref (h 44)]) (n := 6) (Nat.le_of_ble_eq_true rfl)
  have hen : entryFrame m args 6 = F0 m 0 ((lg_sl ([.ref (h 37), .ref (h 44)]) ++ List.replicate (6 - (lg_sl ([.ref (h 37), .ref (h 44)])).length) Slot.unset).toArray) [] := by rw [hargs]; exact lg_entry_eq m _ _
  rw [hen]
  generalize (lg_sl ([.ref (h 37), .ref (h 44)]) ++ List.replicate (6 - (lg_sl ([.ref (h 37), .ref (h 44)])).length) Slot.unset).toArray = ls at hl ⊢
  have hl : lv_has ls 6 [(0, .ref (h 37)), (1, .ref (h 44))] := hl
  change W p l e rX3_readThings s m args below meth c s.heap [] 0 0 (MQ below (va_Qi (fun (r : Int32) (u : SX × LX) => post r u.1 ∧ u.2 = L) (xB D (wX h cI cJ)) (xA 53 h)) args s 0 0 (xA 53 h)) (F0 m 0 ls [])
  have hret : ∀ (r : Int32) (S1 : SX) (H : Heap) (locs : List Loc) (ls : Array Slot) (pc : Nat), va_P D vwCl (wX h cI cJ S1 L) H → va_S (xA 53 h) s.heap H locs → post r S1 → narrow .boolean (.int r) = .int r → decode cX3_readThings pc = .ok (.ireturn, 1) → W p l e rX3_readThings s m args below meth c H locs 0 0 (MQ below (va_Qi (fun (r : Int32) (u : SX × LX) => post r u.1 ∧ u.2 = L) (xB D (wX h cI cJ)) (xA 53 h)) args s 0 0 (xA 53 h)) (F0 m pc ls [.int r]) := fun r S1 H locs ls pc hP hS hw hna hd => W.zret hx hb hr hna (fun t ht hW => ⟨⟨r, (S1, L), rfl, ⟨hw, rfl⟩, show va_P D vwCl (wX h cI cJ S1 L) t.heap by rw [ht]; exact hP⟩, hS.F ht⟩) hS.2.2 hd
  generalize MQ below (va_Qi (fun (r : Int32) (u : SX × LX) => post r u.1 ∧ u.2 = L) (xB D (wX h cI cJ)) (xA 53 h)) args s 0 0 (xA 53 h) = Q at hret ⊢
  unfold kX3_readThings at hw
  refine lv_aload_n hx hb dX3_readThings_0 rfl (lv_at hl 0 rfl) ?_
  refine lv_bipush (v := (108 : Int32)) hx hb dX3_readThings_1 (by decide) ?_
  refine lv_sipush (v := (9999 : Int32)) hx hb dX3_readThings_3 (by decide) ?_
  refine xVi1 (As := [.int (108 : Int32), .int (9999 : Int32)]) (rest := []) hst hE hP hS ⟨hx, hb, hml, hown, hts⟩ (va_recv hK hP (ci := 3) (q := (RX3, TX3, 3)) rfl wX_37) (mX3_readPerhaps l D h cI cJ t0 hh S L (108 : Int32) (9999 : Int32) _ hw) (cwV 2 hts gX3_readThings_X3_readPerhaps rfl rfl rfl (by decide +kernel) ⟨Nat.le_of_ble_eq_true rfl, Nat.le_of_ble_eq_true rfl⟩) rfl hl.1 rfl (Nat.le_of_ble_eq_true rfl) dX3_readThings_6 ⟨Nat.zero_le _, Nat.zero_le _⟩ (fun r6 S6 H locs hw hP hS => ?_)
  refine lv_istore_n (lv' := [(2, .int r6), (0, .ref (h 37)), (1, .ref (h 44))]) hx hb dX3_readThings_9 rfl hl (by decide) rfl (fun ls hl => ?_)
  refine lv_iload_n hx hb dX3_readThings_10 rfl (lv_at hl 0 rfl) ?_
  refine lv_iconst (v := (-1 : Int32)) hx hb dX3_readThings_11 (by decide) ?_
  refine lv_icmp_ne (tgt := 17) hx hb dX3_readThings_12 (by decide) (fun hc => ?_) (fun hc => ?_)
  · replace hw := And.right hw hc
    refine lv_aload_n hx hb dX3_readThings_17 rfl (lv_at hl 1 rfl) ?_
    refine lv_bipush (v := (103 : Int32)) hx hb dX3_readThings_18 (by decide) ?_
    refine lv_sipush (v := (9999 : Int32)) hx hb dX3_readThings_20 (by decide) ?_
    refine xVi1 (As := [.int (103 : Int32), .int (9999 : Int32)]) (rest := []) hst hE hP hS ⟨hx, hb, hml, hown, hts⟩ (va_recv hK hP (ci := 3) (q := (RX3, TX3, 3)) rfl wX_37) (mX3_readPerhaps l D h cI cJ t0 hh S6 L (103 : Int32) (9999 : Int32) _ hw) (cwV 2 hts gX3_readThings_X3_readPerhaps rfl rfl rfl (by decide +kernel) ⟨Nat.le_of_ble_eq_true rfl, Nat.le_of_ble_eq_true rfl⟩) rfl hl.1 rfl (Nat.le_of_ble_eq_true rfl) dX3_readThings_23 ⟨Nat.zero_le _, Nat.zero_le _⟩ (fun r23 S23 H locs hw hP hS => ?_)
    refine lv_istore_n (lv' := [(3, .int r23), (2, .int r6), (0, .ref (h 37)), (1, .ref (h 44))]) hx hb dX3_readThings_26 rfl hl (by decide) rfl (fun ls hl => ?_)
    refine lv_iload_n hx hb dX3_readThings_27 rfl (lv_at hl 0 rfl) ?_
    refine lv_iconst (v := (-1 : Int32)) hx hb dX3_readThings_28 (by decide) ?_
    refine lv_icmp_ne (tgt := 34) hx hb dX3_readThings_29 (by decide) (fun hc => ?_) (fun hc => ?_)
    · replace hw := And.right hw hc
      refine lv_aload_n hx hb dX3_readThings_34 rfl (lv_at hl 2 rfl) ?_
      refine lv_bipush (v := (116 : Int32)) hx hb dX3_readThings_35 (by decide) ?_
      refine lv_sipush (v := (9999 : Int32)) hx hb dX3_readThings_37 (by decide) ?_
      refine xVi1 (As := [.int (116 : Int32), .int (9999 : Int32)]) (rest := []) hst hE hP hS ⟨hx, hb, hml, hown, hts⟩ (va_recv hK hP (ci := 3) (q := (RX3, TX3, 3)) rfl wX_37) (mX3_readPerhaps l D h cI cJ t0 hh S23 L (116 : Int32) (9999 : Int32) _ hw) (cwV 2 hts gX3_readThings_X3_readPerhaps rfl rfl rfl (by decide +kernel) ⟨Nat.le_of_ble_eq_true rfl, Nat.le_of_ble_eq_true rfl⟩) rfl hl.1 rfl (Nat.le_of_ble_eq_true rfl) dX3_readThings_40 ⟨Nat.zero_le _, Nat.zero_le _⟩ (fun r40 S40 H locs hw hP hS => ?_)
      refine lv_istore (lv' := [(4, .int r40), (3, .int r23), (2, .int r6), (0, .ref (h 37)), (1, .ref (h 44))]) hx hb dX3_readThings_43 hl (by decide) rfl (fun ls hl => ?_)
      refine lv_iload hx hb dX3_readThings_45 (lv_at hl 0 rfl) ?_
      refine lv_iconst (v := (-1 : Int32)) hx hb dX3_readThings_47 (by decide) ?_
      refine lv_icmp_eq (tgt := 58) hx hb dX3_readThings_48 (by decide) (fun hc => ?_) (fun hc => ?_)
      · replace hw := And.left hw hc
        refine lv_iconst (v := (0 : Int32)) hx hb dX3_readThings_58 (by decide) ?_
        exact hret _ _ _ _ _ _ hP hS hw rfl dX3_readThings_59
      · replace hw := And.right hw hc
        refine lv_aload_n hx hb dX3_readThings_51 rfl (lv_at hl 4 rfl) ?_
        refine va_get (D := D) (ci := 4) (v := .int (S40 44 0)) (C := RX4) (T := TX4) (N := 5) hx hb hts inX4 hown hK hP 44 wX_44 rfl 0 (by decide) f0 (fun _ h9 => h9) rfl dX3_readThings_52 ?_
        refine lv_if_ne (tgt := 60) hx hb dX3_readThings_55 (by decide) (fun hc => ?_) (fun hc => ?_)
        · replace hw := And.right hw hc
          refine lv_aload_n hx hb dX3_readThings_60 rfl (lv_at hl 4 rfl) ?_
          refine va_get (D := D) (ci := 4) (v := .int (S40 44 0)) (C := RX4) (T := TX4) (N := 5) hx hb hts inX4 hown hK hP 44 wX_44 rfl 0 (by decide) f0 (fun _ h9 => h9) rfl dX3_readThings_61 ?_
          refine lv_iconst (v := (1 : Int32)) hx hb dX3_readThings_64 (by decide) ?_
          refine lv_isub hx hb dX3_readThings_65 ?_
          refine lv_iconst (v := (4 : Int32)) hx hb dX3_readThings_66 (by decide) ?_
          refine lv_imul hx hb dX3_readThings_67 ?_
          refine lv_istore (lv' := [(5, .int (((S40 44 0) - (1 : Int32)) * (4 : Int32))), (4, .int r40), (3, .int r23), (2, .int r6), (0, .ref (h 37)), (1, .ref (h 44))]) hx hb dX3_readThings_68 hl (by decide) rfl (fun ls hl => ?_)
          refine lv_aload_n hx hb dX3_readThings_70 rfl (lv_at hl 5 rfl) ?_
          refine va_get (D := D) (ci := 4) (v := .ref (h 48)) (C := RX4) (T := TX4) (N := 5) hx hb hts inX4 hown hK hP 44 wX_44 rfl 4 (by decide) f2 (fun _ h9 => h9) rfl dX3_readThings_71 ?_
          refine lv_iload hx hb dX3_readThings_74 (lv_at hl 0 rfl) ?_
          refine lv_iconst (v := (1 : Int32)) hx hb dX3_readThings_76 (by decide) ?_
          refine lv_iadd hx hb dX3_readThings_77 ?_
          refine lv_iload_n hx hb dX3_readThings_78 rfl (lv_at hl 3 rfl) ?_
          obtain ⟨hi, hw⟩ := hw
          refine x_iast (ws2 := wX h cI cJ (xu S40 48 ((((S40 44 0) - (1 : Int32)) * (4 : Int32)) + (1 : Int32)).toNatClampNeg r6) L) hx hb hK hP (hD _ _) hS 48 0 wX_48 rfl hi dX3_readThings_79 (wX_u48 _ _) (fun H locs hP hS => ?_)
          refine lv_aload_n hx hb dX3_readThings_80 rfl (lv_at hl 5 rfl) ?_
          refine va_get (D := D) (ci := 4) (v := .ref (h 48)) (C := RX4) (T := TX4) (N := 5) hx hb hts inX4 hown hK hP 44 wX_44 rfl 4 (by decide) f2 (fun _ h9 => h9) rfl dX3_readThings_81 ?_
          refine lv_iload hx hb dX3_readThings_84 (lv_at hl 0 rfl) ?_
          refine lv_iconst (v := (2 : Int32)) hx hb dX3_readThings_86 (by decide) ?_
          refine lv_iadd hx hb dX3_readThings_87 ?_
          refine lv_iload_n hx hb dX3_readThings_88 rfl (lv_at hl 2 rfl) ?_
          obtain ⟨hi, hw⟩ := hw
          refine x_iast (ws2 := wX h cI cJ (xu (xu S40 48 ((((S40 44 0) - (1 : Int32)) * (4 : Int32)) + (1 : Int32)).toNatClampNeg r6) 48 ((((S40 44 0) - (1 : Int32)) * (4 : Int32)) + (2 : Int32)).toNatClampNeg r23) L) hx hb hK hP (hD _ _) hS 48 0 wX_48 rfl hi dX3_readThings_89 (wX_u48 _ _) (fun H locs hP hS => ?_)
          refine lv_aload_n hx hb dX3_readThings_90 rfl (lv_at hl 5 rfl) ?_
          refine va_get (D := D) (ci := 4) (v := .ref (h 48)) (C := RX4) (T := TX4) (N := 5) hx hb hts inX4 hown hK hP 44 wX_44 rfl 4 (by decide) f2 (fun _ h9 => h9) rfl dX3_readThings_91 ?_
          refine lv_iload hx hb dX3_readThings_94 (lv_at hl 0 rfl) ?_
          refine lv_iconst (v := (3 : Int32)) hx hb dX3_readThings_96 (by decide) ?_
          refine lv_iadd hx hb dX3_readThings_97 ?_
          refine lv_iload hx hb dX3_readThings_98 (lv_at hl 1 rfl) ?_
          obtain ⟨hi, hw⟩ := hw
          refine x_iast (ws2 := wX h cI cJ (xu (xu (xu S40 48 ((((S40 44 0) - (1 : Int32)) * (4 : Int32)) + (1 : Int32)).toNatClampNeg r6) 48 ((((S40 44 0) - (1 : Int32)) * (4 : Int32)) + (2 : Int32)).toNatClampNeg r23) 48 ((((S40 44 0) - (1 : Int32)) * (4 : Int32)) + (3 : Int32)).toNatClampNeg r40) L) hx hb hK hP (hD _ _) hS 48 0 wX_48 rfl hi dX3_readThings_100 (wX_u48 _ _) (fun H locs hP hS => ?_)
          refine lv_iconst (v := (1 : Int32)) hx hb dX3_readThings_101 (by decide) ?_
          exact hret _ _ _ _ _ _ hP hS hw rfl dX3_readThings_102
        · replace hw := And.left hw hc
          refine lv_iconst (v := (0 : Int32)) hx hb dX3_readThings_58 (by decide) ?_
          exact hret _ _ _ _ _ _ hP hS hw rfl dX3_readThings_59
    · replace hw := And.left hw hc
      refine lv_iconst (v := (0 : Int32)) hx hb dX3_readThings_32 (by decide) ?_
      exact hret _ _ _ _ _ _ hP hS hw rfl dX3_readThings_33
  · replace hw := And.left hw hc
    refine lv_iconst (v := (0 : Int32)) hx hb dX3_readThings_15 (by decide) ?_
    exact hret _ _ _ _ _ _ hP hS hw rfl dX3_readThings_16
abbrev rX3_readWill : Room := { frames := 4, cells := 0, slots := 0, locals := 102 }
set_option maxHeartbeats 4000000 in
set_option maxRecDepth 100000 in
theorem mX3_readWill (l : Launch) (D : va_G) (h : Nat → Nat) (cI cJ : ClassId) (t0 : Nat) (hh : xdis 53 h) (S : SX) (L : LX) (post : Int32 → SX → Prop) (hw : kX3_readWill S L  post) : Met l yX3_readWill wsX3_readWill rX3_readWill (xPre D (wX h cI cJ) (xE D h cI cJ t0) S L [.ref (h 37), .ref (h 44)]) (va_Qi (fun (r : Int32) (u : SX × LX) => post r u.1 ∧ u.2 = L) (xB D (wX h cI cJ)) (xA 53 h)) 0 0 (xA 53 h) := by
  refine Met.ofW (cc := cX3_readWill) (maxL := 6) (ret := (some .boolean)) (by decide) rfl ?_
  intro p e s m args below meth c s₁ B hml hv
  obtain ⟨hargs, hP, hE⟩ := hv
  have hx := B.exec
  have hb := B.bytes
  have hr := B.returns
  have hlocks := B.notSynchronized
  have hts := atoms_spec (ws := wsX3_readWill) B.pre
  have hown : s.vm.findClass RX3 = some m.cls := findClass_of_methodNamed B.named
  have hS : va_S (xA 53 h) s.heap s.heap [] := va_S.rf
  have hD : ∀ (S : SX) (L : LX), va_D (xA 53 h) (wX h cI cJ S L) := fun S L => wX_D hh cI cJ S L
  have hK := hE.1
  have hst : xSt (xA 53 h) (xE D h cI cJ t0) := xE_st D h cI cJ t0
  skip
  have hl := lv_entry ([.ref (h 37), .ref (h 44)]) (n := 6) (Nat.le_of_ble_eq_true rfl)
  have hen : entryFrame m args 6 = F0 m 0 ((lg_sl ([.ref (h 37), .ref (h 44)]) ++ List.replicate (6 - (lg_sl ([.ref (h 37), .ref (h 44)])).length) Slot.unset).toArray) [] := by rw [hargs]; exact lg_entry_eq m _ _
  rw [hen]
  generalize (lg_sl ([.ref (h 37), .ref (h 44)]) ++ List.replicate (6 - (lg_sl ([.ref (h 37), .ref (h 44)])).length) Slot.unset).toArray = ls at hl ⊢
  have hl : lv_has ls 6 [(0, .ref (h 37)), (1, .ref (h 44))] := hl
  change W p l e rX3_readWill s m args below meth c s.heap [] 0 0 (MQ below (va_Qi (fun (r : Int32) (u : SX × LX) => post r u.1 ∧ u.2 = L) (xB D (wX h cI cJ)) (xA 53 h)) args s 0 0 (xA 53 h)) (F0 m 0 ls [])
  have hret : ∀ (r : Int32) (S1 : SX) (H : Heap) (locs : List Loc) (ls : Array Slot) (pc : Nat), va_P D vwCl (wX h cI cJ S1 L) H → va_S (xA 53 h) s.heap H locs → post r S1 → narrow .boolean (.int r) = .int r → decode cX3_readWill pc = .ok (.ireturn, 1) → W p l e rX3_readWill s m args below meth c H locs 0 0 (MQ below (va_Qi (fun (r : Int32) (u : SX × LX) => post r u.1 ∧ u.2 = L) (xB D (wX h cI cJ)) (xA 53 h)) args s 0 0 (xA 53 h)) (F0 m pc ls [.int r]) := fun r S1 H locs ls pc hP hS hw hna hd => W.zret hx hb hr hna (fun t ht hW => ⟨⟨r, (S1, L), rfl, ⟨hw, rfl⟩, show va_P D vwCl (wX h cI cJ S1 L) t.heap by rw [ht]; exact hP⟩, hS.F ht⟩) hS.2.2 hd
  generalize MQ below (va_Qi (fun (r : Int32) (u : SX × LX) => post r u.1 ∧ u.2 = L) (xB D (wX h cI cJ)) (xA 53 h)) args s 0 0 (xA 53 h) = Q at hret ⊢
  have b51 : ∀ (v2 : Int32) (v3 : Int32) (v4 : Int32) (S : SX) (H : Heap) (locs : List Loc) (ls : Array Slot), lv_has ls 6 [(0, .ref (h 37)), (1, .ref (h 44)), (2, .int v2), (3, .int v3), (4, .int v4)] → va_P D vwCl (wX h cI cJ S L) H → va_S (xA 53 h) s.heap H locs → kX3_readWill_b51 L post v2 v3 v4 S → W p l e rX3_readWill s m args below meth c H locs 0 0 Q (F0 m 51 ls []) := by
    have b81 : ∀ (v5 : Int32) (z1 : Int32) (z2 : Int32) (z3 : Int32) (S : SX) (H : Heap) (locs : List Loc) (ls : Array Slot), lv_has ls 6 [(0, .ref (h 37)), (1, .ref (h 44)), (5, .int v5)] → va_P D vwCl (wX h cI cJ S L) H → va_S (xA 53 h) s.heap H locs → kX3_readWill_b81 L post v5 z1 z2 z3 S → W p l e rX3_readWill s m args below meth c H locs 0 0 Q (F0 m 81 ls [.int z3, .int z2, .int z1, .ref (h 44)]) := by
      intro v5 z1 z2 z3 S H locs ls hl hP hS hw
      unfold kX3_readWill_b81 at hw
      refine lv_iload hx hb dX3_readWill_81 (lv_at hl 2 rfl) ?_
      refine xVv1 (As := [.int z1, .int z2, .int z3, .int v5]) (rest := []) hst hE hP hS ⟨hx, hb, hml, hown, hts⟩ (va_recv hK hP (ci := 4) (q := (RX4, TX4, 5)) rfl wX_44) (mX4_add_44 l D h cI cJ t0 hh S L z1 z2 z3 v5 _ hw) (cwV 4 hts gX3_readWill_X4_add rfl rfl rfl (by decide +kernel) ⟨Nat.le_of_ble_eq_true rfl, Nat.le_of_ble_eq_true rfl⟩) rfl hl.1 rfl (Nat.le_of_ble_eq_true rfl) dX3_readWill_83 ⟨Nat.zero_le _, Nat.zero_le _⟩ (fun S83 H locs hw hP hS => ?_)
      refine lv_aload_n hx hb dX3_readWill_86 rfl (lv_at hl 0 rfl) ?_
      refine lv_aload_n hx hb dX3_readWill_87 rfl (lv_at hl 1 rfl) ?_
      refine xVi1 (As := [.ref (h 44)]) (rest := []) hst hE hP hS ⟨hx, hb, hml, hown, hts⟩ (va_recv hK hP (ci := 3) (q := (RX3, TX3, 3)) rfl wX_37) (mX3_readThings l D h cI cJ t0 hh S83 L  _ hw) (cwV 1 hts gX3_readWill_X3_readThings rfl rfl rfl (by decide +kernel) ⟨Nat.le_of_ble_eq_true rfl, Nat.le_of_ble_eq_true rfl⟩) rfl hl.1 rfl (Nat.le_of_ble_eq_true rfl) dX3_readWill_88 ⟨Nat.zero_le _, Nat.zero_le _⟩ (fun r88 S88 H locs hw hP hS => ?_)
      exact hret _ _ _ _ _ _ hP hS hw.2 (xb_n hw.1) dX3_readWill_91
    intro v2 v3 v4 S H locs ls hl hP hS hw
    unfold kX3_readWill_b51 at hw
    refine lv_aload_n hx hb dX3_readWill_51 rfl (lv_at hl 0 rfl) ?_
    refine lv_sipush (v := (9999 : Int32)) hx hb dX3_readWill_52 (by decide) ?_
    refine xVi1 (As := [.int (9999 : Int32)]) (rest := []) hst hE hP hS ⟨hx, hb, hml, hown, hts⟩ (va_recv hK hP (ci := 3) (q := (RX3, TX3, 3)) rfl wX_37) (mX3_readNumber l D h cI cJ t0 hh S L (9999 : Int32) _ hw) (cwV 1 hts gX3_readWill_X3_readNumber rfl rfl rfl (by decide +kernel) ⟨Nat.le_of_ble_eq_true rfl, Nat.le_of_ble_eq_true rfl⟩) rfl hl.1 rfl (Nat.le_of_ble_eq_true rfl) dX3_readWill_55 ⟨Nat.zero_le _, Nat.zero_le _⟩ (fun r55 S55 H locs hw hP hS => ?_)
    refine lv_istore (lv' := [(5, .int r55), (0, .ref (h 37)), (1, .ref (h 44)), (2, .int v2), (3, .int v3), (4, .int v4)]) hx hb dX3_readWill_58 hl (by decide) rfl (fun ls hl => ?_)
    refine lv_iload hx hb dX3_readWill_60 (lv_at hl 0 rfl) ?_
    refine lv_iconst (v := (-1 : Int32)) hx hb dX3_readWill_62 (by decide) ?_
    refine lv_icmp_ne (tgt := 68) hx hb dX3_readWill_63 (by decide) (fun hc => ?_) (fun hc => ?_)
    · replace hw := And.right hw hc
      refine lv_aload_n hx hb dX3_readWill_68 rfl (lv_at hl 2 rfl) ?_
      refine lv_iload_n hx hb dX3_readWill_69 rfl (lv_at hl 3 rfl) ?_
      refine lv_iload_n hx hb dX3_readWill_70 rfl (lv_at hl 4 rfl) ?_
      refine lv_iload hx hb dX3_readWill_71 (lv_at hl 5 rfl) ?_
      refine lv_if_eq (tgt := 80) hx hb dX3_readWill_73 (by decide) (fun hc => ?_) (fun hc => ?_)
      · replace hw := And.left hw hc
        refine lv_iconst (v := (1 : Int32)) hx hb dX3_readWill_80 (by decide) ?_
        exact b81 r55 v2 v3 (1 : Int32) S55 _ _ _ (lv_sub hl [1, 2, 0] rfl) hP hS hw
      · replace hw := And.right hw hc
        refine lv_iconst (v := (0 : Int32)) hx hb dX3_readWill_76 (by decide) ?_
        refine lv_goto (tgt := 81) hx hb dX3_readWill_77 (by decide) ?_
        exact b81 r55 v2 v3 (0 : Int32) S55 _ _ _ (lv_sub hl [1, 2, 0] rfl) hP hS hw
    · replace hw := And.left hw hc
      refine lv_iconst (v := (0 : Int32)) hx hb dX3_readWill_66 (by decide) ?_
      exact hret _ _ _ _ _ _ hP hS hw rfl dX3_readWill_67
  unfold kX3_readWill at hw
  refine lv_aload_n hx hb dX3_readWill_0 rfl (lv_at hl 0 rfl) ?_
  refine lv_bipush (v := (7 : Int32)) hx hb dX3_readWill_1 (by decide) ?_
  refine xVi1 (As := [.int (7 : Int32)]) (rest := []) hst hE hP hS ⟨hx, hb, hml, hown, hts⟩ (va_recv hK hP (ci := 3) (q := (RX3, TX3, 3)) rfl wX_37) (mX3_readDigit l D h cI cJ t0 hh S L (7 : Int32) _ hw) (cwV 1 hts gX3_readWill_X3_readDigit rfl rfl rfl (by decide +kernel) ⟨Nat.le_of_ble_eq_true rfl, Nat.le_of_ble_eq_true rfl⟩) rfl hl.1 rfl (Nat.le_of_ble_eq_true rfl) dX3_readWill_3 ⟨Nat.zero_le _, Nat.zero_le _⟩ (fun r3 S3 H locs hw hP hS => ?_)
  refine lv_istore_n (lv' := [(2, .int r3), (0, .ref (h 37)), (1, .ref (h 44))]) hx hb dX3_readWill_6 rfl hl (by decide) rfl (fun ls hl => ?_)
  refine lv_iload_n hx hb dX3_readWill_7 rfl (lv_at hl 0 rfl) ?_
  refine lv_iconst (v := (-1 : Int32)) hx hb dX3_readWill_8 (by decide) ?_
  refine lv_icmp_ne (tgt := 14) hx hb dX3_readWill_9 (by decide) (fun hc => ?_) (fun hc => ?_)
  · replace hw := And.right hw hc
    refine lv_aload_n hx hb dX3_readWill_14 rfl (lv_at hl 1 rfl) ?_
    refine lv_iconst (v := (5 : Int32)) hx hb dX3_readWill_15 (by decide) ?_
    refine xVi1 (As := [.int (5 : Int32)]) (rest := []) hst hE hP hS ⟨hx, hb, hml, hown, hts⟩ (va_recv hK hP (ci := 3) (q := (RX3, TX3, 3)) rfl wX_37) (mX3_readDigit l D h cI cJ t0 hh S3 L (5 : Int32) _ hw) (cwV 1 hts gX3_readWill_X3_readDigit rfl rfl rfl (by decide +kernel) ⟨Nat.le_of_ble_eq_true rfl, Nat.le_of_ble_eq_true rfl⟩) rfl hl.1 rfl (Nat.le_of_ble_eq_true rfl) dX3_readWill_16 ⟨Nat.zero_le _, Nat.zero_le _⟩ (fun r16 S16 H locs hw hP hS => ?_)
    refine lv_istore_n (lv' := [(3, .int r16), (2, .int r3), (0, .ref (h 37)), (1, .ref (h 44))]) hx hb dX3_readWill_19 rfl hl (by decide) rfl (fun ls hl => ?_)
    refine lv_iload_n hx hb dX3_readWill_20 rfl (lv_at hl 0 rfl) ?_
    refine lv_iconst (v := (-1 : Int32)) hx hb dX3_readWill_21 (by decide) ?_
    refine lv_icmp_ne (tgt := 27) hx hb dX3_readWill_22 (by decide) (fun hc => ?_) (fun hc => ?_)
    · replace hw := And.right hw hc
      refine lv_aload_n hx hb dX3_readWill_27 rfl (lv_at hl 2 rfl) ?_
      refine lv_bipush (v := (109 : Int32)) hx hb dX3_readWill_28 (by decide) ?_
      refine xVi1 (As := [.int (109 : Int32)]) (rest := []) hst hE hP hS ⟨hx, hb, hml, hown, hts⟩ (va_recv hK hP (ci := 3) (q := (RX3, TX3, 3)) rfl wX_37) (mX3_takes l D h cI cJ t0 hh S16 L (109 : Int32) _ hw) (cwV 1 hts gX3_readWill_X3_takes rfl rfl rfl (by decide +kernel) ⟨Nat.le_of_ble_eq_true rfl, Nat.le_of_ble_eq_true rfl⟩) rfl hl.1 rfl (Nat.le_of_ble_eq_true rfl) dX3_readWill_30 ⟨Nat.zero_le _, Nat.zero_le _⟩ (fun r30 S30 H locs hw hP hS => ?_)
      refine lv_istore (lv' := [(4, .int r30), (3, .int r16), (2, .int r3), (0, .ref (h 37)), (1, .ref (h 44))]) hx hb dX3_readWill_33 hl (by decide) rfl (fun ls hl => ?_)
      refine lv_iload hx hb dX3_readWill_35 (lv_at hl 0 rfl) ?_
      refine lv_if_ne (tgt := 51) hx hb dX3_readWill_37 (by decide) (fun hc => ?_) (fun hc => ?_)
      · replace hw := And.right hw hc
        exact b51 r3 r16 r30 S30 _ _ _ (lv_sub hl [3, 4, 2, 1, 0] rfl) hP hS hw
      · replace hw := And.left hw hc
        refine lv_aload_n hx hb dX3_readWill_40 rfl (lv_at hl 3 rfl) ?_
        refine lv_bipush (v := (119 : Int32)) hx hb dX3_readWill_41 (by decide) ?_
        refine xVi1 (As := [.int (119 : Int32)]) (rest := []) hst hE hP hS ⟨hx, hb, hml, hown, hts⟩ (va_recv hK hP (ci := 3) (q := (RX3, TX3, 3)) rfl wX_37) (mX3_takes l D h cI cJ t0 hh S30 L (119 : Int32) _ hw) (cwV 1 hts gX3_readWill_X3_takes rfl rfl rfl (by decide +kernel) ⟨Nat.le_of_ble_eq_true rfl, Nat.le_of_ble_eq_true rfl⟩) rfl hl.1 rfl (Nat.le_of_ble_eq_true rfl) dX3_readWill_43 ⟨Nat.zero_le _, Nat.zero_le _⟩ (fun r43 S43 H locs hw hP hS => ?_)
        refine lv_if_ne (tgt := 51) hx hb dX3_readWill_46 (by decide) (fun hc => ?_) (fun hc => ?_)
        · replace hw := And.right hw hc
          exact b51 r3 r16 r30 S43 _ _ _ (lv_sub hl [3, 4, 2, 1, 0] rfl) hP hS hw
        · replace hw := And.left hw hc
          refine lv_iconst (v := (0 : Int32)) hx hb dX3_readWill_49 (by decide) ?_
          exact hret _ _ _ _ _ _ hP hS hw rfl dX3_readWill_50
    · replace hw := And.left hw hc
      refine lv_iconst (v := (0 : Int32)) hx hb dX3_readWill_25 (by decide) ?_
      exact hret _ _ _ _ _ _ hP hS hw rfl dX3_readWill_26
  · replace hw := And.left hw hc
    refine lv_iconst (v := (0 : Int32)) hx hb dX3_readWill_12 (by decide) ?_
    exact hret _ _ _ _ _ _ hP hS hw rfl dX3_readWill_13
abbrev rX3_readWills : Room := { frames := 5, cells := 0, slots := 0, locals := 127 }
set_option maxHeartbeats 4000000 in
set_option maxRecDepth 100000 in
theorem mX3_readWills (l : Launch) (D : va_G) (h : Nat → Nat) (cI cJ : ClassId) (t0 : Nat) (hh : xdis 53 h) (S : SX) (L : LX) (post : Int32 → SX → Prop) (hw : kX3_readWills S L  post) : Met l yX3_readWills wsX3_readWills rX3_readWills (xPre D (wX h cI cJ) (xE D h cI cJ t0) S L [.ref (h 37), .ref (h 44)]) (va_Qi (fun (r : Int32) (u : SX × LX) => post r u.1 ∧ u.2 = L) (xB D (wX h cI cJ)) (xA 53 h)) 0 0 (xA 53 h) := by
  refine Met.ofW (cc := cX3_readWills) (maxL := 3) (ret := (some .int)) (by decide) rfl ?_
  intro p e s m args below meth c s₁ B hml hv
  obtain ⟨hargs, hP, hE⟩ := hv
  have hx := B.exec
  have hb := B.bytes
  have hr := B.returns
  have hlocks := B.notSynchronized
  have hts := atoms_spec (ws := wsX3_readWills) B.pre
  have hown : s.vm.findClass RX3 = some m.cls := findClass_of_methodNamed B.named
  have hS : va_S (xA 53 h) s.heap s.heap [] := va_S.rf
  have hD : ∀ (S : SX) (L : LX), va_D (xA 53 h) (wX h cI cJ S L) := fun S L => wX_D hh cI cJ S L
  have hK := hE.1
  have hst : xSt (xA 53 h) (xE D h cI cJ t0) := xE_st D h cI cJ t0
  have f0 := hts (.fieldLink RX3 23 "BookOfWills$Tape" "place" "I") (by decide +kernel)
  have inX3 : ∀ w ∈ u_ws RX3 TX3 3, w ∈ wsX3_readWills := fun w hw9 => List.mem_cons_of_mem _ (List.mem_append_left _ (List.mem_append_right _ hw9))
  have hl := lv_entry ([.ref (h 37), .ref (h 44)]) (n := 3) (Nat.le_of_ble_eq_true rfl)
  have hen : entryFrame m args 3 = F0 m 0 ((lg_sl ([.ref (h 37), .ref (h 44)]) ++ List.replicate (3 - (lg_sl ([.ref (h 37), .ref (h 44)])).length) Slot.unset).toArray) [] := by rw [hargs]; exact lg_entry_eq m _ _
  rw [hen]
  generalize (lg_sl ([.ref (h 37), .ref (h 44)]) ++ List.replicate (3 - (lg_sl ([.ref (h 37), .ref (h 44)])).length) Slot.unset).toArray = ls at hl ⊢
  have hl : lv_has ls 3 [(0, .ref (h 37)), (1, .ref (h 44))] := hl
  change W p l e rX3_readWills s m args below meth c s.heap [] 0 0 (MQ below (va_Qi (fun (r : Int32) (u : SX × LX) => post r u.1 ∧ u.2 = L) (xB D (wX h cI cJ)) (xA 53 h)) args s 0 0 (xA 53 h)) (F0 m 0 ls [])
  have hret : ∀ (r : Int32) (S1 : SX) (H : Heap) (locs : List Loc) (ls : Array Slot) (pc : Nat), va_P D vwCl (wX h cI cJ S1 L) H → va_S (xA 53 h) s.heap H locs → post r S1 → decode cX3_readWills pc = .ok (.ireturn, 1) → W p l e rX3_readWills s m args below meth c H locs 0 0 (MQ below (va_Qi (fun (r : Int32) (u : SX × LX) => post r u.1 ∧ u.2 = L) (xB D (wX h cI cJ)) (xA 53 h)) args s 0 0 (xA 53 h)) (F0 m pc ls [.int r]) := fun r S1 H locs ls pc hP hS hw hd => W.iret hx hb hr (fun t ht hW => ⟨⟨r, (S1, L), rfl, ⟨hw, rfl⟩, show va_P D vwCl (wX h cI cJ S1 L) t.heap by rw [ht]; exact hP⟩, hS.F ht⟩) hS.2.2 hd
  generalize MQ below (va_Qi (fun (r : Int32) (u : SX × LX) => post r u.1 ∧ u.2 = L) (xB D (wX h cI cJ)) (xA 53 h)) args s 0 0 (xA 53 h) = Q at hret ⊢
  have b7 : ∀  (n7 : Nat) (v2 : Int32) (S : SX) (H : Heap) (locs : List Loc) (ls : Array Slot), lv_has ls 3 [(0, .ref (h 37)), (1, .ref (h 44)), (2, .int v2)] → va_P D vwCl (wX h cI cJ S L) H → va_S (xA 53 h) s.heap H locs → kX3_readWills_b7 L post n7 v2 S → W p l e rX3_readWills s m args below meth c H locs 0 0 Q (F0 m 7 ls []) := by
    intro n7
    induction n7 with
    | zero => intro v2 S H locs ls hl hP hS hw; exact absurd hw id
    | succ n7 i7 =>
      have b51 : ∀ (S : SX) (H : Heap) (locs : List Loc) (ls : Array Slot), lv_has ls 3 [(0, .ref (h 37))] → va_P D vwCl (wX h cI cJ S L) H → va_S (xA 53 h) s.heap H locs → kX3_readWills_b51 L post S → W p l e rX3_readWills s m args below meth c H locs 0 0 Q (F0 m 51 ls []) := by
        intro S H locs ls hl hP hS hw
        unfold kX3_readWills_b51 at hw
        refine lv_aload_n hx hb dX3_readWills_51 rfl (lv_at hl 0 rfl) ?_
        refine xVi0 (As := []) (rest := []) hst hE hP hS ⟨hx, hb, hml, hown, hts⟩ (va_recv hK hP (ci := 3) (q := (RX3, TX3, 3)) rfl wX_37) (mX3_fault l D h cI cJ t0 hh S L  _ hw) (cwV 0 hts gX3_readWills_X3_fault rfl rfl rfl (by decide +kernel) ⟨Nat.le_of_ble_eq_true rfl, Nat.le_of_ble_eq_true rfl⟩) rfl hl.1 rfl (Nat.le_of_ble_eq_true rfl) dX3_readWills_52 ⟨Nat.zero_le _, Nat.zero_le _⟩ (fun r52 H locs hw hP hS => ?_)
        exact hret _ _ _ _ _ _ hP hS hw dX3_readWills_55
      intro v2 S H locs ls hl hP hS hw
      unfold kX3_readWills_b7 at hw
      refine lv_iload_n hx hb dX3_readWills_7 rfl (lv_at hl 2 rfl) ?_
      refine lv_bipush (v := (8 : Int32)) hx hb dX3_readWills_8 (by decide) ?_
      refine lv_icmp_gt (tgt := 62) hx hb dX3_readWills_10 (by decide) (fun hc => ?_) (fun hc => ?_)
      · replace hw := And.left hw hc
        refine lv_aload_n hx hb dX3_readWills_62 rfl (lv_at hl 0 rfl) ?_
        refine xVi0 (As := []) (rest := []) hst hE hP hS ⟨hx, hb, hml, hown, hts⟩ (va_recv hK hP (ci := 3) (q := (RX3, TX3, 3)) rfl wX_37) (mX3_fault l D h cI cJ t0 hh S L  _ hw) (cwV 0 hts gX3_readWills_X3_fault rfl rfl rfl (by decide +kernel) ⟨Nat.le_of_ble_eq_true rfl, Nat.le_of_ble_eq_true rfl⟩) rfl hl.1 rfl (Nat.le_of_ble_eq_true rfl) dX3_readWills_63 ⟨Nat.zero_le _, Nat.zero_le _⟩ (fun r63 H locs hw hP hS => ?_)
        exact hret _ _ _ _ _ _ hP hS hw dX3_readWills_66
      · replace hw := And.right hw hc
        refine lv_aload_n hx hb dX3_readWills_13 rfl (lv_at hl 0 rfl) ?_
        refine lv_aload_n hx hb dX3_readWills_14 rfl (lv_at hl 1 rfl) ?_
        refine xVi1 (As := [.ref (h 44)]) (rest := []) hst hE hP hS ⟨hx, hb, hml, hown, hts⟩ (va_recv hK hP (ci := 3) (q := (RX3, TX3, 3)) rfl wX_37) (mX3_readWill l D h cI cJ t0 hh S L  _ hw) (cwV 1 hts gX3_readWills_X3_readWill rfl rfl rfl (by decide +kernel) ⟨Nat.le_of_ble_eq_true rfl, Nat.le_of_ble_eq_true rfl⟩) rfl hl.1 rfl (Nat.le_of_ble_eq_true rfl) dX3_readWills_15 ⟨Nat.zero_le _, Nat.zero_le _⟩ (fun r15 S15 H locs hw hP hS => ?_)
        refine lv_if_ne (tgt := 26) hx hb dX3_readWills_18 (by decide) (fun hc => ?_) (fun hc => ?_)
        · replace hw := And.right hw hc
          refine lv_aload_n hx hb dX3_readWills_26 rfl (lv_at hl 0 rfl) ?_
          refine xVi1 (As := []) (rest := []) hst hE hP hS ⟨hx, hb, hml, hown, hts⟩ (va_recv hK hP (ci := 3) (q := (RX3, TX3, 3)) rfl wX_37) (mX3_next l D h cI cJ t0 hh S15 L  _ hw) (cwV 0 hts gX3_readWills_X3_next rfl rfl rfl (by decide +kernel) ⟨Nat.le_of_ble_eq_true rfl, Nat.le_of_ble_eq_true rfl⟩) rfl hl.1 rfl (Nat.le_of_ble_eq_true rfl) dX3_readWills_27 ⟨Nat.zero_le _, Nat.zero_le _⟩ (fun r27 S27 H locs hw hP hS => ?_)
          refine lv_iconst (v := (-1 : Int32)) hx hb dX3_readWills_30 (by decide) ?_
          refine lv_icmp_ne (tgt := 36) hx hb dX3_readWills_31 (by decide) (fun hc => ?_) (fun hc => ?_)
          · replace hw := And.right hw hc
            refine lv_iload_n hx hb dX3_readWills_36 rfl (lv_at hl 2 rfl) ?_
            refine lv_bipush (v := (8 : Int32)) hx hb dX3_readWills_37 (by decide) ?_
            refine lv_icmp_eq (tgt := 51) hx hb dX3_readWills_39 (by decide) (fun hc => ?_) (fun hc => ?_)
            · replace hw := And.left hw hc
              exact b51 S27 _ _ _ (lv_sub hl [0] rfl) hP hS hw
            · replace hw := And.right hw hc
              refine lv_aload_n hx hb dX3_readWills_42 rfl (lv_at hl 0 rfl) ?_
              refine lv_bipush (v := (59 : Int32)) hx hb dX3_readWills_43 (by decide) ?_
              refine xVi1 (As := [.int (59 : Int32)]) (rest := []) hst hE hP hS ⟨hx, hb, hml, hown, hts⟩ (va_recv hK hP (ci := 3) (q := (RX3, TX3, 3)) rfl wX_37) (mX3_takes l D h cI cJ t0 hh S27 L (59 : Int32) _ hw) (cwV 1 hts gX3_readWills_X3_takes rfl rfl rfl (by decide +kernel) ⟨Nat.le_of_ble_eq_true rfl, Nat.le_of_ble_eq_true rfl⟩) rfl hl.1 rfl (Nat.le_of_ble_eq_true rfl) dX3_readWills_45 ⟨Nat.zero_le _, Nat.zero_le _⟩ (fun r45 S45 H locs hw hP hS => ?_)
              refine lv_if_ne (tgt := 56) hx hb dX3_readWills_48 (by decide) (fun hc => ?_) (fun hc => ?_)
              · replace hw := And.right hw hc
                refine lv_iinc (v := v2 + (1 : Int32)) (lv' := [(2, .int (v2 + (1 : Int32))), (0, .ref (h 37)), (1, .ref (h 44))]) hx hb dX3_readWills_56 hl (k := 2) rfl rfl (by decide) rfl (fun ls hl => ?_)
                refine lv_goto (tgt := 7) hx hb dX3_readWills_59 (by decide) ?_
                exact i7 (v2 + (1 : Int32)) S45 _ _ _ (lv_sub hl [1, 2, 0] rfl) hP hS hw
              · replace hw := And.left hw hc
                exact b51 S45 _ _ _ (lv_sub hl [0] rfl) hP hS hw
          · replace hw := And.left hw hc
            refine lv_iload_n hx hb dX3_readWills_34 rfl (lv_at hl 2 rfl) ?_
            exact hret _ _ _ _ _ _ hP hS hw dX3_readWills_35
        · replace hw := And.left hw hc
          refine lv_aload_n hx hb dX3_readWills_21 rfl (lv_at hl 0 rfl) ?_
          refine xVi0 (As := []) (rest := []) hst hE hP hS ⟨hx, hb, hml, hown, hts⟩ (va_recv hK hP (ci := 3) (q := (RX3, TX3, 3)) rfl wX_37) (mX3_fault l D h cI cJ t0 hh S15 L  _ hw) (cwV 0 hts gX3_readWills_X3_fault rfl rfl rfl (by decide +kernel) ⟨Nat.le_of_ble_eq_true rfl, Nat.le_of_ble_eq_true rfl⟩) rfl hl.1 rfl (Nat.le_of_ble_eq_true rfl) dX3_readWills_22 ⟨Nat.zero_le _, Nat.zero_le _⟩ (fun r22 H locs hw hP hS => ?_)
          exact hret _ _ _ _ _ _ hP hS hw dX3_readWills_25
  unfold kX3_readWills at hw
  refine lv_aload_n hx hb dX3_readWills_0 rfl (lv_at hl 0 rfl) ?_
  refine lv_iconst (v := (0 : Int32)) hx hb dX3_readWills_1 (by decide) ?_
  refine x_put (D := D) (ci := 3) (v := .int (0 : Int32)) (ty := .int) (C := RX3) (T := TX3) (N := 3) (ws2 := wX h cI cJ (xu S 37 1 (0 : Int32)) L) hx hb hts inX3 tyX3 tyX3_ok nmX3 hown hK hP (hD _ _) hS 37 wX_37 rfl 1 (by decide) f0 (fun _ h9 => h9) rfl (by decide +kernel) rfl rfl (Nat.le_of_ble_eq_true rfl) dX3_readWills_2 (wX_p37_1 _) (fun H locs hP hS => ?_)
  refine lv_iconst (v := (1 : Int32)) hx hb dX3_readWills_5 (by decide) ?_
  refine lv_istore_n (lv' := [(2, .int (1 : Int32)), (0, .ref (h 37)), (1, .ref (h 44))]) hx hb dX3_readWills_6 rfl hl (by decide) rfl (fun ls hl => ?_)
  obtain ⟨n7, hw⟩ := hw
  exact b7  n7 (1 : Int32) (xu S 37 1 (0 : Int32)) _ _ _ (lv_sub hl [1, 2, 0] rfl) hP hS hw
abbrev rX4_move_8_44 : Room := { frames := 1, cells := 0, slots := 0, locals := 32 }
set_option maxHeartbeats 4000000 in
set_option maxRecDepth 100000 in
theorem mX4_move_8_44 (l : Launch) (D : va_G) (h : Nat → Nat) (cI cJ : ClassId) (t0 : Nat) (hh : xdis 53 h) (S : SX) (L : LX) (v2 : Int32) (v3 : Int32) (v4 : Int32) (post : SX → Prop) (hw : kX4_move_8_44 S L v2 v3 v4 post) : Met l yX4_move wsX4_move rX4_move_8_44 (xPre D (wX h cI cJ) (xE D h cI cJ t0) S L [.ref (h 8), .ref (h 44), .int v2, .int v3, .int v4]) (va_Qv (fun (u : SX × LX) => post u.1 ∧ u.2 = L) (xB D (wX h cI cJ)) (xA 53 h)) 0 0 (xA 53 h) := by
  refine Met.ofW (cc := cX4_move) (maxL := 5) (ret := none) (by decide) rfl ?_
  intro p e s m args below meth c s₁ B hml hv
  obtain ⟨hargs, hP, hE⟩ := hv
  have hx := B.exec
  have hb := B.bytes
  have hr := B.returns
  have hlocks := B.notSynchronized
  have hts := atoms_spec (ws := wsX4_move) B.pre
  have hown : s.vm.findClass RX4 = some m.cls := findClass_of_methodNamed B.named
  have hS : va_S (xA 53 h) s.heap s.heap [] := va_S.rf
  have hD : ∀ (S : SX) (L : LX), va_D (xA 53 h) (wX h cI cJ S L) := fun S L => wX_D hh cI cJ S L
  have hK := hE.1
  have hst : xSt (xA 53 h) (xE D h cI cJ t0) := xE_st D h cI cJ t0
  have f0 := hts (.fieldLink RX4 9 "BookOfWills$Wills" "year" "[I") (by decide +kernel)
  have inX4 : ∀ w ∈ u_ws RX4 TX4 5, w ∈ wsX4_move := fun w hw9 => List.mem_cons_of_mem _ (List.mem_append_right _ hw9)
  have f2 := hts (.methodLink RX4 39 arraycopyName) (by decide +kernel)
  have f3 := hts (.native arraycopyName) (by decide +kernel)
  have f4 := hts (.static arraycopyName) (by decide +kernel)
  have f5 := hts (.initialized "java/lang/System") (by decide +kernel)
  have f6 := hts (.fieldLink RX4 15 "BookOfWills$Wills" "age" "[I") (by decide +kernel)
  have f7 := hts (.fieldLink RX4 18 "BookOfWills$Wills" "sex" "[I") (by decide +kernel)
  have f8 := hts (.fieldLink RX4 21 "BookOfWills$Wills" "had" "[I") (by decide +kernel)
  have hl := lv_entry ([.ref (h 8), .ref (h 44), .int v2, .int v3, .int v4]) (n := 5) (Nat.le_of_ble_eq_true rfl)
  have hen : entryFrame m args 5 = F0 m 0 ((lg_sl ([.ref (h 8), .ref (h 44), .int v2, .int v3, .int v4]) ++ List.replicate (5 - (lg_sl ([.ref (h 8), .ref (h 44), .int v2, .int v3, .int v4])).length) Slot.unset).toArray) [] := by rw [hargs]; exact lg_entry_eq m _ _
  rw [hen]
  generalize (lg_sl ([.ref (h 8), .ref (h 44), .int v2, .int v3, .int v4]) ++ List.replicate (5 - (lg_sl ([.ref (h 8), .ref (h 44), .int v2, .int v3, .int v4])).length) Slot.unset).toArray = ls at hl ⊢
  have hl : lv_has ls 5 [(0, .ref (h 8)), (1, .ref (h 44)), (2, .int v2), (3, .int v3), (4, .int v4)] := hl
  change W p l e rX4_move_8_44 s m args below meth c s.heap [] 0 0 (MQ below (va_Qv (fun (u : SX × LX) => post u.1 ∧ u.2 = L) (xB D (wX h cI cJ)) (xA 53 h)) args s 0 0 (xA 53 h)) (F0 m 0 ls [])
  have hret : ∀ (S1 : SX) (H : Heap) (locs : List Loc) (ls : Array Slot) (pc : Nat), va_P D vwCl (wX h cI cJ S1 L) H → va_S (xA 53 h) s.heap H locs → post S1 → decode cX4_move pc = .ok (.return_, 1) → W p l e rX4_move_8_44 s m args below meth c H locs 0 0 (MQ below (va_Qv (fun (u : SX × LX) => post u.1 ∧ u.2 = L) (xB D (wX h cI cJ)) (xA 53 h)) args s 0 0 (xA 53 h)) (F0 m pc ls []) := fun S1 H locs ls pc hP hS hw hd => W.vret hx hb hr (fun t ht hW => ⟨⟨(S1, L), rfl, ⟨hw, rfl⟩, show va_P D vwCl (wX h cI cJ S1 L) t.heap by rw [ht]; exact hP⟩, hS.F ht⟩) hS.2.2 hd
  generalize MQ below (va_Qv (fun (u : SX × LX) => post u.1 ∧ u.2 = L) (xB D (wX h cI cJ)) (xA 53 h)) args s 0 0 (xA 53 h) = Q at hret ⊢
  unfold kX4_move_8_44 at hw
  refine lv_aload_n hx hb dX4_move_0 rfl (lv_at hl 1 rfl) ?_
  refine va_get (D := D) (ci := 4) (v := .ref (h 45)) (C := RX4) (T := TX4) (N := 5) hx hb hts inX4 hown hK hP 44 wX_44 rfl 1 (by decide) f0 (fun _ h9 => h9) rfl dX4_move_1 ?_
  refine lv_iload_n hx hb dX4_move_4 rfl (lv_at hl 2 rfl) ?_
  refine lv_aload_n hx hb dX4_move_5 rfl (lv_at hl 0 rfl) ?_
  refine va_get (D := D) (ci := 4) (v := .ref (h 9)) (C := RX4) (T := TX4) (N := 5) hx hb hts inX4 hown hK hP 8 wX_8 rfl 1 (by decide) f0 (fun _ h9 => h9) rfl dX4_move_6 ?_
  refine lv_iload_n hx hb dX4_move_9 rfl (lv_at hl 3 rfl) ?_
  refine lv_iload hx hb dX4_move_10 (lv_at hl 4 rfl) ?_
  obtain ⟨hi, hw⟩ := hw
  refine x_copyi (ws2 := wX h cI cJ (xcp S 9 45 v2.toNatClampNeg v3.toNatClampNeg v4.toNatClampNeg) L) hx hb (hml.trans hl.1.symm) hown f2 f3 f4 f5 hK hP (hD _ _) hS 45 9 0 wX_45 wX_9 rfl hi.1 hi.2.1 hi.2.2.1 hi.2.2.2.1 hi.2.2.2.2 (Nat.le_of_ble_eq_true rfl) (Nat.le_of_ble_eq_true rfl) dX4_move_12 (wX_c9 _ _ _ _) (fun H locs hP hS => ?_)
  refine lv_aload_n hx hb dX4_move_15 rfl (lv_at hl 1 rfl) ?_
  refine va_get (D := D) (ci := 4) (v := .ref (h 46)) (C := RX4) (T := TX4) (N := 5) hx hb hts inX4 hown hK hP 44 wX_44 rfl 2 (by decide) f6 (fun _ h9 => h9) rfl dX4_move_16 ?_
  refine lv_iload_n hx hb dX4_move_19 rfl (lv_at hl 2 rfl) ?_
  refine lv_aload_n hx hb dX4_move_20 rfl (lv_at hl 0 rfl) ?_
  refine va_get (D := D) (ci := 4) (v := .ref (h 10)) (C := RX4) (T := TX4) (N := 5) hx hb hts inX4 hown hK hP 8 wX_8 rfl 2 (by decide) f6 (fun _ h9 => h9) rfl dX4_move_21 ?_
  refine lv_iload_n hx hb dX4_move_24 rfl (lv_at hl 3 rfl) ?_
  refine lv_iload hx hb dX4_move_25 (lv_at hl 4 rfl) ?_
  obtain ⟨hi, hw⟩ := hw
  refine x_copyi (ws2 := wX h cI cJ (xcp (xcp S 9 45 v2.toNatClampNeg v3.toNatClampNeg v4.toNatClampNeg) 10 46 v2.toNatClampNeg v3.toNatClampNeg v4.toNatClampNeg) L) hx hb (hml.trans hl.1.symm) hown f2 f3 f4 f5 hK hP (hD _ _) hS 46 10 0 wX_46 wX_10 rfl hi.1 hi.2.1 hi.2.2.1 hi.2.2.2.1 hi.2.2.2.2 (Nat.le_of_ble_eq_true rfl) (Nat.le_of_ble_eq_true rfl) dX4_move_27 (wX_c10 _ _ _ _) (fun H locs hP hS => ?_)
  refine lv_aload_n hx hb dX4_move_30 rfl (lv_at hl 1 rfl) ?_
  refine va_get (D := D) (ci := 4) (v := .ref (h 47)) (C := RX4) (T := TX4) (N := 5) hx hb hts inX4 hown hK hP 44 wX_44 rfl 3 (by decide) f7 (fun _ h9 => h9) rfl dX4_move_31 ?_
  refine lv_iload_n hx hb dX4_move_34 rfl (lv_at hl 2 rfl) ?_
  refine lv_aload_n hx hb dX4_move_35 rfl (lv_at hl 0 rfl) ?_
  refine va_get (D := D) (ci := 4) (v := .ref (h 11)) (C := RX4) (T := TX4) (N := 5) hx hb hts inX4 hown hK hP 8 wX_8 rfl 3 (by decide) f7 (fun _ h9 => h9) rfl dX4_move_36 ?_
  refine lv_iload_n hx hb dX4_move_39 rfl (lv_at hl 3 rfl) ?_
  refine lv_iload hx hb dX4_move_40 (lv_at hl 4 rfl) ?_
  obtain ⟨hi, hw⟩ := hw
  refine x_copyi (ws2 := wX h cI cJ (xcp (xcp (xcp S 9 45 v2.toNatClampNeg v3.toNatClampNeg v4.toNatClampNeg) 10 46 v2.toNatClampNeg v3.toNatClampNeg v4.toNatClampNeg) 11 47 v2.toNatClampNeg v3.toNatClampNeg v4.toNatClampNeg) L) hx hb (hml.trans hl.1.symm) hown f2 f3 f4 f5 hK hP (hD _ _) hS 47 11 0 wX_47 wX_11 rfl hi.1 hi.2.1 hi.2.2.1 hi.2.2.2.1 hi.2.2.2.2 (Nat.le_of_ble_eq_true rfl) (Nat.le_of_ble_eq_true rfl) dX4_move_42 (wX_c11 _ _ _ _) (fun H locs hP hS => ?_)
  refine lv_aload_n hx hb dX4_move_45 rfl (lv_at hl 1 rfl) ?_
  refine va_get (D := D) (ci := 4) (v := .ref (h 48)) (C := RX4) (T := TX4) (N := 5) hx hb hts inX4 hown hK hP 44 wX_44 rfl 4 (by decide) f8 (fun _ h9 => h9) rfl dX4_move_46 ?_
  refine lv_iload_n hx hb dX4_move_49 rfl (lv_at hl 2 rfl) ?_
  refine lv_iconst (v := (4 : Int32)) hx hb dX4_move_50 (by decide) ?_
  refine lv_imul hx hb dX4_move_51 ?_
  refine lv_aload_n hx hb dX4_move_52 rfl (lv_at hl 0 rfl) ?_
  refine va_get (D := D) (ci := 4) (v := .ref (h 12)) (C := RX4) (T := TX4) (N := 5) hx hb hts inX4 hown hK hP 8 wX_8 rfl 4 (by decide) f8 (fun _ h9 => h9) rfl dX4_move_53 ?_
  refine lv_iload_n hx hb dX4_move_56 rfl (lv_at hl 3 rfl) ?_
  refine lv_iconst (v := (4 : Int32)) hx hb dX4_move_57 (by decide) ?_
  refine lv_imul hx hb dX4_move_58 ?_
  refine lv_iload hx hb dX4_move_59 (lv_at hl 4 rfl) ?_
  refine lv_iconst (v := (4 : Int32)) hx hb dX4_move_61 (by decide) ?_
  refine lv_imul hx hb dX4_move_62 ?_
  obtain ⟨hi, hw⟩ := hw
  refine x_copyi (ws2 := wX h cI cJ (xcp (xcp (xcp (xcp S 9 45 v2.toNatClampNeg v3.toNatClampNeg v4.toNatClampNeg) 10 46 v2.toNatClampNeg v3.toNatClampNeg v4.toNatClampNeg) 11 47 v2.toNatClampNeg v3.toNatClampNeg v4.toNatClampNeg) 12 48 (v2 * (4 : Int32)).toNatClampNeg (v3 * (4 : Int32)).toNatClampNeg (v4 * (4 : Int32)).toNatClampNeg) L) hx hb (hml.trans hl.1.symm) hown f2 f3 f4 f5 hK hP (hD _ _) hS 48 12 0 wX_48 wX_12 rfl hi.1 hi.2.1 hi.2.2.1 hi.2.2.2.1 hi.2.2.2.2 (Nat.le_of_ble_eq_true rfl) (Nat.le_of_ble_eq_true rfl) dX4_move_63 (wX_c12 _ _ _ _) (fun H locs hP hS => ?_)
  exact hret _ _ _ _ _ hP hS hw dX4_move_66
abbrev rX4_addAll : Room := { frames := 2, cells := 0, slots := 0, locals := 56 }
set_option maxHeartbeats 4000000 in
set_option maxRecDepth 100000 in
theorem mX4_addAll (l : Launch) (D : va_G) (h : Nat → Nat) (cI cJ : ClassId) (t0 : Nat) (hh : xdis 53 h) (S : SX) (L : LX) (post : SX → Prop) (hw : kX4_addAll S L  post) : Met l yX4_addAll wsX4_addAll rX4_addAll (xPre D (wX h cI cJ) (xE D h cI cJ t0) S L [.ref (h 8), .ref (h 44)]) (va_Qv (fun (u : SX × LX) => post u.1 ∧ u.2 = L) (xB D (wX h cI cJ)) (xA 53 h)) 0 0 (xA 53 h) := by
  refine Met.ofW (cc := cX4_addAll) (maxL := 2) (ret := none) (by decide) rfl ?_
  intro p e s m args below meth c s₁ B hml hv
  obtain ⟨hargs, hP, hE⟩ := hv
  have hx := B.exec
  have hb := B.bytes
  have hr := B.returns
  have hlocks := B.notSynchronized
  have hts := atoms_spec (ws := wsX4_addAll) B.pre
  have hown : s.vm.findClass RX4 = some m.cls := findClass_of_methodNamed B.named
  have hS : va_S (xA 53 h) s.heap s.heap [] := va_S.rf
  have hD : ∀ (S : SX) (L : LX), va_D (xA 53 h) (wX h cI cJ S L) := fun S L => wX_D hh cI cJ S L
  have hK := hE.1
  have hst : xSt (xA 53 h) (xE D h cI cJ t0) := xE_st D h cI cJ t0
  have f0 := hts (.fieldLink RX4 24 "BookOfWills$Wills" "size" "I") (by decide +kernel)
  have inX4 : ∀ w ∈ u_ws RX4 TX4 5, w ∈ wsX4_addAll := fun w hw9 => List.mem_cons_of_mem _ (List.mem_append_right _ hw9)
  have hl := lv_entry ([.ref (h 8), .ref (h 44)]) (n := 2) (Nat.le_of_ble_eq_true rfl)
  have hen : entryFrame m args 2 = F0 m 0 ((lg_sl ([.ref (h 8), .ref (h 44)]) ++ List.replicate (2 - (lg_sl ([.ref (h 8), .ref (h 44)])).length) Slot.unset).toArray) [] := by rw [hargs]; exact lg_entry_eq m _ _
  rw [hen]
  generalize (lg_sl ([.ref (h 8), .ref (h 44)]) ++ List.replicate (2 - (lg_sl ([.ref (h 8), .ref (h 44)])).length) Slot.unset).toArray = ls at hl ⊢
  have hl : lv_has ls 2 [(0, .ref (h 8)), (1, .ref (h 44))] := hl
  change W p l e rX4_addAll s m args below meth c s.heap [] 0 0 (MQ below (va_Qv (fun (u : SX × LX) => post u.1 ∧ u.2 = L) (xB D (wX h cI cJ)) (xA 53 h)) args s 0 0 (xA 53 h)) (F0 m 0 ls [])
  have hret : ∀ (S1 : SX) (H : Heap) (locs : List Loc) (ls : Array Slot) (pc : Nat), va_P D vwCl (wX h cI cJ S1 L) H → va_S (xA 53 h) s.heap H locs → post S1 → decode cX4_addAll pc = .ok (.return_, 1) → W p l e rX4_addAll s m args below meth c H locs 0 0 (MQ below (va_Qv (fun (u : SX × LX) => post u.1 ∧ u.2 = L) (xB D (wX h cI cJ)) (xA 53 h)) args s 0 0 (xA 53 h)) (F0 m pc ls []) := fun S1 H locs ls pc hP hS hw hd => W.vret hx hb hr (fun t ht hW => ⟨⟨(S1, L), rfl, ⟨hw, rfl⟩, show va_P D vwCl (wX h cI cJ S1 L) t.heap by rw [ht]; exact hP⟩, hS.F ht⟩) hS.2.2 hd
  generalize MQ below (va_Qv (fun (u : SX × LX) => post u.1 ∧ u.2 = L) (xB D (wX h cI cJ)) (xA 53 h)) args s 0 0 (xA 53 h) = Q at hret ⊢
  unfold kX4_addAll at hw
  refine lv_aload_n hx hb dX4_addAll_0 rfl (lv_at hl 0 rfl) ?_
  refine lv_aload_n hx hb dX4_addAll_1 rfl (lv_at hl 1 rfl) ?_
  refine va_get (D := D) (ci := 4) (v := .int (S 44 0)) (C := RX4) (T := TX4) (N := 5) hx hb hts inX4 hown hK hP 44 wX_44 rfl 0 (by decide) f0 (fun _ h9 => h9) rfl dX4_addAll_2 ?_
  refine xVi0 (As := [.int (S 44 0)]) (rest := []) hst hE hP hS ⟨hx, hb, hml, hown, hts⟩ (va_recv hK hP (ci := 4) (q := (RX4, TX4, 5)) rfl wX_8) (mX4_hasRoomFor_8 l D h cI cJ t0 hh S L (S 44 0) _ hw) (cwV 1 hts gX4_addAll_X4_hasRoomFor rfl rfl rfl (by decide +kernel) ⟨Nat.le_of_ble_eq_true rfl, Nat.le_of_ble_eq_true rfl⟩) rfl hl.1 rfl (Nat.le_of_ble_eq_true rfl) dX4_addAll_5 ⟨Nat.zero_le _, Nat.zero_le _⟩ (fun r5 H locs hw hP hS => ?_)
  refine lv_if_eq (tgt := 38) hx hb dX4_addAll_8 (by decide) (fun hc => ?_) (fun hc => ?_)
  · replace hw := And.left hw hc
    exact hret _ _ _ _ _ hP hS hw dX4_addAll_38
  · replace hw := And.right hw hc
    refine lv_aload_n hx hb dX4_addAll_11 rfl (lv_at hl 0 rfl) ?_
    refine lv_aload_n hx hb dX4_addAll_12 rfl (lv_at hl 1 rfl) ?_
    refine lv_iconst (v := (0 : Int32)) hx hb dX4_addAll_13 (by decide) ?_
    refine lv_aload_n hx hb dX4_addAll_14 rfl (lv_at hl 0 rfl) ?_
    refine va_get (D := D) (ci := 4) (v := .int (S 8 0)) (C := RX4) (T := TX4) (N := 5) hx hb hts inX4 hown hK hP 8 wX_8 rfl 0 (by decide) f0 (fun _ h9 => h9) rfl dX4_addAll_15 ?_
    refine lv_aload_n hx hb dX4_addAll_18 rfl (lv_at hl 1 rfl) ?_
    refine va_get (D := D) (ci := 4) (v := .int (S 44 0)) (C := RX4) (T := TX4) (N := 5) hx hb hts inX4 hown hK hP 44 wX_44 rfl 0 (by decide) f0 (fun _ h9 => h9) rfl dX4_addAll_19 ?_
    refine xVv1 (As := [.ref (h 44), .int (0 : Int32), .int (S 8 0), .int (S 44 0)]) (rest := []) hst hE hP hS ⟨hx, hb, hml, hown, hts⟩ (va_recv hK hP (ci := 4) (q := (RX4, TX4, 5)) rfl wX_8) (mX4_move_8_44 l D h cI cJ t0 hh S L (0 : Int32) (S 8 0) (S 44 0) _ hw) (cwV 4 hts gX4_addAll_X4_move rfl rfl rfl (by decide +kernel) ⟨Nat.le_of_ble_eq_true rfl, Nat.le_of_ble_eq_true rfl⟩) rfl hl.1 rfl (Nat.le_of_ble_eq_true rfl) dX4_addAll_22 ⟨Nat.zero_le _, Nat.zero_le _⟩ (fun S22 H locs hw hP hS => ?_)
    refine lv_aload_n hx hb dX4_addAll_25 rfl (lv_at hl 0 rfl) ?_
    refine lv_dup hx hb dX4_addAll_26 rfl ?_
    refine va_get (D := D) (ci := 4) (v := .int (S22 8 0)) (C := RX4) (T := TX4) (N := 5) hx hb hts inX4 hown hK hP 8 wX_8 rfl 0 (by decide) f0 (fun _ h9 => h9) rfl dX4_addAll_27 ?_
    refine lv_aload_n hx hb dX4_addAll_30 rfl (lv_at hl 1 rfl) ?_
    refine va_get (D := D) (ci := 4) (v := .int (S22 44 0)) (C := RX4) (T := TX4) (N := 5) hx hb hts inX4 hown hK hP 44 wX_44 rfl 0 (by decide) f0 (fun _ h9 => h9) rfl dX4_addAll_31 ?_
    refine lv_iadd hx hb dX4_addAll_34 ?_
    refine x_put (D := D) (ci := 4) (v := .int ((S22 8 0) + (S22 44 0))) (ty := .int) (C := RX4) (T := TX4) (N := 5) (ws2 := wX h cI cJ (xu S22 8 0 ((S22 8 0) + (S22 44 0))) L) hx hb hts inX4 tyX4 tyX4_ok nmX4 hown hK hP (hD _ _) hS 8 wX_8 rfl 0 (by decide) f0 (fun _ h9 => h9) rfl (by decide +kernel) rfl rfl (Nat.le_of_ble_eq_true rfl) dX4_addAll_35 (wX_p8_0 _) (fun H locs hP hS => ?_)
    exact hret _ _ _ _ _ hP hS hw dX4_addAll_38
abbrev rJ6_bitCount : Room := { frames := 0, cells := 0, slots := 0, locals := 0 }
set_option maxHeartbeats 4000000 in
set_option maxRecDepth 100000 in
theorem mJ6_bitCount (l : Launch) (D : va_G) (h : Nat → Nat) (cI cJ : ClassId) (t0 : Nat) (hh : xdis 53 h) (S : SX) (L : LX) (v0 : Int32) (post : Int32 → Prop) (hw : kJ6_bitCount S L v0 post) : Met l yJ6_bitCount_0f7a4 wsJ6_bitCount_0f7a4 rJ6_bitCount (xPre D (wX h cI cJ) (xE D h cI cJ t0) S L [.int v0]) (va_Qi (fun (r : Int32) (u : SX × LX) => post r ∧ u.1 = S ∧ u.2 = L) (xB D (wX h cI cJ)) (xA 53 h)) 0 0 (xA 53 h) := by
  refine Met.ofW (cc := cJ6_bitCount_0f7a4) (maxL := 1) (ret := (some .int)) (by decide) rfl ?_
  intro p e s m args below meth c s₁ B hml hv
  obtain ⟨hargs, hP, hE⟩ := hv
  have hx := B.exec
  have hb := B.bytes
  have hr := B.returns
  have hlocks := B.notSynchronized
  have hts := atoms_spec (ws := wsJ6_bitCount_0f7a4) B.pre
  have hown : s.vm.findClass RJ6 = some m.cls := findClass_of_methodNamed B.named
  have hS : va_S (xA 53 h) s.heap s.heap [] := va_S.rf
  have hD : ∀ (S : SX) (L : LX), va_D (xA 53 h) (wX h cI cJ S L) := fun S L => wX_D hh cI cJ S L
  have hK := hE.1
  have hst : xSt (xA 53 h) (xE D h cI cJ t0) := xE_st D h cI cJ t0
  have f0 := hts (.constant RJ6 265 (1431655765)) (by decide +kernel)
  have f1 := hts (.constant RJ6 266 (858993459)) (by decide +kernel)
  have f2 := hts (.constant RJ6 267 (252645135)) (by decide +kernel)
  have hl := lv_entry ([.int v0]) (n := 1) (Nat.le_of_ble_eq_true rfl)
  have hen : entryFrame m args 1 = F0 m 0 ((lg_sl ([.int v0]) ++ List.replicate (1 - (lg_sl ([.int v0])).length) Slot.unset).toArray) [] := by rw [hargs]; exact lg_entry_eq m _ _
  rw [hen]
  generalize (lg_sl ([.int v0]) ++ List.replicate (1 - (lg_sl ([.int v0])).length) Slot.unset).toArray = ls at hl ⊢
  have hl : lv_has ls 1 [(0, .int v0)] := hl
  change W p l e rJ6_bitCount s m args below meth c s.heap [] 0 0 (MQ below (va_Qi (fun (r : Int32) (u : SX × LX) => post r ∧ u.1 = S ∧ u.2 = L) (xB D (wX h cI cJ)) (xA 53 h)) args s 0 0 (xA 53 h)) (F0 m 0 ls [])
  have hret : ∀ (r : Int32) (H : Heap) (locs : List Loc) (ls : Array Slot) (pc : Nat), va_P D vwCl (wX h cI cJ S L) H → va_S (xA 53 h) s.heap H locs → post r → decode cJ6_bitCount_0f7a4 pc = .ok (.ireturn, 1) → W p l e rJ6_bitCount s m args below meth c H locs 0 0 (MQ below (va_Qi (fun (r : Int32) (u : SX × LX) => post r ∧ u.1 = S ∧ u.2 = L) (xB D (wX h cI cJ)) (xA 53 h)) args s 0 0 (xA 53 h)) (F0 m pc ls [.int r]) := fun r H locs ls pc hP hS hw hd => W.iret hx hb hr (fun t ht hW => ⟨⟨r, (S, L), rfl, ⟨hw, rfl, rfl⟩, show va_P D vwCl (wX h cI cJ S L) t.heap by rw [ht]; exact hP⟩, hS.F ht⟩) hS.2.2 hd
  generalize MQ below (va_Qi (fun (r : Int32) (u : SX × LX) => post r ∧ u.1 = S ∧ u.2 = L) (xB D (wX h cI cJ)) (xA 53 h)) args s 0 0 (xA 53 h) = Q at hret ⊢
  unfold kJ6_bitCount at hw
  refine lv_iload_n hx hb dJ6_bitCount_0f7a4_0 rfl (lv_at hl 0 rfl) ?_
  refine lv_iload_n hx hb dJ6_bitCount_0f7a4_1 rfl (lv_at hl 0 rfl) ?_
  refine lv_iconst (v := (1 : Int32)) hx hb dJ6_bitCount_0f7a4_2 (by decide) ?_
  refine lv_iushr hx hb dJ6_bitCount_0f7a4_3 rfl ?_
  refine lv_ldcw (v := (1431655765 : Int32)) hx hb hown (f0) dJ6_bitCount_0f7a4_4 ?_
  refine lv_iand hx hb dJ6_bitCount_0f7a4_7 ?_
  refine lv_isub hx hb dJ6_bitCount_0f7a4_8 ?_
  refine lv_istore_n (lv' := [(0, .int (v0 - (((v0.toUInt32 >>> ((1 : Int32).toUInt32 &&& Int32.toUInt32 31)).toInt32) &&& (1431655765 : Int32))))]) hx hb dJ6_bitCount_0f7a4_9 rfl hl (by decide) rfl (fun ls hl => ?_)
  refine lv_iload_n hx hb dJ6_bitCount_0f7a4_10 rfl (lv_at hl 0 rfl) ?_
  refine lv_ldcw (v := (858993459 : Int32)) hx hb hown (f1) dJ6_bitCount_0f7a4_11 ?_
  refine lv_iand hx hb dJ6_bitCount_0f7a4_14 ?_
  refine lv_iload_n hx hb dJ6_bitCount_0f7a4_15 rfl (lv_at hl 0 rfl) ?_
  refine lv_iconst (v := (2 : Int32)) hx hb dJ6_bitCount_0f7a4_16 (by decide) ?_
  refine lv_iushr hx hb dJ6_bitCount_0f7a4_17 rfl ?_
  refine lv_ldcw (v := (858993459 : Int32)) hx hb hown (f1) dJ6_bitCount_0f7a4_18 ?_
  refine lv_iand hx hb dJ6_bitCount_0f7a4_21 ?_
  refine lv_iadd hx hb dJ6_bitCount_0f7a4_22 ?_
  refine lv_istore_n (lv' := [(0, .int (((v0 - (((v0.toUInt32 >>> ((1 : Int32).toUInt32 &&& Int32.toUInt32 31)).toInt32) &&& (1431655765 : Int32))) &&& (858993459 : Int32)) + ((((v0 - (((v0.toUInt32 >>> ((1 : Int32).toUInt32 &&& Int32.toUInt32 31)).toInt32) &&& (1431655765 : Int32))).toUInt32 >>> ((2 : Int32).toUInt32 &&& Int32.toUInt32 31)).toInt32) &&& (858993459 : Int32))))]) hx hb dJ6_bitCount_0f7a4_23 rfl hl (by decide) rfl (fun ls hl => ?_)
  refine lv_iload_n hx hb dJ6_bitCount_0f7a4_24 rfl (lv_at hl 0 rfl) ?_
  refine lv_iload_n hx hb dJ6_bitCount_0f7a4_25 rfl (lv_at hl 0 rfl) ?_
  refine lv_iconst (v := (4 : Int32)) hx hb dJ6_bitCount_0f7a4_26 (by decide) ?_
  refine lv_iushr hx hb dJ6_bitCount_0f7a4_27 rfl ?_
  refine lv_iadd hx hb dJ6_bitCount_0f7a4_28 ?_
  refine lv_ldcw (v := (252645135 : Int32)) hx hb hown (f2) dJ6_bitCount_0f7a4_29 ?_
  refine lv_iand hx hb dJ6_bitCount_0f7a4_32 ?_
  refine lv_istore_n (lv' := [(0, .int (((((v0 - (((v0.toUInt32 >>> ((1 : Int32).toUInt32 &&& Int32.toUInt32 31)).toInt32) &&& (1431655765 : Int32))) &&& (858993459 : Int32)) + ((((v0 - (((v0.toUInt32 >>> ((1 : Int32).toUInt32 &&& Int32.toUInt32 31)).toInt32) &&& (1431655765 : Int32))).toUInt32 >>> ((2 : Int32).toUInt32 &&& Int32.toUInt32 31)).toInt32) &&& (858993459 : Int32))) + (((((v0 - (((v0.toUInt32 >>> ((1 : Int32).toUInt32 &&& Int32.toUInt32 31)).toInt32) &&& (1431655765 : Int32))) &&& (858993459 : Int32)) + ((((v0 - (((v0.toUInt32 >>> ((1 : Int32).toUInt32 &&& Int32.toUInt32 31)).toInt32) &&& (1431655765 : Int32))).toUInt32 >>> ((2 : Int32).toUInt32 &&& Int32.toUInt32 31)).toInt32) &&& (858993459 : Int32))).toUInt32 >>> ((4 : Int32).toUInt32 &&& Int32.toUInt32 31)).toInt32)) &&& (252645135 : Int32)))]) hx hb dJ6_bitCount_0f7a4_33 rfl hl (by decide) rfl (fun ls hl => ?_)
  refine lv_iload_n hx hb dJ6_bitCount_0f7a4_34 rfl (lv_at hl 0 rfl) ?_
  refine lv_iload_n hx hb dJ6_bitCount_0f7a4_35 rfl (lv_at hl 0 rfl) ?_
  refine lv_bipush (v := (8 : Int32)) hx hb dJ6_bitCount_0f7a4_36 (by decide) ?_
  refine lv_iushr hx hb dJ6_bitCount_0f7a4_38 rfl ?_
  refine lv_iadd hx hb dJ6_bitCount_0f7a4_39 ?_
  refine lv_istore_n (lv' := [(0, .int ((((((v0 - (((v0.toUInt32 >>> ((1 : Int32).toUInt32 &&& Int32.toUInt32 31)).toInt32) &&& (1431655765 : Int32))) &&& (858993459 : Int32)) + ((((v0 - (((v0.toUInt32 >>> ((1 : Int32).toUInt32 &&& Int32.toUInt32 31)).toInt32) &&& (1431655765 : Int32))).toUInt32 >>> ((2 : Int32).toUInt32 &&& Int32.toUInt32 31)).toInt32) &&& (858993459 : Int32))) + (((((v0 - (((v0.toUInt32 >>> ((1 : Int32).toUInt32 &&& Int32.toUInt32 31)).toInt32) &&& (1431655765 : Int32))) &&& (858993459 : Int32)) + ((((v0 - (((v0.toUInt32 >>> ((1 : Int32).toUInt32 &&& Int32.toUInt32 31)).toInt32) &&& (1431655765 : Int32))).toUInt32 >>> ((2 : Int32).toUInt32 &&& Int32.toUInt32 31)).toInt32) &&& (858993459 : Int32))).toUInt32 >>> ((4 : Int32).toUInt32 &&& Int32.toUInt32 31)).toInt32)) &&& (252645135 : Int32)) + (((((((v0 - (((v0.toUInt32 >>> ((1 : Int32).toUInt32 &&& Int32.toUInt32 31)).toInt32) &&& (1431655765 : Int32))) &&& (858993459 : Int32)) + ((((v0 - (((v0.toUInt32 >>> ((1 : Int32).toUInt32 &&& Int32.toUInt32 31)).toInt32) &&& (1431655765 : Int32))).toUInt32 >>> ((2 : Int32).toUInt32 &&& Int32.toUInt32 31)).toInt32) &&& (858993459 : Int32))) + (((((v0 - (((v0.toUInt32 >>> ((1 : Int32).toUInt32 &&& Int32.toUInt32 31)).toInt32) &&& (1431655765 : Int32))) &&& (858993459 : Int32)) + ((((v0 - (((v0.toUInt32 >>> ((1 : Int32).toUInt32 &&& Int32.toUInt32 31)).toInt32) &&& (1431655765 : Int32))).toUInt32 >>> ((2 : Int32).toUInt32 &&& Int32.toUInt32 31)).toInt32) &&& (858993459 : Int32))).toUInt32 >>> ((4 : Int32).toUInt32 &&& Int32.toUInt32 31)).toInt32)) &&& (252645135 : Int32)).toUInt32 >>> ((8 : Int32).toUInt32 &&& Int32.toUInt32 31)).toInt32)))]) hx hb dJ6_bitCount_0f7a4_40 rfl hl (by decide) rfl (fun ls hl => ?_)
  refine lv_iload_n hx hb dJ6_bitCount_0f7a4_41 rfl (lv_at hl 0 rfl) ?_
  refine lv_iload_n hx hb dJ6_bitCount_0f7a4_42 rfl (lv_at hl 0 rfl) ?_
  refine lv_bipush (v := (16 : Int32)) hx hb dJ6_bitCount_0f7a4_43 (by decide) ?_
  refine lv_iushr hx hb dJ6_bitCount_0f7a4_45 rfl ?_
  refine lv_iadd hx hb dJ6_bitCount_0f7a4_46 ?_
  refine lv_istore_n (lv' := [(0, .int (((((((v0 - (((v0.toUInt32 >>> ((1 : Int32).toUInt32 &&& Int32.toUInt32 31)).toInt32) &&& (1431655765 : Int32))) &&& (858993459 : Int32)) + ((((v0 - (((v0.toUInt32 >>> ((1 : Int32).toUInt32 &&& Int32.toUInt32 31)).toInt32) &&& (1431655765 : Int32))).toUInt32 >>> ((2 : Int32).toUInt32 &&& Int32.toUInt32 31)).toInt32) &&& (858993459 : Int32))) + (((((v0 - (((v0.toUInt32 >>> ((1 : Int32).toUInt32 &&& Int32.toUInt32 31)).toInt32) &&& (1431655765 : Int32))) &&& (858993459 : Int32)) + ((((v0 - (((v0.toUInt32 >>> ((1 : Int32).toUInt32 &&& Int32.toUInt32 31)).toInt32) &&& (1431655765 : Int32))).toUInt32 >>> ((2 : Int32).toUInt32 &&& Int32.toUInt32 31)).toInt32) &&& (858993459 : Int32))).toUInt32 >>> ((4 : Int32).toUInt32 &&& Int32.toUInt32 31)).toInt32)) &&& (252645135 : Int32)) + (((((((v0 - (((v0.toUInt32 >>> ((1 : Int32).toUInt32 &&& Int32.toUInt32 31)).toInt32) &&& (1431655765 : Int32))) &&& (858993459 : Int32)) + ((((v0 - (((v0.toUInt32 >>> ((1 : Int32).toUInt32 &&& Int32.toUInt32 31)).toInt32) &&& (1431655765 : Int32))).toUInt32 >>> ((2 : Int32).toUInt32 &&& Int32.toUInt32 31)).toInt32) &&& (858993459 : Int32))) + (((((v0 - (((v0.toUInt32 >>> ((1 : Int32).toUInt32 &&& Int32.toUInt32 31)).toInt32) &&& (1431655765 : Int32))) &&& (858993459 : Int32)) + ((((v0 - (((v0.toUInt32 >>> ((1 : Int32).toUInt32 &&& Int32.toUInt32 31)).toInt32) &&& (1431655765 : Int32))).toUInt32 >>> ((2 : Int32).toUInt32 &&& Int32.toUInt32 31)).toInt32) &&& (858993459 : Int32))).toUInt32 >>> ((4 : Int32).toUInt32 &&& Int32.toUInt32 31)).toInt32)) &&& (252645135 : Int32)).toUInt32 >>> ((8 : Int32).toUInt32 &&& Int32.toUInt32 31)).toInt32)) + ((((((((v0 - (((v0.toUInt32 >>> ((1 : Int32).toUInt32 &&& Int32.toUInt32 31)).toInt32) &&& (1431655765 : Int32))) &&& (858993459 : Int32)) + ((((v0 - (((v0.toUInt32 >>> ((1 : Int32).toUInt32 &&& Int32.toUInt32 31)).toInt32) &&& (1431655765 : Int32))).toUInt32 >>> ((2 : Int32).toUInt32 &&& Int32.toUInt32 31)).toInt32) &&& (858993459 : Int32))) + (((((v0 - (((v0.toUInt32 >>> ((1 : Int32).toUInt32 &&& Int32.toUInt32 31)).toInt32) &&& (1431655765 : Int32))) &&& (858993459 : Int32)) + ((((v0 - (((v0.toUInt32 >>> ((1 : Int32).toUInt32 &&& Int32.toUInt32 31)).toInt32) &&& (1431655765 : Int32))).toUInt32 >>> ((2 : Int32).toUInt32 &&& Int32.toUInt32 31)).toInt32) &&& (858993459 : Int32))).toUInt32 >>> ((4 : Int32).toUInt32 &&& Int32.toUInt32 31)).toInt32)) &&& (252645135 : Int32)) + (((((((v0 - (((v0.toUInt32 >>> ((1 : Int32).toUInt32 &&& Int32.toUInt32 31)).toInt32) &&& (1431655765 : Int32))) &&& (858993459 : Int32)) + ((((v0 - (((v0.toUInt32 >>> ((1 : Int32).toUInt32 &&& Int32.toUInt32 31)).toInt32) &&& (1431655765 : Int32))).toUInt32 >>> ((2 : Int32).toUInt32 &&& Int32.toUInt32 31)).toInt32) &&& (858993459 : Int32))) + (((((v0 - (((v0.toUInt32 >>> ((1 : Int32).toUInt32 &&& Int32.toUInt32 31)).toInt32) &&& (1431655765 : Int32))) &&& (858993459 : Int32)) + ((((v0 - (((v0.toUInt32 >>> ((1 : Int32).toUInt32 &&& Int32.toUInt32 31)).toInt32) &&& (1431655765 : Int32))).toUInt32 >>> ((2 : Int32).toUInt32 &&& Int32.toUInt32 31)).toInt32) &&& (858993459 : Int32))).toUInt32 >>> ((4 : Int32).toUInt32 &&& Int32.toUInt32 31)).toInt32)) &&& (252645135 : Int32)).toUInt32 >>> ((8 : Int32).toUInt32 &&& Int32.toUInt32 31)).toInt32)).toUInt32 >>> ((16 : Int32).toUInt32 &&& Int32.toUInt32 31)).toInt32)))]) hx hb dJ6_bitCount_0f7a4_47 rfl hl (by decide) rfl (fun ls hl => ?_)
  refine lv_iload_n hx hb dJ6_bitCount_0f7a4_48 rfl (lv_at hl 0 rfl) ?_
  refine lv_bipush (v := (63 : Int32)) hx hb dJ6_bitCount_0f7a4_49 (by decide) ?_
  refine lv_iand hx hb dJ6_bitCount_0f7a4_51 ?_
  exact hret _ _ _ _ _ hP hS hw dJ6_bitCount_0f7a4_52
abbrev rX1_insert : Room := { frames := 0, cells := 0, slots := 0, locals := 0 }
set_option maxHeartbeats 4000000 in
set_option maxRecDepth 100000 in
theorem mX1_insert (l : Launch) (D : va_G) (h : Nat → Nat) (cI cJ : ClassId) (t0 : Nat) (hh : xdis 53 h) (S : SX) (L : LX) (v1 : Int32) (v2 : Int32) (v3 : Int32) (post : SX → Prop) (hw : kX1_insert S L v1 v2 v3 post) : Met l yX1_insert wsX1_insert rX1_insert (xPre D (wX h cI cJ) (xE D h cI cJ t0) S L [.ref (h 33), .int v1, .int v2, .int v3]) (va_Qv (fun (u : SX × LX) => post u.1 ∧ u.2 = L) (xB D (wX h cI cJ)) (xA 53 h)) 0 0 (xA 53 h) := by
  refine Met.ofW (cc := cX1_insert) (maxL := 5) (ret := none) (by decide) rfl ?_
  intro p e s m args below meth c s₁ B hml hv
  obtain ⟨hargs, hP, hE⟩ := hv
  have hx := B.exec
  have hb := B.bytes
  have hr := B.returns
  have hlocks := B.notSynchronized
  have hts := atoms_spec (ws := wsX1_insert) B.pre
  have hown : s.vm.findClass RX1 = some m.cls := findClass_of_methodNamed B.named
  have hS : va_S (xA 53 h) s.heap s.heap [] := va_S.rf
  have hD : ∀ (S : SX) (L : LX), va_D (xA 53 h) (wX h cI cJ S L) := fun S L => wX_D hh cI cJ S L
  have hK := hE.1
  have hst : xSt (xA 53 h) (xE D h cI cJ t0) := xE_st D h cI cJ t0
  have f0 := hts (.fieldLink RX1 9 "BookOfWills$Living" "number" "[I") (by decide +kernel)
  have inX1 : ∀ w ∈ u_ws RX1 TX1 4, w ∈ wsX1_insert := fun w hw9 => List.mem_cons_of_mem _ (List.mem_append_right _ hw9)
  have f2 := hts (.fieldLink RX1 15 "BookOfWills$Living" "sworn" "[I") (by decide +kernel)
  have f3 := hts (.fieldLink RX1 18 "BookOfWills$Living" "weight" "[I") (by decide +kernel)
  have f4 := hts (.fieldLink RX1 21 "BookOfWills$Living" "size" "I") (by decide +kernel)
  have hl := lv_entry ([.ref (h 33), .int v1, .int v2, .int v3]) (n := 5) (Nat.le_of_ble_eq_true rfl)
  have hen : entryFrame m args 5 = F0 m 0 ((lg_sl ([.ref (h 33), .int v1, .int v2, .int v3]) ++ List.replicate (5 - (lg_sl ([.ref (h 33), .int v1, .int v2, .int v3])).length) Slot.unset).toArray) [] := by rw [hargs]; exact lg_entry_eq m _ _
  rw [hen]
  generalize (lg_sl ([.ref (h 33), .int v1, .int v2, .int v3]) ++ List.replicate (5 - (lg_sl ([.ref (h 33), .int v1, .int v2, .int v3])).length) Slot.unset).toArray = ls at hl ⊢
  have hl : lv_has ls 5 [(0, .ref (h 33)), (1, .int v1), (2, .int v2), (3, .int v3)] := hl
  change W p l e rX1_insert s m args below meth c s.heap [] 0 0 (MQ below (va_Qv (fun (u : SX × LX) => post u.1 ∧ u.2 = L) (xB D (wX h cI cJ)) (xA 53 h)) args s 0 0 (xA 53 h)) (F0 m 0 ls [])
  have hret : ∀ (S1 : SX) (H : Heap) (locs : List Loc) (ls : Array Slot) (pc : Nat), va_P D vwCl (wX h cI cJ S1 L) H → va_S (xA 53 h) s.heap H locs → post S1 → decode cX1_insert pc = .ok (.return_, 1) → W p l e rX1_insert s m args below meth c H locs 0 0 (MQ below (va_Qv (fun (u : SX × LX) => post u.1 ∧ u.2 = L) (xB D (wX h cI cJ)) (xA 53 h)) args s 0 0 (xA 53 h)) (F0 m pc ls []) := fun S1 H locs ls pc hP hS hw hd => W.vret hx hb hr (fun t ht hW => ⟨⟨(S1, L), rfl, ⟨hw, rfl⟩, show va_P D vwCl (wX h cI cJ S1 L) t.heap by rw [ht]; exact hP⟩, hS.F ht⟩) hS.2.2 hd
  generalize MQ below (va_Qv (fun (u : SX × LX) => post u.1 ∧ u.2 = L) (xB D (wX h cI cJ)) (xA 53 h)) args s 0 0 (xA 53 h) = Q at hret ⊢
  have b16 : ∀  (n16 : Nat) (v4 : Int32) (S : SX) (H : Heap) (locs : List Loc) (ls : Array Slot), lv_has ls 5 [(0, .ref (h 33)), (1, .int v1), (2, .int v2), (3, .int v3), (4, .int v4)] → va_P D vwCl (wX h cI cJ S L) H → va_S (xA 53 h) s.heap H locs → kX1_insert_b16 L v1 v2 v3 post n16 v4 S → W p l e rX1_insert s m args below meth c H locs 0 0 Q (F0 m 16 ls []) := by
    intro n16
    induction n16 with
    | zero => intro v4 S H locs ls hl hP hS hw; exact absurd hw id
    | succ n16 i16 =>
      have b88 : ∀ (v4 : Int32) (S : SX) (H : Heap) (locs : List Loc) (ls : Array Slot), lv_has ls 5 [(0, .ref (h 33)), (1, .int v1), (2, .int v2), (3, .int v3), (4, .int v4)] → va_P D vwCl (wX h cI cJ S L) H → va_S (xA 53 h) s.heap H locs → kX1_insert_b88 L v1 v2 v3 post v4 S → W p l e rX1_insert s m args below meth c H locs 0 0 Q (F0 m 88 ls []) := by
        intro v4 S H locs ls hl hP hS hw
        unfold kX1_insert_b88 at hw
        refine lv_aload_n hx hb dX1_insert_88 rfl (lv_at hl 0 rfl) ?_
        refine va_get (D := D) (ci := 1) (v := .ref (h 34)) (C := RX1) (T := TX1) (N := 4) hx hb hts inX1 hown hK hP 33 wX_33 rfl 1 (by decide) f0 (fun _ h9 => h9) rfl dX1_insert_89 ?_
        refine lv_iload hx hb dX1_insert_92 (lv_at hl 4 rfl) ?_
        refine lv_iload_n hx hb dX1_insert_94 rfl (lv_at hl 1 rfl) ?_
        obtain ⟨hi, hw⟩ := hw
        refine x_iast (ws2 := wX h cI cJ (xu S 34 v4.toNatClampNeg v1) L) hx hb hK hP (hD _ _) hS 34 0 wX_34 rfl hi dX1_insert_95 (wX_u34 _ _) (fun H locs hP hS => ?_)
        refine lv_aload_n hx hb dX1_insert_96 rfl (lv_at hl 0 rfl) ?_
        refine va_get (D := D) (ci := 1) (v := .ref (h 35)) (C := RX1) (T := TX1) (N := 4) hx hb hts inX1 hown hK hP 33 wX_33 rfl 2 (by decide) f2 (fun _ h9 => h9) rfl dX1_insert_97 ?_
        refine lv_iload hx hb dX1_insert_100 (lv_at hl 4 rfl) ?_
        refine lv_iload_n hx hb dX1_insert_102 rfl (lv_at hl 2 rfl) ?_
        obtain ⟨hi, hw⟩ := hw
        refine x_iast (ws2 := wX h cI cJ (xu (xu S 34 v4.toNatClampNeg v1) 35 v4.toNatClampNeg v2) L) hx hb hK hP (hD _ _) hS 35 0 wX_35 rfl hi dX1_insert_103 (wX_u35 _ _) (fun H locs hP hS => ?_)
        refine lv_aload_n hx hb dX1_insert_104 rfl (lv_at hl 0 rfl) ?_
        refine va_get (D := D) (ci := 1) (v := .ref (h 36)) (C := RX1) (T := TX1) (N := 4) hx hb hts inX1 hown hK hP 33 wX_33 rfl 3 (by decide) f3 (fun _ h9 => h9) rfl dX1_insert_105 ?_
        refine lv_iload hx hb dX1_insert_108 (lv_at hl 4 rfl) ?_
        refine lv_iload_n hx hb dX1_insert_110 rfl (lv_at hl 3 rfl) ?_
        obtain ⟨hi, hw⟩ := hw
        refine x_iast (ws2 := wX h cI cJ (xu (xu (xu S 34 v4.toNatClampNeg v1) 35 v4.toNatClampNeg v2) 36 v4.toNatClampNeg v3) L) hx hb hK hP (hD _ _) hS 36 0 wX_36 rfl hi dX1_insert_111 (wX_u36 _ _) (fun H locs hP hS => ?_)
        refine lv_aload_n hx hb dX1_insert_112 rfl (lv_at hl 0 rfl) ?_
        refine lv_dup hx hb dX1_insert_113 rfl ?_
        refine va_get (D := D) (ci := 1) (v := .int ((xu (xu (xu S 34 v4.toNatClampNeg v1) 35 v4.toNatClampNeg v2) 36 v4.toNatClampNeg v3) 33 0)) (C := RX1) (T := TX1) (N := 4) hx hb hts inX1 hown hK hP 33 wX_33 rfl 0 (by decide) f4 (fun _ h9 => h9) rfl dX1_insert_114 ?_
        refine lv_iconst (v := (1 : Int32)) hx hb dX1_insert_117 (by decide) ?_
        refine lv_iadd hx hb dX1_insert_118 ?_
        refine x_put (D := D) (ci := 1) (v := .int (((xu (xu (xu S 34 v4.toNatClampNeg v1) 35 v4.toNatClampNeg v2) 36 v4.toNatClampNeg v3) 33 0) + (1 : Int32))) (ty := .int) (C := RX1) (T := TX1) (N := 4) (ws2 := wX h cI cJ (xu (xu (xu (xu S 34 v4.toNatClampNeg v1) 35 v4.toNatClampNeg v2) 36 v4.toNatClampNeg v3) 33 0 (((xu (xu (xu S 34 v4.toNatClampNeg v1) 35 v4.toNatClampNeg v2) 36 v4.toNatClampNeg v3) 33 0) + (1 : Int32))) L) hx hb hts inX1 tyX1 tyX1_ok nmX1 hown hK hP (hD _ _) hS 33 wX_33 rfl 0 (by decide) f4 (fun _ h9 => h9) rfl (by decide +kernel) rfl rfl (Nat.le_of_ble_eq_true rfl) dX1_insert_119 (wX_p33_0 _) (fun H locs hP hS => ?_)
        exact hret _ _ _ _ _ hP hS hw dX1_insert_122
      intro v4 S H locs ls hl hP hS hw
      unfold kX1_insert_b16 at hw
      refine lv_iload hx hb dX1_insert_16 (lv_at hl 4 rfl) ?_
      refine lv_if_le (tgt := 88) hx hb dX1_insert_18 (by decide) (fun hc => ?_) (fun hc => ?_)
      · replace hw := And.left hw hc
        exact b88 v4 S _ _ _ (lv_sub hl [0, 1, 2, 3, 4] rfl) hP hS hw
      · replace hw := And.right hw hc
        refine lv_aload_n hx hb dX1_insert_21 rfl (lv_at hl 0 rfl) ?_
        refine va_get (D := D) (ci := 1) (v := .ref (h 35)) (C := RX1) (T := TX1) (N := 4) hx hb hts inX1 hown hK hP 33 wX_33 rfl 2 (by decide) f2 (fun _ h9 => h9) rfl dX1_insert_22 ?_
        refine lv_iload hx hb dX1_insert_25 (lv_at hl 4 rfl) ?_
        refine lv_iconst (v := (1 : Int32)) hx hb dX1_insert_27 (by decide) ?_
        refine lv_isub hx hb dX1_insert_28 ?_
        obtain ⟨hi, hw⟩ := hw
        refine va_iald hx hb hK hP 35 0 wX_35 rfl hi dX1_insert_29 ?_
        refine lv_iload_n hx hb dX1_insert_30 rfl (lv_at hl 2 rfl) ?_
        refine lv_icmp_ge (tgt := 88) hx hb dX1_insert_31 (by decide) (fun hc => ?_) (fun hc => ?_)
        · replace hw := And.left hw hc
          exact b88 v4 S _ _ _ (lv_sub hl [0, 1, 2, 3, 4] rfl) hP hS hw
        · replace hw := And.right hw hc
          refine lv_aload_n hx hb dX1_insert_34 rfl (lv_at hl 0 rfl) ?_
          refine va_get (D := D) (ci := 1) (v := .ref (h 34)) (C := RX1) (T := TX1) (N := 4) hx hb hts inX1 hown hK hP 33 wX_33 rfl 1 (by decide) f0 (fun _ h9 => h9) rfl dX1_insert_35 ?_
          refine lv_iload hx hb dX1_insert_38 (lv_at hl 4 rfl) ?_
          refine lv_aload_n hx hb dX1_insert_40 rfl (lv_at hl 0 rfl) ?_
          refine va_get (D := D) (ci := 1) (v := .ref (h 34)) (C := RX1) (T := TX1) (N := 4) hx hb hts inX1 hown hK hP 33 wX_33 rfl 1 (by decide) f0 (fun _ h9 => h9) rfl dX1_insert_41 ?_
          refine lv_iload hx hb dX1_insert_44 (lv_at hl 4 rfl) ?_
          refine lv_iconst (v := (1 : Int32)) hx hb dX1_insert_46 (by decide) ?_
          refine lv_isub hx hb dX1_insert_47 ?_
          obtain ⟨hi, hw⟩ := hw
          refine va_iald hx hb hK hP 34 0 wX_34 rfl hi dX1_insert_48 ?_
          obtain ⟨hi, hw⟩ := hw
          refine x_iast (ws2 := wX h cI cJ (xu S 34 v4.toNatClampNeg (S 34 (v4 - (1 : Int32)).toNatClampNeg)) L) hx hb hK hP (hD _ _) hS 34 0 wX_34 rfl hi dX1_insert_49 (wX_u34 _ _) (fun H locs hP hS => ?_)
          refine lv_aload_n hx hb dX1_insert_50 rfl (lv_at hl 0 rfl) ?_
          refine va_get (D := D) (ci := 1) (v := .ref (h 35)) (C := RX1) (T := TX1) (N := 4) hx hb hts inX1 hown hK hP 33 wX_33 rfl 2 (by decide) f2 (fun _ h9 => h9) rfl dX1_insert_51 ?_
          refine lv_iload hx hb dX1_insert_54 (lv_at hl 4 rfl) ?_
          refine lv_aload_n hx hb dX1_insert_56 rfl (lv_at hl 0 rfl) ?_
          refine va_get (D := D) (ci := 1) (v := .ref (h 35)) (C := RX1) (T := TX1) (N := 4) hx hb hts inX1 hown hK hP 33 wX_33 rfl 2 (by decide) f2 (fun _ h9 => h9) rfl dX1_insert_57 ?_
          refine lv_iload hx hb dX1_insert_60 (lv_at hl 4 rfl) ?_
          refine lv_iconst (v := (1 : Int32)) hx hb dX1_insert_62 (by decide) ?_
          refine lv_isub hx hb dX1_insert_63 ?_
          obtain ⟨hi, hw⟩ := hw
          refine va_iald hx hb hK hP 35 0 wX_35 rfl hi dX1_insert_64 ?_
          obtain ⟨hi, hw⟩ := hw
          refine x_iast (ws2 := wX h cI cJ (xu (xu S 34 v4.toNatClampNeg (S 34 (v4 - (1 : Int32)).toNatClampNeg)) 35 v4.toNatClampNeg ((xu S 34 v4.toNatClampNeg (S 34 (v4 - (1 : Int32)).toNatClampNeg)) 35 (v4 - (1 : Int32)).toNatClampNeg)) L) hx hb hK hP (hD _ _) hS 35 0 wX_35 rfl hi dX1_insert_65 (wX_u35 _ _) (fun H locs hP hS => ?_)
          refine lv_aload_n hx hb dX1_insert_66 rfl (lv_at hl 0 rfl) ?_
          refine va_get (D := D) (ci := 1) (v := .ref (h 36)) (C := RX1) (T := TX1) (N := 4) hx hb hts inX1 hown hK hP 33 wX_33 rfl 3 (by decide) f3 (fun _ h9 => h9) rfl dX1_insert_67 ?_
          refine lv_iload hx hb dX1_insert_70 (lv_at hl 4 rfl) ?_
          refine lv_aload_n hx hb dX1_insert_72 rfl (lv_at hl 0 rfl) ?_
          refine va_get (D := D) (ci := 1) (v := .ref (h 36)) (C := RX1) (T := TX1) (N := 4) hx hb hts inX1 hown hK hP 33 wX_33 rfl 3 (by decide) f3 (fun _ h9 => h9) rfl dX1_insert_73 ?_
          refine lv_iload hx hb dX1_insert_76 (lv_at hl 4 rfl) ?_
          refine lv_iconst (v := (1 : Int32)) hx hb dX1_insert_78 (by decide) ?_
          refine lv_isub hx hb dX1_insert_79 ?_
          obtain ⟨hi, hw⟩ := hw
          refine va_iald hx hb hK hP 36 0 wX_36 rfl hi dX1_insert_80 ?_
          obtain ⟨hi, hw⟩ := hw
          refine x_iast (ws2 := wX h cI cJ (xu (xu (xu S 34 v4.toNatClampNeg (S 34 (v4 - (1 : Int32)).toNatClampNeg)) 35 v4.toNatClampNeg ((xu S 34 v4.toNatClampNeg (S 34 (v4 - (1 : Int32)).toNatClampNeg)) 35 (v4 - (1 : Int32)).toNatClampNeg)) 36 v4.toNatClampNeg ((xu (xu S 34 v4.toNatClampNeg (S 34 (v4 - (1 : Int32)).toNatClampNeg)) 35 v4.toNatClampNeg ((xu S 34 v4.toNatClampNeg (S 34 (v4 - (1 : Int32)).toNatClampNeg)) 35 (v4 - (1 : Int32)).toNatClampNeg)) 36 (v4 - (1 : Int32)).toNatClampNeg)) L) hx hb hK hP (hD _ _) hS 36 0 wX_36 rfl hi dX1_insert_81 (wX_u36 _ _) (fun H locs hP hS => ?_)
          refine lv_iinc (v := v4 + (-1 : Int32)) (lv' := [(4, .int (v4 + (-1 : Int32))), (0, .ref (h 33)), (1, .int v1), (2, .int v2), (3, .int v3)]) hx hb dX1_insert_82 hl (k := 4) rfl rfl (by decide) rfl (fun ls hl => ?_)
          refine lv_goto (tgt := 16) hx hb dX1_insert_85 (by decide) ?_
          exact i16 (v4 + (-1 : Int32)) (xu (xu (xu S 34 v4.toNatClampNeg (S 34 (v4 - (1 : Int32)).toNatClampNeg)) 35 v4.toNatClampNeg ((xu S 34 v4.toNatClampNeg (S 34 (v4 - (1 : Int32)).toNatClampNeg)) 35 (v4 - (1 : Int32)).toNatClampNeg)) 36 v4.toNatClampNeg ((xu (xu S 34 v4.toNatClampNeg (S 34 (v4 - (1 : Int32)).toNatClampNeg)) 35 v4.toNatClampNeg ((xu S 34 v4.toNatClampNeg (S 34 (v4 - (1 : Int32)).toNatClampNeg)) 35 (v4 - (1 : Int32)).toNatClampNeg)) 36 (v4 - (1 : Int32)).toNatClampNeg)) _ _ _ (lv_sub hl [1, 2, 3, 4, 0] rfl) hP hS hw
  unfold kX1_insert at hw
  refine lv_aload_n hx hb dX1_insert_0 rfl (lv_at hl 0 rfl) ?_
  refine va_get (D := D) (ci := 1) (v := .int (S 33 0)) (C := RX1) (T := TX1) (N := 4) hx hb hts inX1 hown hK hP 33 wX_33 rfl 0 (by decide) f4 (fun _ h9 => h9) rfl dX1_insert_1 ?_
  refine lv_bipush (v := (24 : Int32)) hx hb dX1_insert_4 (by decide) ?_
  refine lv_icmp_lt (tgt := 10) hx hb dX1_insert_6 (by decide) (fun hc => ?_) (fun hc => ?_)
  · replace hw := And.left hw hc
    refine lv_aload_n hx hb dX1_insert_10 rfl (lv_at hl 0 rfl) ?_
    refine va_get (D := D) (ci := 1) (v := .int (S 33 0)) (C := RX1) (T := TX1) (N := 4) hx hb hts inX1 hown hK hP 33 wX_33 rfl 0 (by decide) f4 (fun _ h9 => h9) rfl dX1_insert_11 ?_
    refine lv_istore (lv' := [(4, .int (S 33 0)), (0, .ref (h 33)), (1, .int v1), (2, .int v2), (3, .int v3)]) hx hb dX1_insert_14 hl (by decide) rfl (fun ls hl => ?_)
    obtain ⟨n16, hw⟩ := hw
    exact b16  n16 (S 33 0) S _ _ _ (lv_sub hl [1, 2, 3, 4, 0] rfl) hP hS hw
  · replace hw := And.right hw hc
    exact hret _ _ _ _ _ hP hS hw dX1_insert_9
abbrev rX1_gather : Room := { frames := 4, cells := 0, slots := 0, locals := 93 }
set_option maxHeartbeats 4000000 in
set_option maxRecDepth 100000 in
theorem mX1_gather (l : Launch) (D : va_G) (h : Nat → Nat) (cI cJ : ClassId) (t0 : Nat) (hh : xdis 53 h) (S : SX) (L : LX) (v2 : Int32) (v3 : Int32) (post : SX → Prop) (hw : kX1_gather S L v2 v3 post) : Met l yX1_gather wsX1_gather rX1_gather (xPre D (wX h cI cJ) (xE D h cI cJ t0) S L [.ref (h 33), .ref (h 1), .int v2, .int v3]) (va_Qv (fun (u : SX × LX) => post u.1 ∧ u.2 = L) (xB D (wX h cI cJ)) (xA 53 h)) 0 0 (xA 53 h) := by
  refine Met.ofW (cc := cX1_gather) (maxL := 5) (ret := none) (by decide) rfl ?_
  intro p e s m args below meth c s₁ B hml hv
  obtain ⟨hargs, hP, hE⟩ := hv
  have hx := B.exec
  have hb := B.bytes
  have hr := B.returns
  have hlocks := B.notSynchronized
  have hts := atoms_spec (ws := wsX1_gather) B.pre
  have hown : s.vm.findClass RX1 = some m.cls := findClass_of_methodNamed B.named
  have hS : va_S (xA 53 h) s.heap s.heap [] := va_S.rf
  have hD : ∀ (S : SX) (L : LX), va_D (xA 53 h) (wX h cI cJ S L) := fun S L => wX_D hh cI cJ S L
  have hK := hE.1
  have hst : xSt (xA 53 h) (xE D h cI cJ t0) := xE_st D h cI cJ t0
  have f0 := hts (.fieldLink RX1 25 "BookOfWills$World" "wills" "LBookOfWills$Wills;") (by decide +kernel)
  have inX5 : ∀ w ∈ u_ws RX5 TX5 10, w ∈ wsX1_gather := fun w hw9 => List.mem_cons_of_mem _ (List.mem_append_left _ (List.mem_append_left _ (List.mem_append_right _ hw9)))
  have f2 := hts (.fieldLink RX1 31 "BookOfWills$Wills" "size" "I") (by decide +kernel)
  have inX4 : ∀ w ∈ u_ws RX4 TX4 5, w ∈ wsX1_gather := fun w hw9 => List.mem_cons_of_mem _ (List.mem_append_left _ (List.mem_append_right _ hw9))
  have f4 := hts (.fieldLink RX1 34 "BookOfWills$Wills" "year" "[I") (by decide +kernel)
  have f5 := hts (.fieldLink RX1 21 "BookOfWills$Living" "size" "I") (by decide +kernel)
  have inX1 : ∀ w ∈ u_ws RX1 TX1 4, w ∈ wsX1_gather := fun w hw9 => List.mem_cons_of_mem _ (List.mem_append_left _ (List.mem_append_left _ (List.mem_append_left _ (List.mem_append_right _ hw9))))
  have hl := lv_entry ([.ref (h 33), .ref (h 1), .int v2, .int v3]) (n := 5) (Nat.le_of_ble_eq_true rfl)
  have hen : entryFrame m args 5 = F0 m 0 ((lg_sl ([.ref (h 33), .ref (h 1), .int v2, .int v3]) ++ List.replicate (5 - (lg_sl ([.ref (h 33), .ref (h 1), .int v2, .int v3])).length) Slot.unset).toArray) [] := by rw [hargs]; exact lg_entry_eq m _ _
  rw [hen]
  generalize (lg_sl ([.ref (h 33), .ref (h 1), .int v2, .int v3]) ++ List.replicate (5 - (lg_sl ([.ref (h 33), .ref (h 1), .int v2, .int v3])).length) Slot.unset).toArray = ls at hl ⊢
  have hl : lv_has ls 5 [(0, .ref (h 33)), (1, .ref (h 1)), (2, .int v2), (3, .int v3)] := hl
  change W p l e rX1_gather s m args below meth c s.heap [] 0 0 (MQ below (va_Qv (fun (u : SX × LX) => post u.1 ∧ u.2 = L) (xB D (wX h cI cJ)) (xA 53 h)) args s 0 0 (xA 53 h)) (F0 m 0 ls [])
  have hret : ∀ (S1 : SX) (H : Heap) (locs : List Loc) (ls : Array Slot) (pc : Nat), va_P D vwCl (wX h cI cJ S1 L) H → va_S (xA 53 h) s.heap H locs → post S1 → decode cX1_gather pc = .ok (.return_, 1) → W p l e rX1_gather s m args below meth c H locs 0 0 (MQ below (va_Qv (fun (u : SX × LX) => post u.1 ∧ u.2 = L) (xB D (wX h cI cJ)) (xA 53 h)) args s 0 0 (xA 53 h)) (F0 m pc ls []) := fun S1 H locs ls pc hP hS hw hd => W.vret hx hb hr (fun t ht hW => ⟨⟨(S1, L), rfl, ⟨hw, rfl⟩, show va_P D vwCl (wX h cI cJ S1 L) t.heap by rw [ht]; exact hP⟩, hS.F ht⟩) hS.2.2 hd
  generalize MQ below (va_Qv (fun (u : SX × LX) => post u.1 ∧ u.2 = L) (xB D (wX h cI cJ)) (xA 53 h)) args s 0 0 (xA 53 h) = Q at hret ⊢
  have b8 : ∀  (n8 : Nat) (v4 : Int32) (S : SX) (H : Heap) (locs : List Loc) (ls : Array Slot), lv_has ls 5 [(0, .ref (h 33)), (1, .ref (h 1)), (2, .int v2), (3, .int v3), (4, .int v4)] → va_P D vwCl (wX h cI cJ S L) H → va_S (xA 53 h) s.heap H locs → kX1_gather_b8 L v2 v3 post n8 v4 S → W p l e rX1_gather s m args below meth c H locs 0 0 Q (F0 m 8 ls []) := by
    intro n8
    induction n8 with
    | zero => intro v4 S H locs ls hl hP hS hw; exact absurd hw id
    | succ n8 i8 =>
      intro v4 S H locs ls hl hP hS hw
      unfold kX1_gather_b8 at hw
      refine lv_iload hx hb dX1_gather_8 (lv_at hl 4 rfl) ?_
      refine lv_aload_n hx hb dX1_gather_10 rfl (lv_at hl 1 rfl) ?_
      refine va_get (D := D) (ci := 5) (v := .ref (h 8)) (C := RX5) (T := TX5) (N := 10) hx hb hts inX5 hown hK hP 1 wX_1 rfl 4 (by decide) f0 (fun _ h9 => h9) rfl dX1_gather_11 ?_
      refine va_get (D := D) (ci := 4) (v := .int (S 8 0)) (C := RX4) (T := TX4) (N := 5) hx hb hts inX4 hown hK hP 8 wX_8 rfl 0 (by decide) f2 (fun _ h9 => h9) rfl dX1_gather_14 ?_
      refine lv_icmp_ge (tgt := 70) hx hb dX1_gather_17 (by decide) (fun hc => ?_) (fun hc => ?_)
      · replace hw := And.left hw hc
        exact hret _ _ _ _ _ hP hS hw dX1_gather_70
      · replace hw := And.right hw hc
        refine lv_aload_n hx hb dX1_gather_20 rfl (lv_at hl 1 rfl) ?_
        refine va_get (D := D) (ci := 5) (v := .ref (h 8)) (C := RX5) (T := TX5) (N := 10) hx hb hts inX5 hown hK hP 1 wX_1 rfl 4 (by decide) f0 (fun _ h9 => h9) rfl dX1_gather_21 ?_
        refine va_get (D := D) (ci := 4) (v := .ref (h 9)) (C := RX4) (T := TX4) (N := 5) hx hb hts inX4 hown hK hP 8 wX_8 rfl 1 (by decide) f4 (fun _ h9 => h9) rfl dX1_gather_24 ?_
        refine lv_iload hx hb dX1_gather_27 (lv_at hl 4 rfl) ?_
        obtain ⟨hi, hw⟩ := hw
        refine va_iald hx hb hK hP 9 0 wX_9 rfl hi dX1_gather_29 ?_
        refine lv_iload_n hx hb dX1_gather_30 rfl (lv_at hl 2 rfl) ?_
        refine lv_icmp_ne (tgt := 64) hx hb dX1_gather_31 (by decide) (fun hc => ?_) (fun hc => ?_)
        · replace hw := And.right hw hc
          refine lv_iinc (v := v4 + (1 : Int32)) (lv' := [(4, .int (v4 + (1 : Int32))), (0, .ref (h 33)), (1, .ref (h 1)), (2, .int v2), (3, .int v3)]) hx hb dX1_gather_64 hl (k := 4) rfl rfl (by decide) rfl (fun ls hl => ?_)
          refine lv_goto (tgt := 8) hx hb dX1_gather_67 (by decide) ?_
          exact i8 (v4 + (1 : Int32)) S _ _ _ (lv_sub hl [1, 2, 3, 4, 0] rfl) hP hS hw
        · replace hw := And.left hw hc
          refine lv_aload_n hx hb dX1_gather_34 rfl (lv_at hl 1 rfl) ?_
          refine lv_iload hx hb dX1_gather_35 (lv_at hl 4 rfl) ?_
          refine lv_iload_n hx hb dX1_gather_37 rfl (lv_at hl 3 rfl) ?_
          refine xVi0 (As := [.int v4, .int v3]) (rest := []) hst hE hP hS ⟨hx, hb, hml, hown, hts⟩ (va_recv hK hP (ci := 5) (q := (RX5, TX5, 10)) rfl wX_1) (mX5_isInBook l D h cI cJ t0 hh S L v4 v3 _ hw) (cwV 2 hts gX1_gather_X5_isInBook rfl rfl rfl (by decide +kernel) ⟨Nat.le_of_ble_eq_true rfl, Nat.le_of_ble_eq_true rfl⟩) rfl hl.1 rfl (Nat.le_of_ble_eq_true rfl) dX1_gather_38 ⟨Nat.zero_le _, Nat.zero_le _⟩ (fun r38 H locs hw hP hS => ?_)
          refine lv_if_eq (tgt := 64) hx hb dX1_gather_41 (by decide) (fun hc => ?_) (fun hc => ?_)
          · replace hw := And.left hw hc
            refine lv_iinc (v := v4 + (1 : Int32)) (lv' := [(4, .int (v4 + (1 : Int32))), (0, .ref (h 33)), (1, .ref (h 1)), (2, .int v2), (3, .int v3)]) hx hb dX1_gather_64 hl (k := 4) rfl rfl (by decide) rfl (fun ls hl => ?_)
            refine lv_goto (tgt := 8) hx hb dX1_gather_67 (by decide) ?_
            exact i8 (v4 + (1 : Int32)) S _ _ _ (lv_sub hl [1, 2, 3, 4, 0] rfl) hP hS hw
          · replace hw := And.right hw hc
            refine lv_aload_n hx hb dX1_gather_44 rfl (lv_at hl 0 rfl) ?_
            refine lv_iload hx hb dX1_gather_45 (lv_at hl 4 rfl) ?_
            refine lv_aload_n hx hb dX1_gather_47 rfl (lv_at hl 1 rfl) ?_
            refine lv_iload hx hb dX1_gather_48 (lv_at hl 4 rfl) ?_
            refine lv_iload_n hx hb dX1_gather_50 rfl (lv_at hl 3 rfl) ?_
            refine xVi0 (As := [.int v4, .int v3]) (rest := [.int v4, .ref (h 33)]) hst hE hP hS ⟨hx, hb, hml, hown, hts⟩ (va_recv hK hP (ci := 5) (q := (RX5, TX5, 10)) rfl wX_1) (mX5_sworn l D h cI cJ t0 hh S L v4 v3 _ hw) (cwV 2 hts gX1_gather_X5_sworn rfl rfl rfl (by decide +kernel) ⟨Nat.le_of_ble_eq_true rfl, Nat.le_of_ble_eq_true rfl⟩) rfl hl.1 rfl (Nat.le_of_ble_eq_true rfl) dX1_gather_51 ⟨Nat.zero_le _, Nat.zero_le _⟩ (fun r51 H locs hw hP hS => ?_)
            refine lv_aload_n hx hb dX1_gather_54 rfl (lv_at hl 1 rfl) ?_
            refine lv_iload hx hb dX1_gather_55 (lv_at hl 4 rfl) ?_
            refine lv_iload_n hx hb dX1_gather_57 rfl (lv_at hl 3 rfl) ?_
            refine xVi0 (As := [.int v4, .int v3]) (rest := [.int r51, .int v4, .ref (h 33)]) hst hE hP hS ⟨hx, hb, hml, hown, hts⟩ (va_recv hK hP (ci := 5) (q := (RX5, TX5, 10)) rfl wX_1) (mX5_weight l D h cI cJ t0 hh S L v4 v3 _ hw) (cwV 2 hts gX1_gather_X5_weight rfl rfl rfl (by decide +kernel) ⟨Nat.le_of_ble_eq_true rfl, Nat.le_of_ble_eq_true rfl⟩) rfl hl.1 rfl (Nat.le_of_ble_eq_true rfl) dX1_gather_58 ⟨Nat.zero_le _, Nat.zero_le _⟩ (fun r58 H locs hw hP hS => ?_)
            refine xVv1 (As := [.int v4, .int r51, .int r58]) (rest := []) hst hE hP hS ⟨hx, hb, hml, hown, hts⟩ (va_recv hK hP (ci := 1) (q := (RX1, TX1, 4)) rfl wX_33) (mX1_insert l D h cI cJ t0 hh S L v4 r51 r58 _ hw) (cwV 3 hts gX1_gather_X1_insert rfl rfl rfl (by decide +kernel) ⟨Nat.le_of_ble_eq_true rfl, Nat.le_of_ble_eq_true rfl⟩) rfl hl.1 rfl (Nat.le_of_ble_eq_true rfl) dX1_gather_61 ⟨Nat.zero_le _, Nat.zero_le _⟩ (fun S61 H locs hw hP hS => ?_)
            refine lv_iinc (v := v4 + (1 : Int32)) (lv' := [(4, .int (v4 + (1 : Int32))), (0, .ref (h 33)), (1, .ref (h 1)), (2, .int v2), (3, .int v3)]) hx hb dX1_gather_64 hl (k := 4) rfl rfl (by decide) rfl (fun ls hl => ?_)
            refine lv_goto (tgt := 8) hx hb dX1_gather_67 (by decide) ?_
            exact i8 (v4 + (1 : Int32)) S61 _ _ _ (lv_sub hl [1, 2, 3, 4, 0] rfl) hP hS hw
  unfold kX1_gather at hw
  refine lv_aload_n hx hb dX1_gather_0 rfl (lv_at hl 0 rfl) ?_
  refine lv_iconst (v := (0 : Int32)) hx hb dX1_gather_1 (by decide) ?_
  refine x_put (D := D) (ci := 1) (v := .int (0 : Int32)) (ty := .int) (C := RX1) (T := TX1) (N := 4) (ws2 := wX h cI cJ (xu S 33 0 (0 : Int32)) L) hx hb hts inX1 tyX1 tyX1_ok nmX1 hown hK hP (hD _ _) hS 33 wX_33 rfl 0 (by decide) f5 (fun _ h9 => h9) rfl (by decide +kernel) rfl rfl (Nat.le_of_ble_eq_true rfl) dX1_gather_2 (wX_p33_0 _) (fun H locs hP hS => ?_)
  refine lv_iconst (v := (0 : Int32)) hx hb dX1_gather_5 (by decide) ?_
  refine lv_istore (lv' := [(4, .int (0 : Int32)), (0, .ref (h 33)), (1, .ref (h 1)), (2, .int v2), (3, .int v3)]) hx hb dX1_gather_6 hl (by decide) rfl (fun ls hl => ?_)
  obtain ⟨n8, hw⟩ := hw
  exact b8  n8 (0 : Int32) (xu S 33 0 (0 : Int32)) _ _ _ (lv_sub hl [1, 2, 3, 4, 0] rfl) hP hS hw
abbrev rX1_sumAll : Room := { frames := 0, cells := 0, slots := 0, locals := 0 }
set_option maxHeartbeats 4000000 in
set_option maxRecDepth 100000 in
theorem mX1_sumAll (l : Launch) (D : va_G) (h : Nat → Nat) (cI cJ : ClassId) (t0 : Nat) (hh : xdis 53 h) (S : SX) (L : LX) (v1 : Int32) (post : Int64 → Prop) (hw : kX1_sumAll S L v1 post) : Met l yX1_sumAll wsX1_sumAll rX1_sumAll (xPre D (wX h cI cJ) (xE D h cI cJ t0) S L [.ref (h 33), .int v1]) (va_Ql (fun (r : Int64) (u : SX × LX) => post r ∧ u.1 = S ∧ u.2 = L) (xB D (wX h cI cJ)) (xA 53 h)) 0 0 (xA 53 h) := by
  refine Met.ofW (cc := cX1_sumAll) (maxL := 5) (ret := (some .long)) (by decide) rfl ?_
  intro p e s m args below meth c s₁ B hml hv
  obtain ⟨hargs, hP, hE⟩ := hv
  have hx := B.exec
  have hb := B.bytes
  have hr := B.returns
  have hlocks := B.notSynchronized
  have hts := atoms_spec (ws := wsX1_sumAll) B.pre
  have hown : s.vm.findClass RX1 = some m.cls := findClass_of_methodNamed B.named
  have hS : va_S (xA 53 h) s.heap s.heap [] := va_S.rf
  have hD : ∀ (S : SX) (L : LX), va_D (xA 53 h) (wX h cI cJ S L) := fun S L => wX_D hh cI cJ S L
  have hK := hE.1
  have hst : xSt (xA 53 h) (xE D h cI cJ t0) := xE_st D h cI cJ t0
  have f0 := hts (.fieldLink RX1 21 "BookOfWills$Living" "size" "I") (by decide +kernel)
  have inX1 : ∀ w ∈ u_ws RX1 TX1 4, w ∈ wsX1_sumAll := fun w hw9 => List.mem_cons_of_mem _ (List.mem_append_right _ hw9)
  have f2 := hts (.fieldLink RX1 9 "BookOfWills$Living" "number" "[I") (by decide +kernel)
  have f3 := hts (.fieldLink RX1 15 "BookOfWills$Living" "sworn" "[I") (by decide +kernel)
  have f4 := hts (.fieldLink RX1 18 "BookOfWills$Living" "weight" "[I") (by decide +kernel)
  have hl := lv_entry ([.ref (h 33), .int v1]) (n := 5) (Nat.le_of_ble_eq_true rfl)
  have hen : entryFrame m args 5 = F0 m 0 ((lg_sl ([.ref (h 33), .int v1]) ++ List.replicate (5 - (lg_sl ([.ref (h 33), .int v1])).length) Slot.unset).toArray) [] := by rw [hargs]; exact lg_entry_eq m _ _
  rw [hen]
  generalize (lg_sl ([.ref (h 33), .int v1]) ++ List.replicate (5 - (lg_sl ([.ref (h 33), .int v1])).length) Slot.unset).toArray = ls at hl ⊢
  have hl : lv_has ls 5 [(0, .ref (h 33)), (1, .int v1)] := hl
  change W p l e rX1_sumAll s m args below meth c s.heap [] 0 0 (MQ below (va_Ql (fun (r : Int64) (u : SX × LX) => post r ∧ u.1 = S ∧ u.2 = L) (xB D (wX h cI cJ)) (xA 53 h)) args s 0 0 (xA 53 h)) (F0 m 0 ls [])
  have hret : ∀ (r : Int64) (H : Heap) (locs : List Loc) (ls : Array Slot) (pc : Nat), va_P D vwCl (wX h cI cJ S L) H → va_S (xA 53 h) s.heap H locs → post r → decode cX1_sumAll pc = .ok (.lreturn, 1) → W p l e rX1_sumAll s m args below meth c H locs 0 0 (MQ below (va_Ql (fun (r : Int64) (u : SX × LX) => post r ∧ u.1 = S ∧ u.2 = L) (xB D (wX h cI cJ)) (xA 53 h)) args s 0 0 (xA 53 h)) (F0 m pc ls [.long r]) := fun r H locs ls pc hP hS hw hd => W.lret hx hb hr (fun t ht hW => ⟨⟨r, (S, L), rfl, ⟨hw, rfl, rfl⟩, show va_P D vwCl (wX h cI cJ S L) t.heap by rw [ht]; exact hP⟩, hS.F ht⟩) hS.2.2 hd
  generalize MQ below (va_Ql (fun (r : Int64) (u : SX × LX) => post r ∧ u.1 = S ∧ u.2 = L) (xB D (wX h cI cJ)) (xA 53 h)) args s 0 0 (xA 53 h) = Q at hret ⊢
  have b5 : ∀  (n5 : Nat) (v2 : Int64) (v4 : Int32) (H : Heap) (locs : List Loc) (ls : Array Slot), lv_has ls 5 [(0, .ref (h 33)), (1, .int v1), (2, .long v2), (4, .int v4)] → va_P D vwCl (wX h cI cJ S L) H → va_S (xA 53 h) s.heap H locs → kX1_sumAll_b5 S L v1 post n5 v2 v4 → W p l e rX1_sumAll s m args below meth c H locs 0 0 Q (F0 m 5 ls []) := by
    intro n5
    induction n5 with
    | zero => intro v2 v4 H locs ls hl hP hS hw; exact absurd hw id
    | succ n5 i5 =>
      intro v2 v4 H locs ls hl hP hS hw
      unfold kX1_sumAll_b5 at hw
      refine lv_iload hx hb dX1_sumAll_5 (lv_at hl 3 rfl) ?_
      refine lv_aload_n hx hb dX1_sumAll_7 rfl (lv_at hl 0 rfl) ?_
      refine va_get (D := D) (ci := 1) (v := .int (S 33 0)) (C := RX1) (T := TX1) (N := 4) hx hb hts inX1 hown hK hP 33 wX_33 rfl 0 (by decide) f0 (fun _ h9 => h9) rfl dX1_sumAll_8 ?_
      refine lv_icmp_ge (tgt := 51) hx hb dX1_sumAll_11 (by decide) (fun hc => ?_) (fun hc => ?_)
      · replace hw := And.left hw hc
        refine lv_lload_n hx hb dX1_sumAll_51 rfl (lv_at hl 2 rfl) ?_
        exact hret _ _ _ _ _ hP hS hw dX1_sumAll_52
      · replace hw := And.right hw hc
        refine lv_aload_n hx hb dX1_sumAll_14 rfl (lv_at hl 0 rfl) ?_
        refine va_get (D := D) (ci := 1) (v := .ref (h 34)) (C := RX1) (T := TX1) (N := 4) hx hb hts inX1 hown hK hP 33 wX_33 rfl 1 (by decide) f2 (fun _ h9 => h9) rfl dX1_sumAll_15 ?_
        refine lv_iload hx hb dX1_sumAll_18 (lv_at hl 3 rfl) ?_
        obtain ⟨hi, hw⟩ := hw
        refine va_iald hx hb hK hP 34 0 wX_34 rfl hi dX1_sumAll_20 ?_
        refine lv_iload_n hx hb dX1_sumAll_21 rfl (lv_at hl 1 rfl) ?_
        refine lv_icmp_eq (tgt := 45) hx hb dX1_sumAll_22 (by decide) (fun hc => ?_) (fun hc => ?_)
        · replace hw := And.left hw hc
          refine lv_iinc (v := v4 + (1 : Int32)) (lv' := [(4, .int (v4 + (1 : Int32))), (0, .ref (h 33)), (1, .int v1), (2, .long v2)]) hx hb dX1_sumAll_45 hl (k := 3) rfl rfl (by decide) rfl (fun ls hl => ?_)
          refine lv_goto (tgt := 5) hx hb dX1_sumAll_48 (by decide) ?_
          exact i5 v2 (v4 + (1 : Int32)) _ _ _ (lv_sub hl [1, 2, 3, 0] rfl) hP hS hw
        · replace hw := And.right hw hc
          refine lv_lload_n hx hb dX1_sumAll_25 rfl (lv_at hl 2 rfl) ?_
          refine lv_aload_n hx hb dX1_sumAll_26 rfl (lv_at hl 0 rfl) ?_
          refine va_get (D := D) (ci := 1) (v := .ref (h 35)) (C := RX1) (T := TX1) (N := 4) hx hb hts inX1 hown hK hP 33 wX_33 rfl 2 (by decide) f3 (fun _ h9 => h9) rfl dX1_sumAll_27 ?_
          refine lv_iload hx hb dX1_sumAll_30 (lv_at hl 3 rfl) ?_
          obtain ⟨hi, hw⟩ := hw
          refine va_iald hx hb hK hP 35 0 wX_35 rfl hi dX1_sumAll_32 ?_
          refine lv_i2l hx hb dX1_sumAll_33 rfl ?_
          refine lv_aload_n hx hb dX1_sumAll_34 rfl (lv_at hl 0 rfl) ?_
          refine va_get (D := D) (ci := 1) (v := .ref (h 36)) (C := RX1) (T := TX1) (N := 4) hx hb hts inX1 hown hK hP 33 wX_33 rfl 3 (by decide) f4 (fun _ h9 => h9) rfl dX1_sumAll_35 ?_
          refine lv_iload hx hb dX1_sumAll_38 (lv_at hl 3 rfl) ?_
          obtain ⟨hi, hw⟩ := hw
          refine va_iald hx hb hK hP 36 0 wX_36 rfl hi dX1_sumAll_40 ?_
          refine lv_i2l hx hb dX1_sumAll_41 rfl ?_
          refine lv_lmul hx hb dX1_sumAll_42 ?_
          refine lv_ladd hx hb dX1_sumAll_43 ?_
          refine lv_lstore_n (lv' := [(2, .long (v2 + (((S 35 v4.toNatClampNeg).toInt64) * ((S 36 v4.toNatClampNeg).toInt64)))), (0, .ref (h 33)), (1, .int v1), (4, .int v4)]) hx hb dX1_sumAll_44 rfl hl (by decide) rfl (fun ls hl => ?_)
          refine lv_iinc (v := v4 + (1 : Int32)) (lv' := [(4, .int (v4 + (1 : Int32))), (2, .long (v2 + (((S 35 v4.toNatClampNeg).toInt64) * ((S 36 v4.toNatClampNeg).toInt64)))), (0, .ref (h 33)), (1, .int v1)]) hx hb dX1_sumAll_45 hl (k := 3) rfl rfl (by decide) rfl (fun ls hl => ?_)
          refine lv_goto (tgt := 5) hx hb dX1_sumAll_48 (by decide) ?_
          exact i5 (v2 + (((S 35 v4.toNatClampNeg).toInt64) * ((S 36 v4.toNatClampNeg).toInt64))) (v4 + (1 : Int32)) _ _ _ (lv_sub hl [2, 3, 1, 0] rfl) hP hS hw
  unfold kX1_sumAll at hw
  refine lv_lconst (v := (0 : Int64)) hx hb dX1_sumAll_0 (by decide) ?_
  refine lv_lstore_n (lv' := [(2, .long (0 : Int64)), (0, .ref (h 33)), (1, .int v1)]) hx hb dX1_sumAll_1 rfl hl (by decide) rfl (fun ls hl => ?_)
  refine lv_iconst (v := (0 : Int32)) hx hb dX1_sumAll_2 (by decide) ?_
  refine lv_istore (lv' := [(4, .int (0 : Int32)), (2, .long (0 : Int64)), (0, .ref (h 33)), (1, .int v1)]) hx hb dX1_sumAll_3 hl (by decide) rfl (fun ls hl => ?_)
  obtain ⟨n5, hw⟩ := hw
  exact b5  n5 (0 : Int64) (0 : Int32) _ _ _ (lv_sub hl [2, 3, 1, 0] rfl) hP hS hw
abbrev rX1_sumTop : Room := { frames := 1, cells := 0, slots := 0, locals := 32 }
set_option maxHeartbeats 4000000 in
set_option maxRecDepth 100000 in
theorem mX1_sumTop (l : Launch) (D : va_G) (h : Nat → Nat) (cI cJ : ClassId) (t0 : Nat) (hh : xdis 53 h) (S : SX) (L : LX) (v1 : Int64) (v3 : Int32) (post : Int64 → Prop) (hw : kX1_sumTop S L v1 v3 post) : Met l yX1_sumTop wsX1_sumTop rX1_sumTop (xPre D (wX h cI cJ) (xE D h cI cJ t0) S L [.ref (h 33), .long v1, .int v3]) (va_Ql (fun (r : Int64) (u : SX × LX) => post r ∧ u.1 = S ∧ u.2 = L) (xB D (wX h cI cJ)) (xA 53 h)) 0 0 (xA 53 h) := by
  refine Met.ofW (cc := cX1_sumTop) (maxL := 11) (ret := (some .long)) (by decide) rfl ?_
  intro p e s m args below meth c s₁ B hml hv
  obtain ⟨hargs, hP, hE⟩ := hv
  have hx := B.exec
  have hb := B.bytes
  have hr := B.returns
  have hlocks := B.notSynchronized
  have hts := atoms_spec (ws := wsX1_sumTop) B.pre
  have hown : s.vm.findClass RX1 = some m.cls := findClass_of_methodNamed B.named
  have hS : va_S (xA 53 h) s.heap s.heap [] := va_S.rf
  have hD : ∀ (S : SX) (L : LX), va_D (xA 53 h) (wX h cI cJ S L) := fun S L => wX_D hh cI cJ S L
  have hK := hE.1
  have hst : xSt (xA 53 h) (xE D h cI cJ t0) := xE_st D h cI cJ t0
  have f0 := hts (.fieldLink RX1 21 "BookOfWills$Living" "size" "I") (by decide +kernel)
  have inX1 : ∀ w ∈ u_ws RX1 TX1 4, w ∈ wsX1_sumTop := fun w hw9 => List.mem_cons_of_mem _ (List.mem_append_right _ hw9)
  have f2 := hts (.fieldLink RX1 9 "BookOfWills$Living" "number" "[I") (by decide +kernel)
  have f3 := hts (.constantLong RX1 50 (10)) (by decide +kernel)
  have f4 := hts (.fieldLink RX1 18 "BookOfWills$Living" "weight" "[I") (by decide +kernel)
  have f5 := hts (.methodLink RX1 52 Lib.MathLoose.min_long.x) (by decide +kernel)
  have f6 := hts (.static Lib.MathLoose.min_long.x) (by decide +kernel)
  have f7 := hts (.initialized "java/lang/Math") (by decide +kernel)
  have f8 := hts (.code Lib.MathLoose.min_long.x Lib.MathLoose.min_long.code 4 (some .long)) (by decide +kernel)
  have f9 := hts (.fieldLink RX1 15 "BookOfWills$Living" "sworn" "[I") (by decide +kernel)
  have hl := lv_entry ([.ref (h 33), .long v1, .int v3]) (n := 11) (Nat.le_of_ble_eq_true rfl)
  have hen : entryFrame m args 11 = F0 m 0 ((lg_sl ([.ref (h 33), .long v1, .int v3]) ++ List.replicate (11 - (lg_sl ([.ref (h 33), .long v1, .int v3])).length) Slot.unset).toArray) [] := by rw [hargs]; exact lg_entry_eq m _ _
  rw [hen]
  generalize (lg_sl ([.ref (h 33), .long v1, .int v3]) ++ List.replicate (11 - (lg_sl ([.ref (h 33), .long v1, .int v3])).length) Slot.unset).toArray = ls at hl ⊢
  have hl : lv_has ls 11 [(0, .ref (h 33)), (1, .long v1), (3, .int v3)] := hl
  change W p l e rX1_sumTop s m args below meth c s.heap [] 0 0 (MQ below (va_Ql (fun (r : Int64) (u : SX × LX) => post r ∧ u.1 = S ∧ u.2 = L) (xB D (wX h cI cJ)) (xA 53 h)) args s 0 0 (xA 53 h)) (F0 m 0 ls [])
  have hret : ∀ (r : Int64) (H : Heap) (locs : List Loc) (ls : Array Slot) (pc : Nat), va_P D vwCl (wX h cI cJ S L) H → va_S (xA 53 h) s.heap H locs → post r → decode cX1_sumTop pc = .ok (.lreturn, 1) → W p l e rX1_sumTop s m args below meth c H locs 0 0 (MQ below (va_Ql (fun (r : Int64) (u : SX × LX) => post r ∧ u.1 = S ∧ u.2 = L) (xB D (wX h cI cJ)) (xA 53 h)) args s 0 0 (xA 53 h)) (F0 m pc ls [.long r]) := fun r H locs ls pc hP hS hw hd => W.lret hx hb hr (fun t ht hW => ⟨⟨r, (S, L), rfl, ⟨hw, rfl, rfl⟩, show va_P D vwCl (wX h cI cJ S L) t.heap by rw [ht]; exact hP⟩, hS.F ht⟩) hS.2.2 hd
  generalize MQ below (va_Ql (fun (r : Int64) (u : SX × LX) => post r ∧ u.1 = S ∧ u.2 = L) (xB D (wX h cI cJ)) (xA 53 h)) args s 0 0 (xA 53 h) = Q at hret ⊢
  have b9 : ∀  (n9 : Nat) (v4 : Int64) (v6 : Int64) (v8 : Int32) (H : Heap) (locs : List Loc) (ls : Array Slot), lv_has ls 11 [(0, .ref (h 33)), (3, .int v3), (4, .long v4), (6, .long v6), (8, .int v8)] → va_P D vwCl (wX h cI cJ S L) H → va_S (xA 53 h) s.heap H locs → kX1_sumTop_b9 S L v1 v3 post n9 v4 v6 v8 → W p l e rX1_sumTop s m args below meth c H locs 0 0 Q (F0 m 9 ls []) := by
    intro n9
    induction n9 with
    | zero => intro v4 v6 v8 H locs ls hl hP hS hw; exact absurd hw id
    | succ n9 i9 =>
      intro v4 v6 v8 H locs ls hl hP hS hw
      unfold kX1_sumTop_b9 at hw
      refine lv_iload hx hb dX1_sumTop_9 (lv_at hl 4 rfl) ?_
      refine lv_aload_n hx hb dX1_sumTop_11 rfl (lv_at hl 0 rfl) ?_
      refine va_get (D := D) (ci := 1) (v := .int (S 33 0)) (C := RX1) (T := TX1) (N := 4) hx hb hts inX1 hown hK hP 33 wX_33 rfl 0 (by decide) f0 (fun _ h9 => h9) rfl dX1_sumTop_12 ?_
      refine lv_icmp_ge (tgt := 77) hx hb dX1_sumTop_15 (by decide) (fun hc => ?_) (fun hc => ?_)
      · replace hw := And.left hw hc
        refine lv_lload hx hb dX1_sumTop_77 (lv_at hl 2 rfl) ?_
        exact hret _ _ _ _ _ hP hS hw dX1_sumTop_79
      · replace hw := And.right hw hc
        refine lv_aload_n hx hb dX1_sumTop_18 rfl (lv_at hl 0 rfl) ?_
        refine va_get (D := D) (ci := 1) (v := .ref (h 34)) (C := RX1) (T := TX1) (N := 4) hx hb hts inX1 hown hK hP 33 wX_33 rfl 1 (by decide) f2 (fun _ h9 => h9) rfl dX1_sumTop_19 ?_
        refine lv_iload hx hb dX1_sumTop_22 (lv_at hl 4 rfl) ?_
        obtain ⟨hi, hw⟩ := hw
        refine va_iald hx hb hK hP 34 0 wX_34 rfl hi dX1_sumTop_24 ?_
        refine lv_iload_n hx hb dX1_sumTop_25 rfl (lv_at hl 1 rfl) ?_
        refine lv_icmp_eq (tgt := 71) hx hb dX1_sumTop_26 (by decide) (fun hc => ?_) (fun hc => ?_)
        · replace hw := And.left hw hc
          refine lv_iinc (v := v8 + (1 : Int32)) (lv' := [(8, .int (v8 + (1 : Int32))), (0, .ref (h 33)), (3, .int v3), (4, .long v4), (6, .long v6)]) hx hb dX1_sumTop_71 hl (k := 4) rfl rfl (by decide) rfl (fun ls hl => ?_)
          refine lv_goto (tgt := 9) hx hb dX1_sumTop_74 (by decide) ?_
          exact i9 v4 v6 (v8 + (1 : Int32)) _ _ _ (lv_sub hl [1, 2, 3, 4, 0] rfl) hP hS hw
        · replace hw := And.right hw hc
          refine lv_ldc2 (v := (10 : Int64)) hx hb hown (f3) dX1_sumTop_29 ?_
          refine lv_aload_n hx hb dX1_sumTop_32 rfl (lv_at hl 0 rfl) ?_
          refine va_get (D := D) (ci := 1) (v := .ref (h 36)) (C := RX1) (T := TX1) (N := 4) hx hb hts inX1 hown hK hP 33 wX_33 rfl 3 (by decide) f4 (fun _ h9 => h9) rfl dX1_sumTop_33 ?_
          refine lv_iload hx hb dX1_sumTop_36 (lv_at hl 4 rfl) ?_
          obtain ⟨hi, hw⟩ := hw
          refine va_iald hx hb hK hP 36 0 wX_36 rfl hi dX1_sumTop_38 ?_
          refine lv_i2l hx hb dX1_sumTop_39 rfl ?_
          refine lv_lmul hx hb dX1_sumTop_40 ?_
          refine lv_lload hx hb dX1_sumTop_41 (lv_at hl 3 rfl) ?_
          refine va_mmin_long hx hb (hml.trans hl.1.symm) hown f5 f6 f7 f8 (Nat.le_of_ble_eq_true rfl) (Nat.le_of_ble_eq_true rfl) (Nat.zero_le _) (Nat.zero_le _) dX1_sumTop_43 ?_
          refine lv_lstore (lv' := [(9, .long (if v6 < ((10 : Int64) * ((S 36 v8.toNatClampNeg).toInt64)) then v6 else ((10 : Int64) * ((S 36 v8.toNatClampNeg).toInt64)))), (0, .ref (h 33)), (3, .int v3), (4, .long v4), (6, .long v6), (8, .int v8)]) hx hb dX1_sumTop_46 hl (by decide) rfl (fun ls hl => ?_)
          refine lv_lload hx hb dX1_sumTop_48 (lv_at hl 3 rfl) ?_
          refine lv_aload_n hx hb dX1_sumTop_50 rfl (lv_at hl 1 rfl) ?_
          refine va_get (D := D) (ci := 1) (v := .ref (h 35)) (C := RX1) (T := TX1) (N := 4) hx hb hts inX1 hown hK hP 33 wX_33 rfl 2 (by decide) f9 (fun _ h9 => h9) rfl dX1_sumTop_51 ?_
          refine lv_iload hx hb dX1_sumTop_54 (lv_at hl 5 rfl) ?_
          obtain ⟨hi, hw⟩ := hw
          refine va_iald hx hb hK hP 35 0 wX_35 rfl hi dX1_sumTop_56 ?_
          refine lv_i2l hx hb dX1_sumTop_57 rfl ?_
          refine lv_lload hx hb dX1_sumTop_58 (lv_at hl 0 rfl) ?_
          refine lv_lmul hx hb dX1_sumTop_60 ?_
          refine lv_ladd hx hb dX1_sumTop_61 ?_
          refine lv_lstore (lv' := [(4, .long (v4 + (((S 35 v8.toNatClampNeg).toInt64) * (if v6 < ((10 : Int64) * ((S 36 v8.toNatClampNeg).toInt64)) then v6 else ((10 : Int64) * ((S 36 v8.toNatClampNeg).toInt64)))))), (9, .long (if v6 < ((10 : Int64) * ((S 36 v8.toNatClampNeg).toInt64)) then v6 else ((10 : Int64) * ((S 36 v8.toNatClampNeg).toInt64)))), (0, .ref (h 33)), (3, .int v3), (6, .long v6), (8, .int v8)]) hx hb dX1_sumTop_62 hl (by decide) rfl (fun ls hl => ?_)
          refine lv_lload hx hb dX1_sumTop_64 (lv_at hl 4 rfl) ?_
          refine lv_lload hx hb dX1_sumTop_66 (lv_at hl 1 rfl) ?_
          refine lv_lsub hx hb dX1_sumTop_68 ?_
          refine lv_lstore (lv' := [(6, .long (v6 - (if v6 < ((10 : Int64) * ((S 36 v8.toNatClampNeg).toInt64)) then v6 else ((10 : Int64) * ((S 36 v8.toNatClampNeg).toInt64))))), (4, .long (v4 + (((S 35 v8.toNatClampNeg).toInt64) * (if v6 < ((10 : Int64) * ((S 36 v8.toNatClampNeg).toInt64)) then v6 else ((10 : Int64) * ((S 36 v8.toNatClampNeg).toInt64)))))), (9, .long (if v6 < ((10 : Int64) * ((S 36 v8.toNatClampNeg).toInt64)) then v6 else ((10 : Int64) * ((S 36 v8.toNatClampNeg).toInt64)))), (0, .ref (h 33)), (3, .int v3), (8, .int v8)]) hx hb dX1_sumTop_69 hl (by decide) rfl (fun ls hl => ?_)
          refine lv_iinc (v := v8 + (1 : Int32)) (lv' := [(8, .int (v8 + (1 : Int32))), (6, .long (v6 - (if v6 < ((10 : Int64) * ((S 36 v8.toNatClampNeg).toInt64)) then v6 else ((10 : Int64) * ((S 36 v8.toNatClampNeg).toInt64))))), (4, .long (v4 + (((S 35 v8.toNatClampNeg).toInt64) * (if v6 < ((10 : Int64) * ((S 36 v8.toNatClampNeg).toInt64)) then v6 else ((10 : Int64) * ((S 36 v8.toNatClampNeg).toInt64)))))), (9, .long (if v6 < ((10 : Int64) * ((S 36 v8.toNatClampNeg).toInt64)) then v6 else ((10 : Int64) * ((S 36 v8.toNatClampNeg).toInt64)))), (0, .ref (h 33)), (3, .int v3)]) hx hb dX1_sumTop_71 hl (k := 5) rfl rfl (by decide) rfl (fun ls hl => ?_)
          refine lv_goto (tgt := 9) hx hb dX1_sumTop_74 (by decide) ?_
          exact i9 (v4 + (((S 35 v8.toNatClampNeg).toInt64) * (if v6 < ((10 : Int64) * ((S 36 v8.toNatClampNeg).toInt64)) then v6 else ((10 : Int64) * ((S 36 v8.toNatClampNeg).toInt64))))) (v6 - (if v6 < ((10 : Int64) * ((S 36 v8.toNatClampNeg).toInt64)) then v6 else ((10 : Int64) * ((S 36 v8.toNatClampNeg).toInt64)))) (v8 + (1 : Int32)) _ _ _ (lv_sub hl [4, 5, 2, 1, 0] rfl) hP hS hw
  unfold kX1_sumTop at hw
  refine lv_lconst (v := (0 : Int64)) hx hb dX1_sumTop_0 (by decide) ?_
  refine lv_lstore (lv' := [(4, .long (0 : Int64)), (0, .ref (h 33)), (1, .long v1), (3, .int v3)]) hx hb dX1_sumTop_1 hl (by decide) rfl (fun ls hl => ?_)
  refine lv_lload_n hx hb dX1_sumTop_3 rfl (lv_at hl 2 rfl) ?_
  refine lv_lstore (lv' := [(6, .long v1), (4, .long (0 : Int64)), (0, .ref (h 33)), (1, .long v1), (3, .int v3)]) hx hb dX1_sumTop_4 hl (by decide) rfl (fun ls hl => ?_)
  refine lv_iconst (v := (0 : Int32)) hx hb dX1_sumTop_6 (by decide) ?_
  refine lv_istore (lv' := [(8, .int (0 : Int32)), (6, .long v1), (4, .long (0 : Int64)), (0, .ref (h 33)), (1, .long v1), (3, .int v3)]) hx hb dX1_sumTop_7 hl (by decide) rfl (fun ls hl => ?_)
  obtain ⟨n9, hw⟩ := hw
  exact b9  n9 (0 : Int64) v1 (0 : Int32) _ _ _ (lv_sub hl [3, 5, 2, 1, 0] rfl) hP hS hw
abbrev rX6_divided : Room := { frames := 0, cells := 0, slots := 0, locals := 0 }
set_option maxHeartbeats 4000000 in
set_option maxRecDepth 100000 in
theorem mX6_divided (l : Launch) (D : va_G) (h : Nat → Nat) (cI cJ : ClassId) (t0 : Nat) (hh : xdis 53 h) (S : SX) (L : LX) (v0 : Int64) (v2 : Int64) (post : Int64 → Prop) (hw : kX6_divided S L v0 v2 post) : Met l yX6_divided wsX6_divided rX6_divided (xPre D (wX h cI cJ) (xE D h cI cJ t0) S L [.long v0, .long v2]) (va_Ql (fun (r : Int64) (u : SX × LX) => post r ∧ u.1 = S ∧ u.2 = L) (xB D (wX h cI cJ)) (xA 53 h)) 0 0 (xA 53 h) := by
  refine Met.ofW (cc := cX6_divided) (maxL := 4) (ret := (some .long)) (by decide) rfl ?_
  intro p e s m args below meth c s₁ B hml hv
  obtain ⟨hargs, hP, hE⟩ := hv
  have hx := B.exec
  have hb := B.bytes
  have hr := B.returns
  have hlocks := B.notSynchronized
  have hts := atoms_spec (ws := wsX6_divided) B.pre
  have hown : s.vm.findClass RX6 = some m.cls := findClass_of_methodNamed B.named
  have hS : va_S (xA 53 h) s.heap s.heap [] := va_S.rf
  have hD : ∀ (S : SX) (L : LX), va_D (xA 53 h) (wX h cI cJ S L) := fun S L => wX_D hh cI cJ S L
  have hK := hE.1
  have hst : xSt (xA 53 h) (xE D h cI cJ t0) := xE_st D h cI cJ t0
  skip
  have hl := lv_entry ([.long v0, .long v2]) (n := 4) (Nat.le_of_ble_eq_true rfl)
  have hen : entryFrame m args 4 = F0 m 0 ((lg_sl ([.long v0, .long v2]) ++ List.replicate (4 - (lg_sl ([.long v0, .long v2])).length) Slot.unset).toArray) [] := by rw [hargs]; exact lg_entry_eq m _ _
  rw [hen]
  generalize (lg_sl ([.long v0, .long v2]) ++ List.replicate (4 - (lg_sl ([.long v0, .long v2])).length) Slot.unset).toArray = ls at hl ⊢
  have hl : lv_has ls 4 [(0, .long v0), (2, .long v2)] := hl
  change W p l e rX6_divided s m args below meth c s.heap [] 0 0 (MQ below (va_Ql (fun (r : Int64) (u : SX × LX) => post r ∧ u.1 = S ∧ u.2 = L) (xB D (wX h cI cJ)) (xA 53 h)) args s 0 0 (xA 53 h)) (F0 m 0 ls [])
  have hret : ∀ (r : Int64) (H : Heap) (locs : List Loc) (ls : Array Slot) (pc : Nat), va_P D vwCl (wX h cI cJ S L) H → va_S (xA 53 h) s.heap H locs → post r → decode cX6_divided pc = .ok (.lreturn, 1) → W p l e rX6_divided s m args below meth c H locs 0 0 (MQ below (va_Ql (fun (r : Int64) (u : SX × LX) => post r ∧ u.1 = S ∧ u.2 = L) (xB D (wX h cI cJ)) (xA 53 h)) args s 0 0 (xA 53 h)) (F0 m pc ls [.long r]) := fun r H locs ls pc hP hS hw hd => W.lret hx hb hr (fun t ht hW => ⟨⟨r, (S, L), rfl, ⟨hw, rfl, rfl⟩, show va_P D vwCl (wX h cI cJ S L) t.heap by rw [ht]; exact hP⟩, hS.F ht⟩) hS.2.2 hd
  generalize MQ below (va_Ql (fun (r : Int64) (u : SX × LX) => post r ∧ u.1 = S ∧ u.2 = L) (xB D (wX h cI cJ)) (xA 53 h)) args s 0 0 (xA 53 h) = Q at hret ⊢
  unfold kX6_divided at hw
  refine lv_lload_n hx hb dX6_divided_0 rfl (lv_at hl 1 rfl) ?_
  refine lv_lconst (v := (0 : Int64)) hx hb dX6_divided_1 (by decide) ?_
  refine W.lcmp hx hb dX6_divided_2 ?_
  refine lv_if_ne (tgt := 10) hx hb dX6_divided_3 (by decide) (fun hc => ?_) (fun hc => ?_)
  · replace hw := And.right hw (fun q => hc ((lg_cmp_eq _ _).mpr q))
    refine lv_lload_n hx hb dX6_divided_10 rfl (lv_at hl 0 rfl) ?_
    refine lv_lload_n hx hb dX6_divided_11 rfl (lv_at hl 1 rfl) ?_
    obtain ⟨hi, hw⟩ := hw
    refine lv_ldiv hx hb dX6_divided_12 hi ?_
    exact hret _ _ _ _ _ hP hS hw dX6_divided_13
  · replace hw := And.left hw ((lg_cmp_eq _ _).mp hc)
    refine lv_lconst (v := (0 : Int64)) hx hb dX6_divided_6 (by decide) ?_
    refine lv_goto (tgt := 13) hx hb dX6_divided_7 (by decide) ?_
    exact hret _ _ _ _ _ hP hS hw dX6_divided_13
abbrev rX6_parts : Room := { frames := 1, cells := 0, slots := 0, locals := 23 }
set_option maxHeartbeats 4000000 in
set_option maxRecDepth 100000 in
theorem mX6_parts (l : Launch) (D : va_G) (h : Nat → Nat) (cI cJ : ClassId) (t0 : Nat) (hh : xdis 53 h) (S : SX) (L : LX) (v0 : Int64) (v2 : Int64) (post : Int32 → Prop) (hw : kX6_parts S L v0 v2 post) : Met l yX6_parts wsX6_parts rX6_parts (xPre D (wX h cI cJ) (xE D h cI cJ t0) S L [.long v0, .long v2]) (va_Qi (fun (r : Int32) (u : SX × LX) => post r ∧ u.1 = S ∧ u.2 = L) (xB D (wX h cI cJ)) (xA 53 h)) 0 0 (xA 53 h) := by
  refine Met.ofW (cc := cX6_parts) (maxL := 4) (ret := (some .int)) (by decide) rfl ?_
  intro p e s m args below meth c s₁ B hml hv
  obtain ⟨hargs, hP, hE⟩ := hv
  have hx := B.exec
  have hb := B.bytes
  have hr := B.returns
  have hlocks := B.notSynchronized
  have hts := atoms_spec (ws := wsX6_parts) B.pre
  have hown : s.vm.findClass RX6 = some m.cls := findClass_of_methodNamed B.named
  have hS : va_S (xA 53 h) s.heap s.heap [] := va_S.rf
  have hD : ∀ (S : SX) (L : LX), va_D (xA 53 h) (wX h cI cJ S L) := fun S L => wX_D hh cI cJ S L
  have hK := hE.1
  have hst : xSt (xA 53 h) (xE D h cI cJ t0) := xE_st D h cI cJ t0
  have f0 := hts (.constantLong RX6 191 (10000)) (by decide +kernel)
  have hl := lv_entry ([.long v0, .long v2]) (n := 4) (Nat.le_of_ble_eq_true rfl)
  have hen : entryFrame m args 4 = F0 m 0 ((lg_sl ([.long v0, .long v2]) ++ List.replicate (4 - (lg_sl ([.long v0, .long v2])).length) Slot.unset).toArray) [] := by rw [hargs]; exact lg_entry_eq m _ _
  rw [hen]
  generalize (lg_sl ([.long v0, .long v2]) ++ List.replicate (4 - (lg_sl ([.long v0, .long v2])).length) Slot.unset).toArray = ls at hl ⊢
  have hl : lv_has ls 4 [(0, .long v0), (2, .long v2)] := hl
  change W p l e rX6_parts s m args below meth c s.heap [] 0 0 (MQ below (va_Qi (fun (r : Int32) (u : SX × LX) => post r ∧ u.1 = S ∧ u.2 = L) (xB D (wX h cI cJ)) (xA 53 h)) args s 0 0 (xA 53 h)) (F0 m 0 ls [])
  have hret : ∀ (r : Int32) (H : Heap) (locs : List Loc) (ls : Array Slot) (pc : Nat), va_P D vwCl (wX h cI cJ S L) H → va_S (xA 53 h) s.heap H locs → post r → decode cX6_parts pc = .ok (.ireturn, 1) → W p l e rX6_parts s m args below meth c H locs 0 0 (MQ below (va_Qi (fun (r : Int32) (u : SX × LX) => post r ∧ u.1 = S ∧ u.2 = L) (xB D (wX h cI cJ)) (xA 53 h)) args s 0 0 (xA 53 h)) (F0 m pc ls [.int r]) := fun r H locs ls pc hP hS hw hd => W.iret hx hb hr (fun t ht hW => ⟨⟨r, (S, L), rfl, ⟨hw, rfl, rfl⟩, show va_P D vwCl (wX h cI cJ S L) t.heap by rw [ht]; exact hP⟩, hS.F ht⟩) hS.2.2 hd
  generalize MQ below (va_Qi (fun (r : Int32) (u : SX × LX) => post r ∧ u.1 = S ∧ u.2 = L) (xB D (wX h cI cJ)) (xA 53 h)) args s 0 0 (xA 53 h) = Q at hret ⊢
  unfold kX6_parts at hw
  refine lv_lload_n hx hb dX6_parts_0 rfl (lv_at hl 0 rfl) ?_
  refine lv_ldc2 (v := (10000 : Int64)) hx hb hown (f0) dX6_parts_1 ?_
  refine lv_lmul hx hb dX6_parts_4 ?_
  refine lv_lload_n hx hb dX6_parts_5 rfl (lv_at hl 1 rfl) ?_
  refine xSl0 (As := [.long (v0 * (10000 : Int64)), .long v2]) (rest := []) hst hE hP hS ⟨hx, hb, hml, hown, hts⟩ (mX6_divided l D h cI cJ t0 hh S L (v0 * (10000 : Int64)) v2 _ hw) (va_cwS 2 hts gX6_parts_X6_divided rfl rfl rfl (by decide +kernel) ⟨Nat.le_of_ble_eq_true rfl, Nat.le_of_ble_eq_true rfl⟩) rfl hl.1 rfl (Nat.le_of_ble_eq_true rfl) dX6_parts_6 ⟨Nat.zero_le _, Nat.zero_le _⟩ (fun r6 H locs hw hP hS => ?_)
  refine lv_l2i hx hb dX6_parts_9 rfl ?_
  exact hret _ _ _ _ _ hP hS hw dX6_parts_10
abbrev rX1_partsOfTop : Room := { frames := 2, cells := 0, slots := 0, locals := 62 }
set_option maxHeartbeats 4000000 in
set_option maxRecDepth 100000 in
theorem mX1_partsOfTop (l : Launch) (D : va_G) (h : Nat → Nat) (cI cJ : ClassId) (t0 : Nat) (hh : xdis 53 h) (S : SX) (L : LX) (v1 : Int64) (v3 : Int32) (post : Int32 → Prop) (hw : kX1_partsOfTop S L v1 v3 post) : Met l yX1_partsOfTop wsX1_partsOfTop rX1_partsOfTop (xPre D (wX h cI cJ) (xE D h cI cJ t0) S L [.ref (h 33), .long v1, .int v3]) (va_Qi (fun (r : Int32) (u : SX × LX) => post r ∧ u.1 = S ∧ u.2 = L) (xB D (wX h cI cJ)) (xA 53 h)) 0 0 (xA 53 h) := by
  refine Met.ofW (cc := cX1_partsOfTop) (maxL := 6) (ret := (some .int)) (by decide) rfl ?_
  intro p e s m args below meth c s₁ B hml hv
  obtain ⟨hargs, hP, hE⟩ := hv
  have hx := B.exec
  have hb := B.bytes
  have hr := B.returns
  have hlocks := B.notSynchronized
  have hts := atoms_spec (ws := wsX1_partsOfTop) B.pre
  have hown : s.vm.findClass RX1 = some m.cls := findClass_of_methodNamed B.named
  have hS : va_S (xA 53 h) s.heap s.heap [] := va_S.rf
  have hD : ∀ (S : SX) (L : LX), va_D (xA 53 h) (wX h cI cJ S L) := fun S L => wX_D hh cI cJ S L
  have hK := hE.1
  have hst : xSt (xA 53 h) (xE D h cI cJ t0) := xE_st D h cI cJ t0
  have f0 := hts (.initialized RX6) (by decide +kernel)
  have f1 := hts (.static yX6_parts) (by decide +kernel)
  have hl := lv_entry ([.ref (h 33), .long v1, .int v3]) (n := 6) (Nat.le_of_ble_eq_true rfl)
  have hen : entryFrame m args 6 = F0 m 0 ((lg_sl ([.ref (h 33), .long v1, .int v3]) ++ List.replicate (6 - (lg_sl ([.ref (h 33), .long v1, .int v3])).length) Slot.unset).toArray) [] := by rw [hargs]; exact lg_entry_eq m _ _
  rw [hen]
  generalize (lg_sl ([.ref (h 33), .long v1, .int v3]) ++ List.replicate (6 - (lg_sl ([.ref (h 33), .long v1, .int v3])).length) Slot.unset).toArray = ls at hl ⊢
  have hl : lv_has ls 6 [(0, .ref (h 33)), (1, .long v1), (3, .int v3)] := hl
  change W p l e rX1_partsOfTop s m args below meth c s.heap [] 0 0 (MQ below (va_Qi (fun (r : Int32) (u : SX × LX) => post r ∧ u.1 = S ∧ u.2 = L) (xB D (wX h cI cJ)) (xA 53 h)) args s 0 0 (xA 53 h)) (F0 m 0 ls [])
  have hret : ∀ (r : Int32) (H : Heap) (locs : List Loc) (ls : Array Slot) (pc : Nat), va_P D vwCl (wX h cI cJ S L) H → va_S (xA 53 h) s.heap H locs → post r → decode cX1_partsOfTop pc = .ok (.ireturn, 1) → W p l e rX1_partsOfTop s m args below meth c H locs 0 0 (MQ below (va_Qi (fun (r : Int32) (u : SX × LX) => post r ∧ u.1 = S ∧ u.2 = L) (xB D (wX h cI cJ)) (xA 53 h)) args s 0 0 (xA 53 h)) (F0 m pc ls [.int r]) := fun r H locs ls pc hP hS hw hd => W.iret hx hb hr (fun t ht hW => ⟨⟨r, (S, L), rfl, ⟨hw, rfl, rfl⟩, show va_P D vwCl (wX h cI cJ S L) t.heap by rw [ht]; exact hP⟩, hS.F ht⟩) hS.2.2 hd
  generalize MQ below (va_Qi (fun (r : Int32) (u : SX × LX) => post r ∧ u.1 = S ∧ u.2 = L) (xB D (wX h cI cJ)) (xA 53 h)) args s 0 0 (xA 53 h) = Q at hret ⊢
  unfold kX1_partsOfTop at hw
  refine lv_aload_n hx hb dX1_partsOfTop_0 rfl (lv_at hl 0 rfl) ?_
  refine lv_iload_n hx hb dX1_partsOfTop_1 rfl (lv_at hl 2 rfl) ?_
  refine xVl0 (As := [.int v3]) (rest := []) hst hE hP hS ⟨hx, hb, hml, hown, hts⟩ (va_recv hK hP (ci := 1) (q := (RX1, TX1, 4)) rfl wX_33) (mX1_sumAll l D h cI cJ t0 hh S L v3 _ hw) (cwV 1 hts gX1_partsOfTop_X1_sumAll rfl rfl rfl (by decide +kernel) ⟨Nat.le_of_ble_eq_true rfl, Nat.le_of_ble_eq_true rfl⟩) rfl hl.1 rfl (Nat.le_of_ble_eq_true rfl) dX1_partsOfTop_2 ⟨Nat.zero_le _, Nat.zero_le _⟩ (fun r2 H locs hw hP hS => ?_)
  refine lv_lstore (lv' := [(4, .long r2), (0, .ref (h 33)), (1, .long v1), (3, .int v3)]) hx hb dX1_partsOfTop_5 hl (by decide) rfl (fun ls hl => ?_)
  refine lv_lload hx hb dX1_partsOfTop_7 (lv_at hl 0 rfl) ?_
  refine lv_lconst (v := (0 : Int64)) hx hb dX1_partsOfTop_9 (by decide) ?_
  refine W.lcmp hx hb dX1_partsOfTop_10 ?_
  refine lv_if_ne (tgt := 19) hx hb dX1_partsOfTop_11 (by decide) (fun hc => ?_) (fun hc => ?_)
  · replace hw := And.right hw (fun q => hc ((lg_cmp_eq _ _).mpr q))
    refine lv_aload_n hx hb dX1_partsOfTop_19 rfl (lv_at hl 1 rfl) ?_
    refine lv_lload_n hx hb dX1_partsOfTop_20 rfl (lv_at hl 2 rfl) ?_
    refine lv_iload_n hx hb dX1_partsOfTop_21 rfl (lv_at hl 3 rfl) ?_
    refine xVl0 (As := [.long v1, .int v3]) (rest := []) hst hE hP hS ⟨hx, hb, hml, hown, hts⟩ (va_recv hK hP (ci := 1) (q := (RX1, TX1, 4)) rfl wX_33) (mX1_sumTop l D h cI cJ t0 hh S L v1 v3 _ hw) (cwV 2 hts gX1_partsOfTop_X1_sumTop rfl rfl rfl (by decide +kernel) ⟨Nat.le_of_ble_eq_true rfl, Nat.le_of_ble_eq_true rfl⟩) rfl hl.1 rfl (Nat.le_of_ble_eq_true rfl) dX1_partsOfTop_22 ⟨Nat.zero_le _, Nat.zero_le _⟩ (fun r22 H locs hw hP hS => ?_)
    refine lv_lload hx hb dX1_partsOfTop_25 (lv_at hl 0 rfl) ?_
    refine xNi0 (As := [.long r22, .long r2]) (rest := []) hst hE hP hS ⟨hx, hb, hml, hown, hts⟩ (mX6_parts l D h cI cJ t0 hh S L r22 r2 _ hw) ⟨va_cnB (own := RX1) (host := "BookOfWills") (index := 66) 2 hts gX1_partsOfTop_X6_parts_n66 rfl rfl rfl hE.2.2.1 (f0) (by decide +kernel) ⟨Nat.le_of_ble_eq_true rfl, Nat.le_of_ble_eq_true rfl⟩, f1, trivial⟩ rfl hl.1 rfl (Nat.le_of_ble_eq_true rfl) dX1_partsOfTop_27 ⟨Nat.zero_le _, Nat.zero_le _⟩ (fun r27 H locs hw hP hS => ?_)
    exact hret _ _ _ _ _ hP hS hw dX1_partsOfTop_30
  · replace hw := And.left hw ((lg_cmp_eq _ _).mp hc)
    refine lv_bipush (v := (-4 : Int32)) hx hb dX1_partsOfTop_14 (by decide) ?_
    refine lv_goto (tgt := 30) hx hb dX1_partsOfTop_16 (by decide) ?_
    exact hret _ _ _ _ _ hP hS hw dX1_partsOfTop_30
abbrev rX0_greatestKeen : Room := { frames := 1, cells := 0, slots := 0, locals := 32 }
set_option maxHeartbeats 4000000 in
set_option maxRecDepth 100000 in
theorem mX0_greatestKeen (l : Launch) (D : va_G) (h : Nat → Nat) (cI cJ : ClassId) (t0 : Nat) (hh : xdis 53 h) (S : SX) (L : LX) (v1 : Int32) (post : Int32 → Prop) (hw : kX0_greatestKeen S L v1 post) : Met l yX0_greatestKeen wsX0_greatestKeen rX0_greatestKeen (xPre D (wX h cI cJ) (xE D h cI cJ t0) S L [.ref (h 3), .int v1]) (va_Qi (fun (r : Int32) (u : SX × LX) => post r ∧ u.1 = S ∧ u.2 = L) (xB D (wX h cI cJ)) (xA 53 h)) 0 0 (xA 53 h) := by
  refine Met.ofW (cc := cX0_greatestKeen) (maxL := 4) (ret := (some .int)) (by decide) rfl ?_
  intro p e s m args below meth c s₁ B hml hv
  obtain ⟨hargs, hP, hE⟩ := hv
  have hx := B.exec
  have hb := B.bytes
  have hr := B.returns
  have hlocks := B.notSynchronized
  have hts := atoms_spec (ws := wsX0_greatestKeen) B.pre
  have hown : s.vm.findClass RX0 = some m.cls := findClass_of_methodNamed B.named
  have hS : va_S (xA 53 h) s.heap s.heap [] := va_S.rf
  have hD : ∀ (S : SX) (L : LX), va_D (xA 53 h) (wX h cI cJ S L) := fun S L => wX_D hh cI cJ S L
  have hK := hE.1
  have hst : xSt (xA 53 h) (xE D h cI cJ t0) := xE_st D h cI cJ t0
  have f0 := hts (.fieldLink RX0 15 "BookOfWills$Laws" "line" "[I") (by decide +kernel)
  have inX0 : ∀ w ∈ u_ws RX0 TX0 4, w ∈ wsX0_greatestKeen := fun w hw9 => List.mem_cons_of_mem _ (List.mem_append_right _ hw9)
  have f2 := hts (.fieldLink RX0 18 "BookOfWills$Laws" "keen" "[I") (by decide +kernel)
  have f3 := hts (.methodLink RX0 30 Lib.Math.max.name) (by decide +kernel)
  have f4 := hts (.static Lib.Math.max.name) (by decide +kernel)
  have f5 := hts (.initialized "java/lang/Math") (by decide +kernel)
  have f6 := hts (.code Lib.Math.max.name Lib.Math.max.code 2 (some .int)) (by decide +kernel)
  have hl := lv_entry ([.ref (h 3), .int v1]) (n := 4) (Nat.le_of_ble_eq_true rfl)
  have hen : entryFrame m args 4 = F0 m 0 ((lg_sl ([.ref (h 3), .int v1]) ++ List.replicate (4 - (lg_sl ([.ref (h 3), .int v1])).length) Slot.unset).toArray) [] := by rw [hargs]; exact lg_entry_eq m _ _
  rw [hen]
  generalize (lg_sl ([.ref (h 3), .int v1]) ++ List.replicate (4 - (lg_sl ([.ref (h 3), .int v1])).length) Slot.unset).toArray = ls at hl ⊢
  have hl : lv_has ls 4 [(0, .ref (h 3)), (1, .int v1)] := hl
  change W p l e rX0_greatestKeen s m args below meth c s.heap [] 0 0 (MQ below (va_Qi (fun (r : Int32) (u : SX × LX) => post r ∧ u.1 = S ∧ u.2 = L) (xB D (wX h cI cJ)) (xA 53 h)) args s 0 0 (xA 53 h)) (F0 m 0 ls [])
  have hret : ∀ (r : Int32) (H : Heap) (locs : List Loc) (ls : Array Slot) (pc : Nat), va_P D vwCl (wX h cI cJ S L) H → va_S (xA 53 h) s.heap H locs → post r → decode cX0_greatestKeen pc = .ok (.ireturn, 1) → W p l e rX0_greatestKeen s m args below meth c H locs 0 0 (MQ below (va_Qi (fun (r : Int32) (u : SX × LX) => post r ∧ u.1 = S ∧ u.2 = L) (xB D (wX h cI cJ)) (xA 53 h)) args s 0 0 (xA 53 h)) (F0 m pc ls [.int r]) := fun r H locs ls pc hP hS hw hd => W.iret hx hb hr (fun t ht hW => ⟨⟨r, (S, L), rfl, ⟨hw, rfl, rfl⟩, show va_P D vwCl (wX h cI cJ S L) t.heap by rw [ht]; exact hP⟩, hS.F ht⟩) hS.2.2 hd
  generalize MQ below (va_Qi (fun (r : Int32) (u : SX × LX) => post r ∧ u.1 = S ∧ u.2 = L) (xB D (wX h cI cJ)) (xA 53 h)) args s 0 0 (xA 53 h) = Q at hret ⊢
  have b4 : ∀  (n4 : Nat) (v2 : Int32) (v3 : Int32) (H : Heap) (locs : List Loc) (ls : Array Slot), lv_has ls 4 [(0, .ref (h 3)), (1, .int v1), (2, .int v2), (3, .int v3)] → va_P D vwCl (wX h cI cJ S L) H → va_S (xA 53 h) s.heap H locs → kX0_greatestKeen_b4 S L v1 post n4 v2 v3 → W p l e rX0_greatestKeen s m args below meth c H locs 0 0 Q (F0 m 4 ls []) := by
    intro n4
    induction n4 with
    | zero => intro v2 v3 H locs ls hl hP hS hw; exact absurd hw id
    | succ n4 i4 =>
      intro v2 v3 H locs ls hl hP hS hw
      unfold kX0_greatestKeen_b4 at hw
      refine lv_iload_n hx hb dX0_greatestKeen_4 rfl (lv_at hl 3 rfl) ?_
      refine lv_bipush (v := (8 : Int32)) hx hb dX0_greatestKeen_5 (by decide) ?_
      refine lv_icmp_ge (tgt := 45) hx hb dX0_greatestKeen_7 (by decide) (fun hc => ?_) (fun hc => ?_)
      · replace hw := And.left hw hc
        refine lv_iload_n hx hb dX0_greatestKeen_45 rfl (lv_at hl 2 rfl) ?_
        exact hret _ _ _ _ _ hP hS hw dX0_greatestKeen_46
      · replace hw := And.right hw hc
        refine lv_iload_n hx hb dX0_greatestKeen_10 rfl (lv_at hl 1 rfl) ?_
        refine lv_iload_n hx hb dX0_greatestKeen_11 rfl (lv_at hl 3 rfl) ?_
        refine lv_ishr hx hb dX0_greatestKeen_12 ?_
        refine lv_iconst (v := (1 : Int32)) hx hb dX0_greatestKeen_13 (by decide) ?_
        refine lv_iand hx hb dX0_greatestKeen_14 ?_
        refine lv_iconst (v := (1 : Int32)) hx hb dX0_greatestKeen_15 (by decide) ?_
        refine lv_icmp_ne (tgt := 39) hx hb dX0_greatestKeen_16 (by decide) (fun hc => ?_) (fun hc => ?_)
        · replace hw := And.right hw hc
          refine lv_iinc (v := v3 + (1 : Int32)) (lv' := [(3, .int (v3 + (1 : Int32))), (0, .ref (h 3)), (1, .int v1), (2, .int v2)]) hx hb dX0_greatestKeen_39 hl (k := 3) rfl rfl (by decide) rfl (fun ls hl => ?_)
          refine lv_goto (tgt := 4) hx hb dX0_greatestKeen_42 (by decide) ?_
          exact i4 v2 (v3 + (1 : Int32)) _ _ _ (lv_sub hl [1, 2, 3, 0] rfl) hP hS hw
        · replace hw := And.left hw hc
          refine lv_aload_n hx hb dX0_greatestKeen_19 rfl (lv_at hl 0 rfl) ?_
          refine va_get (D := D) (ci := 0) (v := .ref (h 5)) (C := RX0) (T := TX0) (N := 4) hx hb hts inX0 hown hK hP 3 wX_3 rfl 1 (by decide) f0 (fun _ h9 => h9) rfl dX0_greatestKeen_20 ?_
          refine lv_iload_n hx hb dX0_greatestKeen_23 rfl (lv_at hl 3 rfl) ?_
          obtain ⟨hi, hw⟩ := hw
          refine va_iald hx hb hK hP 5 0 wX_5 rfl hi dX0_greatestKeen_24 ?_
          refine lv_if_le (tgt := 39) hx hb dX0_greatestKeen_25 (by decide) (fun hc => ?_) (fun hc => ?_)
          · replace hw := And.left hw hc
            refine lv_iinc (v := v3 + (1 : Int32)) (lv' := [(3, .int (v3 + (1 : Int32))), (0, .ref (h 3)), (1, .int v1), (2, .int v2)]) hx hb dX0_greatestKeen_39 hl (k := 3) rfl rfl (by decide) rfl (fun ls hl => ?_)
            refine lv_goto (tgt := 4) hx hb dX0_greatestKeen_42 (by decide) ?_
            exact i4 v2 (v3 + (1 : Int32)) _ _ _ (lv_sub hl [1, 2, 3, 0] rfl) hP hS hw
          · replace hw := And.right hw hc
            refine lv_iload_n hx hb dX0_greatestKeen_28 rfl (lv_at hl 2 rfl) ?_
            refine lv_aload_n hx hb dX0_greatestKeen_29 rfl (lv_at hl 0 rfl) ?_
            refine va_get (D := D) (ci := 0) (v := .ref (h 6)) (C := RX0) (T := TX0) (N := 4) hx hb hts inX0 hown hK hP 3 wX_3 rfl 2 (by decide) f2 (fun _ h9 => h9) rfl dX0_greatestKeen_30 ?_
            refine lv_iload_n hx hb dX0_greatestKeen_33 rfl (lv_at hl 3 rfl) ?_
            obtain ⟨hi, hw⟩ := hw
            refine va_iald hx hb hK hP 6 0 wX_6 rfl hi dX0_greatestKeen_34 ?_
            refine va_mmax hx hb (hml.trans hl.1.symm) hown f3 f4 f5 f6 (Nat.le_of_ble_eq_true rfl) (Nat.le_of_ble_eq_true rfl) (Nat.zero_le _) (Nat.zero_le _) dX0_greatestKeen_35 ?_
            refine lv_istore_n (lv' := [(2, .int (if v2 < (S 6 v3.toNatClampNeg) then (S 6 v3.toNatClampNeg) else v2)), (0, .ref (h 3)), (1, .int v1), (3, .int v3)]) hx hb dX0_greatestKeen_38 rfl hl (by decide) rfl (fun ls hl => ?_)
            refine lv_iinc (v := v3 + (1 : Int32)) (lv' := [(3, .int (v3 + (1 : Int32))), (2, .int (if v2 < (S 6 v3.toNatClampNeg) then (S 6 v3.toNatClampNeg) else v2)), (0, .ref (h 3)), (1, .int v1)]) hx hb dX0_greatestKeen_39 hl (k := 3) rfl rfl (by decide) rfl (fun ls hl => ?_)
            refine lv_goto (tgt := 4) hx hb dX0_greatestKeen_42 (by decide) ?_
            exact i4 (if v2 < (S 6 v3.toNatClampNeg) then (S 6 v3.toNatClampNeg) else v2) (v3 + (1 : Int32)) _ _ _ (lv_sub hl [2, 3, 1, 0] rfl) hP hS hw
  unfold kX0_greatestKeen at hw
  refine lv_iconst (v := (0 : Int32)) hx hb dX0_greatestKeen_0 (by decide) ?_
  refine lv_istore_n (lv' := [(2, .int (0 : Int32)), (0, .ref (h 3)), (1, .int v1)]) hx hb dX0_greatestKeen_1 rfl hl (by decide) rfl (fun ls hl => ?_)
  refine lv_iconst (v := (0 : Int32)) hx hb dX0_greatestKeen_2 (by decide) ?_
  refine lv_istore_n (lv' := [(3, .int (0 : Int32)), (2, .int (0 : Int32)), (0, .ref (h 3)), (1, .int v1)]) hx hb dX0_greatestKeen_3 rfl hl (by decide) rfl (fun ls hl => ?_)
  obtain ⟨n4, hw⟩ := hw
  exact b4  n4 (0 : Int32) (0 : Int32) _ _ _ (lv_sub hl [2, 3, 1, 0] rfl) hP hS hw
abbrev rX0_takeFrom_19_3 : Room := { frames := 1, cells := 0, slots := 0, locals := 32 }
set_option maxHeartbeats 4000000 in
set_option maxRecDepth 100000 in
theorem mX0_takeFrom_19_3 (l : Launch) (D : va_G) (h : Nat → Nat) (cI cJ : ClassId) (t0 : Nat) (hh : xdis 53 h) (S : SX) (L : LX) (post : SX → Prop) (hw : kX0_takeFrom_19_3 S L  post) : Met l yX0_takeFrom wsX0_takeFrom rX0_takeFrom_19_3 (xPre D (wX h cI cJ) (xE D h cI cJ t0) S L [.ref (h 19), .ref (h 3)]) (va_Qv (fun (u : SX × LX) => post u.1 ∧ u.2 = L) (xB D (wX h cI cJ)) (xA 53 h)) 0 0 (xA 53 h) := by
  refine Met.ofW (cc := cX0_takeFrom) (maxL := 2) (ret := none) (by decide) rfl ?_
  intro p e s m args below meth c s₁ B hml hv
  obtain ⟨hargs, hP, hE⟩ := hv
  have hx := B.exec
  have hb := B.bytes
  have hr := B.returns
  have hlocks := B.notSynchronized
  have hts := atoms_spec (ws := wsX0_takeFrom) B.pre
  have hown : s.vm.findClass RX0 = some m.cls := findClass_of_methodNamed B.named
  have hS : va_S (xA 53 h) s.heap s.heap [] := va_S.rf
  have hD : ∀ (S : SX) (L : LX), va_D (xA 53 h) (wX h cI cJ S L) := fun S L => wX_D hh cI cJ S L
  have hK := hE.1
  have hst : xSt (xA 53 h) (xE D h cI cJ t0) := xE_st D h cI cJ t0
  have f0 := hts (.fieldLink RX0 9 "BookOfWills$Laws" "floor" "[I") (by decide +kernel)
  have inX0 : ∀ w ∈ u_ws RX0 TX0 4, w ∈ wsX0_takeFrom := fun w hw9 => List.mem_cons_of_mem _ (List.mem_append_right _ hw9)
  have f2 := hts (.methodLink RX0 24 arraycopyName) (by decide +kernel)
  have f3 := hts (.native arraycopyName) (by decide +kernel)
  have f4 := hts (.static arraycopyName) (by decide +kernel)
  have f5 := hts (.initialized "java/lang/System") (by decide +kernel)
  have f6 := hts (.fieldLink RX0 15 "BookOfWills$Laws" "line" "[I") (by decide +kernel)
  have f7 := hts (.fieldLink RX0 18 "BookOfWills$Laws" "keen" "[I") (by decide +kernel)
  have f8 := hts (.fieldLink RX0 21 "BookOfWills$Laws" "marks" "[I") (by decide +kernel)
  have hl := lv_entry ([.ref (h 19), .ref (h 3)]) (n := 2) (Nat.le_of_ble_eq_true rfl)
  have hen : entryFrame m args 2 = F0 m 0 ((lg_sl ([.ref (h 19), .ref (h 3)]) ++ List.replicate (2 - (lg_sl ([.ref (h 19), .ref (h 3)])).length) Slot.unset).toArray) [] := by rw [hargs]; exact lg_entry_eq m _ _
  rw [hen]
  generalize (lg_sl ([.ref (h 19), .ref (h 3)]) ++ List.replicate (2 - (lg_sl ([.ref (h 19), .ref (h 3)])).length) Slot.unset).toArray = ls at hl ⊢
  have hl : lv_has ls 2 [(0, .ref (h 19)), (1, .ref (h 3))] := hl
  change W p l e rX0_takeFrom_19_3 s m args below meth c s.heap [] 0 0 (MQ below (va_Qv (fun (u : SX × LX) => post u.1 ∧ u.2 = L) (xB D (wX h cI cJ)) (xA 53 h)) args s 0 0 (xA 53 h)) (F0 m 0 ls [])
  have hret : ∀ (S1 : SX) (H : Heap) (locs : List Loc) (ls : Array Slot) (pc : Nat), va_P D vwCl (wX h cI cJ S1 L) H → va_S (xA 53 h) s.heap H locs → post S1 → decode cX0_takeFrom pc = .ok (.return_, 1) → W p l e rX0_takeFrom_19_3 s m args below meth c H locs 0 0 (MQ below (va_Qv (fun (u : SX × LX) => post u.1 ∧ u.2 = L) (xB D (wX h cI cJ)) (xA 53 h)) args s 0 0 (xA 53 h)) (F0 m pc ls []) := fun S1 H locs ls pc hP hS hw hd => W.vret hx hb hr (fun t ht hW => ⟨⟨(S1, L), rfl, ⟨hw, rfl⟩, show va_P D vwCl (wX h cI cJ S1 L) t.heap by rw [ht]; exact hP⟩, hS.F ht⟩) hS.2.2 hd
  generalize MQ below (va_Qv (fun (u : SX × LX) => post u.1 ∧ u.2 = L) (xB D (wX h cI cJ)) (xA 53 h)) args s 0 0 (xA 53 h) = Q at hret ⊢
  unfold kX0_takeFrom_19_3 at hw
  refine lv_aload_n hx hb dX0_takeFrom_0 rfl (lv_at hl 1 rfl) ?_
  refine va_get (D := D) (ci := 0) (v := .ref (h 4)) (C := RX0) (T := TX0) (N := 4) hx hb hts inX0 hown hK hP 3 wX_3 rfl 0 (by decide) f0 (fun _ h9 => h9) rfl dX0_takeFrom_1 ?_
  refine lv_iconst (v := (0 : Int32)) hx hb dX0_takeFrom_4 (by decide) ?_
  refine lv_aload_n hx hb dX0_takeFrom_5 rfl (lv_at hl 0 rfl) ?_
  refine va_get (D := D) (ci := 0) (v := .ref (h 20)) (C := RX0) (T := TX0) (N := 4) hx hb hts inX0 hown hK hP 19 wX_19 rfl 0 (by decide) f0 (fun _ h9 => h9) rfl dX0_takeFrom_6 ?_
  refine lv_iconst (v := (0 : Int32)) hx hb dX0_takeFrom_9 (by decide) ?_
  refine lv_bipush (v := (8 : Int32)) hx hb dX0_takeFrom_10 (by decide) ?_
  obtain ⟨hi, hw⟩ := hw
  refine x_copyi (ws2 := wX h cI cJ (xcp S 20 4 (0 : Int32).toNatClampNeg (0 : Int32).toNatClampNeg (8 : Int32).toNatClampNeg) L) hx hb (hml.trans hl.1.symm) hown f2 f3 f4 f5 hK hP (hD _ _) hS 4 20 0 wX_4 wX_20 rfl hi.1 hi.2.1 hi.2.2.1 hi.2.2.2.1 hi.2.2.2.2 (Nat.le_of_ble_eq_true rfl) (Nat.le_of_ble_eq_true rfl) dX0_takeFrom_12 (wX_c20 _ _ _ _) (fun H locs hP hS => ?_)
  refine lv_aload_n hx hb dX0_takeFrom_15 rfl (lv_at hl 1 rfl) ?_
  refine va_get (D := D) (ci := 0) (v := .ref (h 5)) (C := RX0) (T := TX0) (N := 4) hx hb hts inX0 hown hK hP 3 wX_3 rfl 1 (by decide) f6 (fun _ h9 => h9) rfl dX0_takeFrom_16 ?_
  refine lv_iconst (v := (0 : Int32)) hx hb dX0_takeFrom_19 (by decide) ?_
  refine lv_aload_n hx hb dX0_takeFrom_20 rfl (lv_at hl 0 rfl) ?_
  refine va_get (D := D) (ci := 0) (v := .ref (h 21)) (C := RX0) (T := TX0) (N := 4) hx hb hts inX0 hown hK hP 19 wX_19 rfl 1 (by decide) f6 (fun _ h9 => h9) rfl dX0_takeFrom_21 ?_
  refine lv_iconst (v := (0 : Int32)) hx hb dX0_takeFrom_24 (by decide) ?_
  refine lv_bipush (v := (8 : Int32)) hx hb dX0_takeFrom_25 (by decide) ?_
  obtain ⟨hi, hw⟩ := hw
  refine x_copyi (ws2 := wX h cI cJ (xcp (xcp S 20 4 (0 : Int32).toNatClampNeg (0 : Int32).toNatClampNeg (8 : Int32).toNatClampNeg) 21 5 (0 : Int32).toNatClampNeg (0 : Int32).toNatClampNeg (8 : Int32).toNatClampNeg) L) hx hb (hml.trans hl.1.symm) hown f2 f3 f4 f5 hK hP (hD _ _) hS 5 21 0 wX_5 wX_21 rfl hi.1 hi.2.1 hi.2.2.1 hi.2.2.2.1 hi.2.2.2.2 (Nat.le_of_ble_eq_true rfl) (Nat.le_of_ble_eq_true rfl) dX0_takeFrom_27 (wX_c21 _ _ _ _) (fun H locs hP hS => ?_)
  refine lv_aload_n hx hb dX0_takeFrom_30 rfl (lv_at hl 1 rfl) ?_
  refine va_get (D := D) (ci := 0) (v := .ref (h 6)) (C := RX0) (T := TX0) (N := 4) hx hb hts inX0 hown hK hP 3 wX_3 rfl 2 (by decide) f7 (fun _ h9 => h9) rfl dX0_takeFrom_31 ?_
  refine lv_iconst (v := (0 : Int32)) hx hb dX0_takeFrom_34 (by decide) ?_
  refine lv_aload_n hx hb dX0_takeFrom_35 rfl (lv_at hl 0 rfl) ?_
  refine va_get (D := D) (ci := 0) (v := .ref (h 22)) (C := RX0) (T := TX0) (N := 4) hx hb hts inX0 hown hK hP 19 wX_19 rfl 2 (by decide) f7 (fun _ h9 => h9) rfl dX0_takeFrom_36 ?_
  refine lv_iconst (v := (0 : Int32)) hx hb dX0_takeFrom_39 (by decide) ?_
  refine lv_bipush (v := (8 : Int32)) hx hb dX0_takeFrom_40 (by decide) ?_
  obtain ⟨hi, hw⟩ := hw
  refine x_copyi (ws2 := wX h cI cJ (xcp (xcp (xcp S 20 4 (0 : Int32).toNatClampNeg (0 : Int32).toNatClampNeg (8 : Int32).toNatClampNeg) 21 5 (0 : Int32).toNatClampNeg (0 : Int32).toNatClampNeg (8 : Int32).toNatClampNeg) 22 6 (0 : Int32).toNatClampNeg (0 : Int32).toNatClampNeg (8 : Int32).toNatClampNeg) L) hx hb (hml.trans hl.1.symm) hown f2 f3 f4 f5 hK hP (hD _ _) hS 6 22 0 wX_6 wX_22 rfl hi.1 hi.2.1 hi.2.2.1 hi.2.2.2.1 hi.2.2.2.2 (Nat.le_of_ble_eq_true rfl) (Nat.le_of_ble_eq_true rfl) dX0_takeFrom_42 (wX_c22 _ _ _ _) (fun H locs hP hS => ?_)
  refine lv_aload_n hx hb dX0_takeFrom_45 rfl (lv_at hl 1 rfl) ?_
  refine va_get (D := D) (ci := 0) (v := .ref (h 7)) (C := RX0) (T := TX0) (N := 4) hx hb hts inX0 hown hK hP 3 wX_3 rfl 3 (by decide) f8 (fun _ h9 => h9) rfl dX0_takeFrom_46 ?_
  refine lv_iconst (v := (0 : Int32)) hx hb dX0_takeFrom_49 (by decide) ?_
  refine lv_aload_n hx hb dX0_takeFrom_50 rfl (lv_at hl 0 rfl) ?_
  refine va_get (D := D) (ci := 0) (v := .ref (h 23)) (C := RX0) (T := TX0) (N := 4) hx hb hts inX0 hown hK hP 19 wX_19 rfl 3 (by decide) f8 (fun _ h9 => h9) rfl dX0_takeFrom_51 ?_
  refine lv_iconst (v := (0 : Int32)) hx hb dX0_takeFrom_54 (by decide) ?_
  refine lv_bipush (v := (8 : Int32)) hx hb dX0_takeFrom_55 (by decide) ?_
  obtain ⟨hi, hw⟩ := hw
  refine x_copyi (ws2 := wX h cI cJ (xcp (xcp (xcp (xcp S 20 4 (0 : Int32).toNatClampNeg (0 : Int32).toNatClampNeg (8 : Int32).toNatClampNeg) 21 5 (0 : Int32).toNatClampNeg (0 : Int32).toNatClampNeg (8 : Int32).toNatClampNeg) 22 6 (0 : Int32).toNatClampNeg (0 : Int32).toNatClampNeg (8 : Int32).toNatClampNeg) 23 7 (0 : Int32).toNatClampNeg (0 : Int32).toNatClampNeg (8 : Int32).toNatClampNeg) L) hx hb (hml.trans hl.1.symm) hown f2 f3 f4 f5 hK hP (hD _ _) hS 7 23 0 wX_7 wX_23 rfl hi.1 hi.2.1 hi.2.2.1 hi.2.2.2.1 hi.2.2.2.2 (Nat.le_of_ble_eq_true rfl) (Nat.le_of_ble_eq_true rfl) dX0_takeFrom_57 (wX_c23 _ _ _ _) (fun H locs hP hS => ?_)
  exact hret _ _ _ _ _ hP hS hw dX0_takeFrom_60
abbrev rX4_move_24_8 : Room := { frames := 1, cells := 0, slots := 0, locals := 32 }
set_option maxHeartbeats 4000000 in
set_option maxRecDepth 100000 in
theorem mX4_move_24_8 (l : Launch) (D : va_G) (h : Nat → Nat) (cI cJ : ClassId) (t0 : Nat) (hh : xdis 53 h) (S : SX) (L : LX) (v2 : Int32) (v3 : Int32) (v4 : Int32) (post : SX → Prop) (hw : kX4_move_24_8 S L v2 v3 v4 post) : Met l yX4_move wsX4_move rX4_move_24_8 (xPre D (wX h cI cJ) (xE D h cI cJ t0) S L [.ref (h 24), .ref (h 8), .int v2, .int v3, .int v4]) (va_Qv (fun (u : SX × LX) => post u.1 ∧ u.2 = L) (xB D (wX h cI cJ)) (xA 53 h)) 0 0 (xA 53 h) := by
  refine Met.ofW (cc := cX4_move) (maxL := 5) (ret := none) (by decide) rfl ?_
  intro p e s m args below meth c s₁ B hml hv
  obtain ⟨hargs, hP, hE⟩ := hv
  have hx := B.exec
  have hb := B.bytes
  have hr := B.returns
  have hlocks := B.notSynchronized
  have hts := atoms_spec (ws := wsX4_move) B.pre
  have hown : s.vm.findClass RX4 = some m.cls := findClass_of_methodNamed B.named
  have hS : va_S (xA 53 h) s.heap s.heap [] := va_S.rf
  have hD : ∀ (S : SX) (L : LX), va_D (xA 53 h) (wX h cI cJ S L) := fun S L => wX_D hh cI cJ S L
  have hK := hE.1
  have hst : xSt (xA 53 h) (xE D h cI cJ t0) := xE_st D h cI cJ t0
  have f0 := hts (.fieldLink RX4 9 "BookOfWills$Wills" "year" "[I") (by decide +kernel)
  have inX4 : ∀ w ∈ u_ws RX4 TX4 5, w ∈ wsX4_move := fun w hw9 => List.mem_cons_of_mem _ (List.mem_append_right _ hw9)
  have f2 := hts (.methodLink RX4 39 arraycopyName) (by decide +kernel)
  have f3 := hts (.native arraycopyName) (by decide +kernel)
  have f4 := hts (.static arraycopyName) (by decide +kernel)
  have f5 := hts (.initialized "java/lang/System") (by decide +kernel)
  have f6 := hts (.fieldLink RX4 15 "BookOfWills$Wills" "age" "[I") (by decide +kernel)
  have f7 := hts (.fieldLink RX4 18 "BookOfWills$Wills" "sex" "[I") (by decide +kernel)
  have f8 := hts (.fieldLink RX4 21 "BookOfWills$Wills" "had" "[I") (by decide +kernel)
  have hl := lv_entry ([.ref (h 24), .ref (h 8), .int v2, .int v3, .int v4]) (n := 5) (Nat.le_of_ble_eq_true rfl)
  have hen : entryFrame m args 5 = F0 m 0 ((lg_sl ([.ref (h 24), .ref (h 8), .int v2, .int v3, .int v4]) ++ List.replicate (5 - (lg_sl ([.ref (h 24), .ref (h 8), .int v2, .int v3, .int v4])).length) Slot.unset).toArray) [] := by rw [hargs]; exact lg_entry_eq m _ _
  rw [hen]
  generalize (lg_sl ([.ref (h 24), .ref (h 8), .int v2, .int v3, .int v4]) ++ List.replicate (5 - (lg_sl ([.ref (h 24), .ref (h 8), .int v2, .int v3, .int v4])).length) Slot.unset).toArray = ls at hl ⊢
  have hl : lv_has ls 5 [(0, .ref (h 24)), (1, .ref (h 8)), (2, .int v2), (3, .int v3), (4, .int v4)] := hl
  change W p l e rX4_move_24_8 s m args below meth c s.heap [] 0 0 (MQ below (va_Qv (fun (u : SX × LX) => post u.1 ∧ u.2 = L) (xB D (wX h cI cJ)) (xA 53 h)) args s 0 0 (xA 53 h)) (F0 m 0 ls [])
  have hret : ∀ (S1 : SX) (H : Heap) (locs : List Loc) (ls : Array Slot) (pc : Nat), va_P D vwCl (wX h cI cJ S1 L) H → va_S (xA 53 h) s.heap H locs → post S1 → decode cX4_move pc = .ok (.return_, 1) → W p l e rX4_move_24_8 s m args below meth c H locs 0 0 (MQ below (va_Qv (fun (u : SX × LX) => post u.1 ∧ u.2 = L) (xB D (wX h cI cJ)) (xA 53 h)) args s 0 0 (xA 53 h)) (F0 m pc ls []) := fun S1 H locs ls pc hP hS hw hd => W.vret hx hb hr (fun t ht hW => ⟨⟨(S1, L), rfl, ⟨hw, rfl⟩, show va_P D vwCl (wX h cI cJ S1 L) t.heap by rw [ht]; exact hP⟩, hS.F ht⟩) hS.2.2 hd
  generalize MQ below (va_Qv (fun (u : SX × LX) => post u.1 ∧ u.2 = L) (xB D (wX h cI cJ)) (xA 53 h)) args s 0 0 (xA 53 h) = Q at hret ⊢
  unfold kX4_move_24_8 at hw
  refine lv_aload_n hx hb dX4_move_0 rfl (lv_at hl 1 rfl) ?_
  refine va_get (D := D) (ci := 4) (v := .ref (h 9)) (C := RX4) (T := TX4) (N := 5) hx hb hts inX4 hown hK hP 8 wX_8 rfl 1 (by decide) f0 (fun _ h9 => h9) rfl dX4_move_1 ?_
  refine lv_iload_n hx hb dX4_move_4 rfl (lv_at hl 2 rfl) ?_
  refine lv_aload_n hx hb dX4_move_5 rfl (lv_at hl 0 rfl) ?_
  refine va_get (D := D) (ci := 4) (v := .ref (h 25)) (C := RX4) (T := TX4) (N := 5) hx hb hts inX4 hown hK hP 24 wX_24 rfl 1 (by decide) f0 (fun _ h9 => h9) rfl dX4_move_6 ?_
  refine lv_iload_n hx hb dX4_move_9 rfl (lv_at hl 3 rfl) ?_
  refine lv_iload hx hb dX4_move_10 (lv_at hl 4 rfl) ?_
  obtain ⟨hi, hw⟩ := hw
  refine x_copyi (ws2 := wX h cI cJ (xcp S 25 9 v2.toNatClampNeg v3.toNatClampNeg v4.toNatClampNeg) L) hx hb (hml.trans hl.1.symm) hown f2 f3 f4 f5 hK hP (hD _ _) hS 9 25 0 wX_9 wX_25 rfl hi.1 hi.2.1 hi.2.2.1 hi.2.2.2.1 hi.2.2.2.2 (Nat.le_of_ble_eq_true rfl) (Nat.le_of_ble_eq_true rfl) dX4_move_12 (wX_c25 _ _ _ _) (fun H locs hP hS => ?_)
  refine lv_aload_n hx hb dX4_move_15 rfl (lv_at hl 1 rfl) ?_
  refine va_get (D := D) (ci := 4) (v := .ref (h 10)) (C := RX4) (T := TX4) (N := 5) hx hb hts inX4 hown hK hP 8 wX_8 rfl 2 (by decide) f6 (fun _ h9 => h9) rfl dX4_move_16 ?_
  refine lv_iload_n hx hb dX4_move_19 rfl (lv_at hl 2 rfl) ?_
  refine lv_aload_n hx hb dX4_move_20 rfl (lv_at hl 0 rfl) ?_
  refine va_get (D := D) (ci := 4) (v := .ref (h 26)) (C := RX4) (T := TX4) (N := 5) hx hb hts inX4 hown hK hP 24 wX_24 rfl 2 (by decide) f6 (fun _ h9 => h9) rfl dX4_move_21 ?_
  refine lv_iload_n hx hb dX4_move_24 rfl (lv_at hl 3 rfl) ?_
  refine lv_iload hx hb dX4_move_25 (lv_at hl 4 rfl) ?_
  obtain ⟨hi, hw⟩ := hw
  refine x_copyi (ws2 := wX h cI cJ (xcp (xcp S 25 9 v2.toNatClampNeg v3.toNatClampNeg v4.toNatClampNeg) 26 10 v2.toNatClampNeg v3.toNatClampNeg v4.toNatClampNeg) L) hx hb (hml.trans hl.1.symm) hown f2 f3 f4 f5 hK hP (hD _ _) hS 10 26 0 wX_10 wX_26 rfl hi.1 hi.2.1 hi.2.2.1 hi.2.2.2.1 hi.2.2.2.2 (Nat.le_of_ble_eq_true rfl) (Nat.le_of_ble_eq_true rfl) dX4_move_27 (wX_c26 _ _ _ _) (fun H locs hP hS => ?_)
  refine lv_aload_n hx hb dX4_move_30 rfl (lv_at hl 1 rfl) ?_
  refine va_get (D := D) (ci := 4) (v := .ref (h 11)) (C := RX4) (T := TX4) (N := 5) hx hb hts inX4 hown hK hP 8 wX_8 rfl 3 (by decide) f7 (fun _ h9 => h9) rfl dX4_move_31 ?_
  refine lv_iload_n hx hb dX4_move_34 rfl (lv_at hl 2 rfl) ?_
  refine lv_aload_n hx hb dX4_move_35 rfl (lv_at hl 0 rfl) ?_
  refine va_get (D := D) (ci := 4) (v := .ref (h 27)) (C := RX4) (T := TX4) (N := 5) hx hb hts inX4 hown hK hP 24 wX_24 rfl 3 (by decide) f7 (fun _ h9 => h9) rfl dX4_move_36 ?_
  refine lv_iload_n hx hb dX4_move_39 rfl (lv_at hl 3 rfl) ?_
  refine lv_iload hx hb dX4_move_40 (lv_at hl 4 rfl) ?_
  obtain ⟨hi, hw⟩ := hw
  refine x_copyi (ws2 := wX h cI cJ (xcp (xcp (xcp S 25 9 v2.toNatClampNeg v3.toNatClampNeg v4.toNatClampNeg) 26 10 v2.toNatClampNeg v3.toNatClampNeg v4.toNatClampNeg) 27 11 v2.toNatClampNeg v3.toNatClampNeg v4.toNatClampNeg) L) hx hb (hml.trans hl.1.symm) hown f2 f3 f4 f5 hK hP (hD _ _) hS 11 27 0 wX_11 wX_27 rfl hi.1 hi.2.1 hi.2.2.1 hi.2.2.2.1 hi.2.2.2.2 (Nat.le_of_ble_eq_true rfl) (Nat.le_of_ble_eq_true rfl) dX4_move_42 (wX_c27 _ _ _ _) (fun H locs hP hS => ?_)
  refine lv_aload_n hx hb dX4_move_45 rfl (lv_at hl 1 rfl) ?_
  refine va_get (D := D) (ci := 4) (v := .ref (h 12)) (C := RX4) (T := TX4) (N := 5) hx hb hts inX4 hown hK hP 8 wX_8 rfl 4 (by decide) f8 (fun _ h9 => h9) rfl dX4_move_46 ?_
  refine lv_iload_n hx hb dX4_move_49 rfl (lv_at hl 2 rfl) ?_
  refine lv_iconst (v := (4 : Int32)) hx hb dX4_move_50 (by decide) ?_
  refine lv_imul hx hb dX4_move_51 ?_
  refine lv_aload_n hx hb dX4_move_52 rfl (lv_at hl 0 rfl) ?_
  refine va_get (D := D) (ci := 4) (v := .ref (h 28)) (C := RX4) (T := TX4) (N := 5) hx hb hts inX4 hown hK hP 24 wX_24 rfl 4 (by decide) f8 (fun _ h9 => h9) rfl dX4_move_53 ?_
  refine lv_iload_n hx hb dX4_move_56 rfl (lv_at hl 3 rfl) ?_
  refine lv_iconst (v := (4 : Int32)) hx hb dX4_move_57 (by decide) ?_
  refine lv_imul hx hb dX4_move_58 ?_
  refine lv_iload hx hb dX4_move_59 (lv_at hl 4 rfl) ?_
  refine lv_iconst (v := (4 : Int32)) hx hb dX4_move_61 (by decide) ?_
  refine lv_imul hx hb dX4_move_62 ?_
  obtain ⟨hi, hw⟩ := hw
  refine x_copyi (ws2 := wX h cI cJ (xcp (xcp (xcp (xcp S 25 9 v2.toNatClampNeg v3.toNatClampNeg v4.toNatClampNeg) 26 10 v2.toNatClampNeg v3.toNatClampNeg v4.toNatClampNeg) 27 11 v2.toNatClampNeg v3.toNatClampNeg v4.toNatClampNeg) 28 12 (v2 * (4 : Int32)).toNatClampNeg (v3 * (4 : Int32)).toNatClampNeg (v4 * (4 : Int32)).toNatClampNeg) L) hx hb (hml.trans hl.1.symm) hown f2 f3 f4 f5 hK hP (hD _ _) hS 12 28 0 wX_12 wX_28 rfl hi.1 hi.2.1 hi.2.2.1 hi.2.2.2.1 hi.2.2.2.2 (Nat.le_of_ble_eq_true rfl) (Nat.le_of_ble_eq_true rfl) dX4_move_63 (wX_c28 _ _ _ _) (fun H locs hP hS => ?_)
  exact hret _ _ _ _ _ hP hS hw dX4_move_66
abbrev rX4_takeFrom_24 : Room := { frames := 2, cells := 0, slots := 0, locals := 56 }
set_option maxHeartbeats 4000000 in
set_option maxRecDepth 100000 in
theorem mX4_takeFrom_24 (l : Launch) (D : va_G) (h : Nat → Nat) (cI cJ : ClassId) (t0 : Nat) (hh : xdis 53 h) (S : SX) (L : LX) (post : SX → Prop) (hw : kX4_takeFrom_24 S L  post) : Met l yX4_takeFrom wsX4_takeFrom rX4_takeFrom_24 (xPre D (wX h cI cJ) (xE D h cI cJ t0) S L [.ref (h 24), .ref (h 8)]) (va_Qv (fun (u : SX × LX) => post u.1 ∧ u.2 = L) (xB D (wX h cI cJ)) (xA 53 h)) 0 0 (xA 53 h) := by
  refine Met.ofW (cc := cX4_takeFrom) (maxL := 2) (ret := none) (by decide) rfl ?_
  intro p e s m args below meth c s₁ B hml hv
  obtain ⟨hargs, hP, hE⟩ := hv
  have hx := B.exec
  have hb := B.bytes
  have hr := B.returns
  have hlocks := B.notSynchronized
  have hts := atoms_spec (ws := wsX4_takeFrom) B.pre
  have hown : s.vm.findClass RX4 = some m.cls := findClass_of_methodNamed B.named
  have hS : va_S (xA 53 h) s.heap s.heap [] := va_S.rf
  have hD : ∀ (S : SX) (L : LX), va_D (xA 53 h) (wX h cI cJ S L) := fun S L => wX_D hh cI cJ S L
  have hK := hE.1
  have hst : xSt (xA 53 h) (xE D h cI cJ t0) := xE_st D h cI cJ t0
  have f0 := hts (.fieldLink RX4 24 "BookOfWills$Wills" "size" "I") (by decide +kernel)
  have inX4 : ∀ w ∈ u_ws RX4 TX4 5, w ∈ wsX4_takeFrom := fun w hw9 => List.mem_cons_of_mem _ (List.mem_append_right _ hw9)
  have hl := lv_entry ([.ref (h 24), .ref (h 8)]) (n := 2) (Nat.le_of_ble_eq_true rfl)
  have hen : entryFrame m args 2 = F0 m 0 ((lg_sl ([.ref (h 24), .ref (h 8)]) ++ List.replicate (2 - (lg_sl ([.ref (h 24), .ref (h 8)])).length) Slot.unset).toArray) [] := by rw [hargs]; exact lg_entry_eq m _ _
  rw [hen]
  generalize (lg_sl ([.ref (h 24), .ref (h 8)]) ++ List.replicate (2 - (lg_sl ([.ref (h 24), .ref (h 8)])).length) Slot.unset).toArray = ls at hl ⊢
  have hl : lv_has ls 2 [(0, .ref (h 24)), (1, .ref (h 8))] := hl
  change W p l e rX4_takeFrom_24 s m args below meth c s.heap [] 0 0 (MQ below (va_Qv (fun (u : SX × LX) => post u.1 ∧ u.2 = L) (xB D (wX h cI cJ)) (xA 53 h)) args s 0 0 (xA 53 h)) (F0 m 0 ls [])
  have hret : ∀ (S1 : SX) (H : Heap) (locs : List Loc) (ls : Array Slot) (pc : Nat), va_P D vwCl (wX h cI cJ S1 L) H → va_S (xA 53 h) s.heap H locs → post S1 → decode cX4_takeFrom pc = .ok (.return_, 1) → W p l e rX4_takeFrom_24 s m args below meth c H locs 0 0 (MQ below (va_Qv (fun (u : SX × LX) => post u.1 ∧ u.2 = L) (xB D (wX h cI cJ)) (xA 53 h)) args s 0 0 (xA 53 h)) (F0 m pc ls []) := fun S1 H locs ls pc hP hS hw hd => W.vret hx hb hr (fun t ht hW => ⟨⟨(S1, L), rfl, ⟨hw, rfl⟩, show va_P D vwCl (wX h cI cJ S1 L) t.heap by rw [ht]; exact hP⟩, hS.F ht⟩) hS.2.2 hd
  generalize MQ below (va_Qv (fun (u : SX × LX) => post u.1 ∧ u.2 = L) (xB D (wX h cI cJ)) (xA 53 h)) args s 0 0 (xA 53 h) = Q at hret ⊢
  unfold kX4_takeFrom_24 at hw
  refine lv_aload_n hx hb dX4_takeFrom_0 rfl (lv_at hl 0 rfl) ?_
  refine lv_aload_n hx hb dX4_takeFrom_1 rfl (lv_at hl 1 rfl) ?_
  refine lv_iconst (v := (0 : Int32)) hx hb dX4_takeFrom_2 (by decide) ?_
  refine lv_iconst (v := (0 : Int32)) hx hb dX4_takeFrom_3 (by decide) ?_
  refine lv_aload_n hx hb dX4_takeFrom_4 rfl (lv_at hl 1 rfl) ?_
  refine va_get (D := D) (ci := 4) (v := .int (S 8 0)) (C := RX4) (T := TX4) (N := 5) hx hb hts inX4 hown hK hP 8 wX_8 rfl 0 (by decide) f0 (fun _ h9 => h9) rfl dX4_takeFrom_5 ?_
  refine xVv1 (As := [.ref (h 8), .int (0 : Int32), .int (0 : Int32), .int (S 8 0)]) (rest := []) hst hE hP hS ⟨hx, hb, hml, hown, hts⟩ (va_recv hK hP (ci := 4) (q := (RX4, TX4, 5)) rfl wX_24) (mX4_move_24_8 l D h cI cJ t0 hh S L (0 : Int32) (0 : Int32) (S 8 0) _ hw) (cwV 4 hts gX4_takeFrom_X4_move rfl rfl rfl (by decide +kernel) ⟨Nat.le_of_ble_eq_true rfl, Nat.le_of_ble_eq_true rfl⟩) rfl hl.1 rfl (Nat.le_of_ble_eq_true rfl) dX4_takeFrom_8 ⟨Nat.zero_le _, Nat.zero_le _⟩ (fun S8 H locs hw hP hS => ?_)
  refine lv_aload_n hx hb dX4_takeFrom_11 rfl (lv_at hl 0 rfl) ?_
  refine lv_aload_n hx hb dX4_takeFrom_12 rfl (lv_at hl 1 rfl) ?_
  refine va_get (D := D) (ci := 4) (v := .int (S8 8 0)) (C := RX4) (T := TX4) (N := 5) hx hb hts inX4 hown hK hP 8 wX_8 rfl 0 (by decide) f0 (fun _ h9 => h9) rfl dX4_takeFrom_13 ?_
  refine x_put (D := D) (ci := 4) (v := .int (S8 8 0)) (ty := .int) (C := RX4) (T := TX4) (N := 5) (ws2 := wX h cI cJ (xu S8 24 0 (S8 8 0)) L) hx hb hts inX4 tyX4 tyX4_ok nmX4 hown hK hP (hD _ _) hS 24 wX_24 rfl 0 (by decide) f0 (fun _ h9 => h9) rfl (by decide +kernel) rfl rfl (Nat.le_of_ble_eq_true rfl) dX4_takeFrom_16 (wX_p24_0 _) (fun H locs hP hS => ?_)
  exact hret _ _ _ _ _ hP hS hw dX4_takeFrom_19
abbrev rX5_takeFrom_17 : Room := { frames := 3, cells := 0, slots := 0, locals := 77 }
set_option maxHeartbeats 4000000 in
set_option maxRecDepth 100000 in
theorem mX5_takeFrom_17 (l : Launch) (D : va_G) (h : Nat → Nat) (cI cJ : ClassId) (t0 : Nat) (hh : xdis 53 h) (S : SX) (L : LX) (post : SX → LX → Prop) (hw : kX5_takeFrom_17 S L  post) : Met l yX5_takeFrom wsX5_takeFrom rX5_takeFrom_17 (xPre D (wX h cI cJ) (xE D h cI cJ t0) S L [.ref (h 17), .ref (h 1)]) (va_Qv (fun (u : SX × LX) => post u.1 u.2) (xB D (wX h cI cJ)) (xA 53 h)) 0 0 (xA 53 h) := by
  refine Met.ofW (cc := cX5_takeFrom) (maxL := 2) (ret := none) (by decide) rfl ?_
  intro p e s m args below meth c s₁ B hml hv
  obtain ⟨hargs, hP, hE⟩ := hv
  have hx := B.exec
  have hb := B.bytes
  have hr := B.returns
  have hlocks := B.notSynchronized
  have hts := atoms_spec (ws := wsX5_takeFrom) B.pre
  have hown : s.vm.findClass RX5 = some m.cls := findClass_of_methodNamed B.named
  have hS : va_S (xA 53 h) s.heap s.heap [] := va_S.rf
  have hD : ∀ (S : SX) (L : LX), va_D (xA 53 h) (wX h cI cJ S L) := fun S L => wX_D hh cI cJ S L
  have hK := hE.1
  have hst : xSt (xA 53 h) (xE D h cI cJ t0) := xE_st D h cI cJ t0
  have f0 := hts (.fieldLink RX5 9 "BookOfWills$World" "lives" "[I") (by decide +kernel)
  have inX5 : ∀ w ∈ u_ws RX5 TX5 10, w ∈ wsX5_takeFrom := fun w hw9 => List.mem_cons_of_mem _ (List.mem_append_left _ (List.mem_append_left _ (List.mem_append_right _ hw9)))
  have f2 := hts (.methodLink RX5 47 arraycopyName) (by decide +kernel)
  have f3 := hts (.native arraycopyName) (by decide +kernel)
  have f4 := hts (.static arraycopyName) (by decide +kernel)
  have f5 := hts (.initialized "java/lang/System") (by decide +kernel)
  have f6 := hts (.fieldLink RX5 16 "BookOfWills$World" "riches" "I") (by decide +kernel)
  have f7 := hts (.fieldLink RX5 53 "BookOfWills$World" "more" "I") (by decide +kernel)
  have f8 := hts (.fieldLink RX5 23 "BookOfWills$World" "laws" "LBookOfWills$Laws;") (by decide +kernel)
  have f9 := hts (.fieldLink RX5 30 "BookOfWills$World" "wills" "LBookOfWills$Wills;") (by decide +kernel)
  have f10 := hts (.fieldLink RX5 34 "BookOfWills$World" "people" "[I") (by decide +kernel)
  have f11 := hts (.fieldLink RX5 37 "BookOfWills$World" "prices" "[I") (by decide +kernel)
  have f12 := hts (.fieldLink RX5 63 "BookOfWills$World" "counted" "I") (by decide +kernel)
  have f13 := hts (.fieldLink RX5 40 "BookOfWills$World" "leastCounted" "[J") (by decide +kernel)
  have f14 := hts (.fieldLink RX5 44 "BookOfWills$World" "mostCounted" "[J") (by decide +kernel)
  have hl := lv_entry ([.ref (h 17), .ref (h 1)]) (n := 2) (Nat.le_of_ble_eq_true rfl)
  have hen : entryFrame m args 2 = F0 m 0 ((lg_sl ([.ref (h 17), .ref (h 1)]) ++ List.replicate (2 - (lg_sl ([.ref (h 17), .ref (h 1)])).length) Slot.unset).toArray) [] := by rw [hargs]; exact lg_entry_eq m _ _
  rw [hen]
  generalize (lg_sl ([.ref (h 17), .ref (h 1)]) ++ List.replicate (2 - (lg_sl ([.ref (h 17), .ref (h 1)])).length) Slot.unset).toArray = ls at hl ⊢
  have hl : lv_has ls 2 [(0, .ref (h 17)), (1, .ref (h 1))] := hl
  change W p l e rX5_takeFrom_17 s m args below meth c s.heap [] 0 0 (MQ below (va_Qv (fun (u : SX × LX) => post u.1 u.2) (xB D (wX h cI cJ)) (xA 53 h)) args s 0 0 (xA 53 h)) (F0 m 0 ls [])
  have hret : ∀ (S1 : SX) (L1 : LX) (H : Heap) (locs : List Loc) (ls : Array Slot) (pc : Nat), va_P D vwCl (wX h cI cJ S1 L1) H → va_S (xA 53 h) s.heap H locs → post S1 L1 → decode cX5_takeFrom pc = .ok (.return_, 1) → W p l e rX5_takeFrom_17 s m args below meth c H locs 0 0 (MQ below (va_Qv (fun (u : SX × LX) => post u.1 u.2) (xB D (wX h cI cJ)) (xA 53 h)) args s 0 0 (xA 53 h)) (F0 m pc ls []) := fun S1 L1 H locs ls pc hP hS hw hd => W.vret hx hb hr (fun t ht hW => ⟨⟨(S1, L1), rfl, hw, show va_P D vwCl (wX h cI cJ S1 L1) t.heap by rw [ht]; exact hP⟩, hS.F ht⟩) hS.2.2 hd
  generalize MQ below (va_Qv (fun (u : SX × LX) => post u.1 u.2) (xB D (wX h cI cJ)) (xA 53 h)) args s 0 0 (xA 53 h) = Q at hret ⊢
  unfold kX5_takeFrom_17 at hw
  refine lv_aload_n hx hb dX5_takeFrom_0 rfl (lv_at hl 1 rfl) ?_
  refine va_get (D := D) (ci := 5) (v := .ref (h 2)) (C := RX5) (T := TX5) (N := 10) hx hb hts inX5 hown hK hP 1 wX_1 rfl 0 (by decide) f0 (fun _ h9 => h9) rfl dX5_takeFrom_1 ?_
  refine lv_iconst (v := (0 : Int32)) hx hb dX5_takeFrom_4 (by decide) ?_
  refine lv_aload_n hx hb dX5_takeFrom_5 rfl (lv_at hl 0 rfl) ?_
  refine va_get (D := D) (ci := 5) (v := .ref (h 18)) (C := RX5) (T := TX5) (N := 10) hx hb hts inX5 hown hK hP 17 wX_17 rfl 0 (by decide) f0 (fun _ h9 => h9) rfl dX5_takeFrom_6 ?_
  refine lv_iconst (v := (0 : Int32)) hx hb dX5_takeFrom_9 (by decide) ?_
  refine lv_bipush (v := (6 : Int32)) hx hb dX5_takeFrom_10 (by decide) ?_
  obtain ⟨hi, hw⟩ := hw
  refine x_copyi (ws2 := wX h cI cJ (xcp S 18 2 (0 : Int32).toNatClampNeg (0 : Int32).toNatClampNeg (6 : Int32).toNatClampNeg) L) hx hb (hml.trans hl.1.symm) hown f2 f3 f4 f5 hK hP (hD _ _) hS 2 18 0 wX_2 wX_18 rfl hi.1 hi.2.1 hi.2.2.1 hi.2.2.2.1 hi.2.2.2.2 (Nat.le_of_ble_eq_true rfl) (Nat.le_of_ble_eq_true rfl) dX5_takeFrom_12 (wX_c18 _ _ _ _) (fun H locs hP hS => ?_)
  refine lv_aload_n hx hb dX5_takeFrom_15 rfl (lv_at hl 0 rfl) ?_
  refine lv_aload_n hx hb dX5_takeFrom_16 rfl (lv_at hl 1 rfl) ?_
  refine va_get (D := D) (ci := 5) (v := .int ((xcp S 18 2 (0 : Int32).toNatClampNeg (0 : Int32).toNatClampNeg (6 : Int32).toNatClampNeg) 1 0)) (C := RX5) (T := TX5) (N := 10) hx hb hts inX5 hown hK hP 1 wX_1 rfl 1 (by decide) f6 (fun _ h9 => h9) rfl dX5_takeFrom_17 ?_
  refine x_put (D := D) (ci := 5) (v := .int ((xcp S 18 2 (0 : Int32).toNatClampNeg (0 : Int32).toNatClampNeg (6 : Int32).toNatClampNeg) 1 0)) (ty := .int) (C := RX5) (T := TX5) (N := 10) (ws2 := wX h cI cJ (xu (xcp S 18 2 (0 : Int32).toNatClampNeg (0 : Int32).toNatClampNeg (6 : Int32).toNatClampNeg) 17 0 ((xcp S 18 2 (0 : Int32).toNatClampNeg (0 : Int32).toNatClampNeg (6 : Int32).toNatClampNeg) 1 0)) L) hx hb hts inX5 tyX5 tyX5_ok nmX5 hown hK hP (hD _ _) hS 17 wX_17 rfl 1 (by decide) f6 (fun _ h9 => h9) rfl (by decide +kernel) rfl rfl (Nat.le_of_ble_eq_true rfl) dX5_takeFrom_20 (wX_p17_0 _) (fun H locs hP hS => ?_)
  refine lv_aload_n hx hb dX5_takeFrom_23 rfl (lv_at hl 0 rfl) ?_
  refine lv_aload_n hx hb dX5_takeFrom_24 rfl (lv_at hl 1 rfl) ?_
  refine va_get (D := D) (ci := 5) (v := .int ((xu (xcp S 18 2 (0 : Int32).toNatClampNeg (0 : Int32).toNatClampNeg (6 : Int32).toNatClampNeg) 17 0 ((xcp S 18 2 (0 : Int32).toNatClampNeg (0 : Int32).toNatClampNeg (6 : Int32).toNatClampNeg) 1 0)) 1 1)) (C := RX5) (T := TX5) (N := 10) hx hb hts inX5 hown hK hP 1 wX_1 rfl 2 (by decide) f7 (fun _ h9 => h9) rfl dX5_takeFrom_25 ?_
  refine x_put (D := D) (ci := 5) (v := .int ((xu (xcp S 18 2 (0 : Int32).toNatClampNeg (0 : Int32).toNatClampNeg (6 : Int32).toNatClampNeg) 17 0 ((xcp S 18 2 (0 : Int32).toNatClampNeg (0 : Int32).toNatClampNeg (6 : Int32).toNatClampNeg) 1 0)) 1 1)) (ty := .int) (C := RX5) (T := TX5) (N := 10) (ws2 := wX h cI cJ (xu (xu (xcp S 18 2 (0 : Int32).toNatClampNeg (0 : Int32).toNatClampNeg (6 : Int32).toNatClampNeg) 17 0 ((xcp S 18 2 (0 : Int32).toNatClampNeg (0 : Int32).toNatClampNeg (6 : Int32).toNatClampNeg) 1 0)) 17 1 ((xu (xcp S 18 2 (0 : Int32).toNatClampNeg (0 : Int32).toNatClampNeg (6 : Int32).toNatClampNeg) 17 0 ((xcp S 18 2 (0 : Int32).toNatClampNeg (0 : Int32).toNatClampNeg (6 : Int32).toNatClampNeg) 1 0)) 1 1)) L) hx hb hts inX5 tyX5 tyX5_ok nmX5 hown hK hP (hD _ _) hS 17 wX_17 rfl 2 (by decide) f7 (fun _ h9 => h9) rfl (by decide +kernel) rfl rfl (Nat.le_of_ble_eq_true rfl) dX5_takeFrom_28 (wX_p17_1 _) (fun H locs hP hS => ?_)
  refine lv_aload_n hx hb dX5_takeFrom_31 rfl (lv_at hl 0 rfl) ?_
  refine va_get (D := D) (ci := 5) (v := .ref (h 19)) (C := RX5) (T := TX5) (N := 10) hx hb hts inX5 hown hK hP 17 wX_17 rfl 3 (by decide) f8 (fun _ h9 => h9) rfl dX5_takeFrom_32 ?_
  refine lv_aload_n hx hb dX5_takeFrom_35 rfl (lv_at hl 1 rfl) ?_
  refine va_get (D := D) (ci := 5) (v := .ref (h 3)) (C := RX5) (T := TX5) (N := 10) hx hb hts inX5 hown hK hP 1 wX_1 rfl 3 (by decide) f8 (fun _ h9 => h9) rfl dX5_takeFrom_36 ?_
  refine xVv1 (As := [.ref (h 3)]) (rest := []) hst hE hP hS ⟨hx, hb, hml, hown, hts⟩ (va_recv hK hP (ci := 0) (q := (RX0, TX0, 4)) rfl wX_19) (mX0_takeFrom_19_3 l D h cI cJ t0 hh (xu (xu (xcp S 18 2 (0 : Int32).toNatClampNeg (0 : Int32).toNatClampNeg (6 : Int32).toNatClampNeg) 17 0 ((xcp S 18 2 (0 : Int32).toNatClampNeg (0 : Int32).toNatClampNeg (6 : Int32).toNatClampNeg) 1 0)) 17 1 ((xu (xcp S 18 2 (0 : Int32).toNatClampNeg (0 : Int32).toNatClampNeg (6 : Int32).toNatClampNeg) 17 0 ((xcp S 18 2 (0 : Int32).toNatClampNeg (0 : Int32).toNatClampNeg (6 : Int32).toNatClampNeg) 1 0)) 1 1)) L  _ hw) (cwV 1 hts gX5_takeFrom_X0_takeFrom rfl rfl rfl (by decide +kernel) ⟨Nat.le_of_ble_eq_true rfl, Nat.le_of_ble_eq_true rfl⟩) rfl hl.1 rfl (Nat.le_of_ble_eq_true rfl) dX5_takeFrom_39 ⟨Nat.zero_le _, Nat.zero_le _⟩ (fun S39 H locs hw hP hS => ?_)
  refine lv_aload_n hx hb dX5_takeFrom_42 rfl (lv_at hl 0 rfl) ?_
  refine va_get (D := D) (ci := 5) (v := .ref (h 24)) (C := RX5) (T := TX5) (N := 10) hx hb hts inX5 hown hK hP 17 wX_17 rfl 4 (by decide) f9 (fun _ h9 => h9) rfl dX5_takeFrom_43 ?_
  refine lv_aload_n hx hb dX5_takeFrom_46 rfl (lv_at hl 1 rfl) ?_
  refine va_get (D := D) (ci := 5) (v := .ref (h 8)) (C := RX5) (T := TX5) (N := 10) hx hb hts inX5 hown hK hP 1 wX_1 rfl 4 (by decide) f9 (fun _ h9 => h9) rfl dX5_takeFrom_47 ?_
  refine xVv1 (As := [.ref (h 8)]) (rest := []) hst hE hP hS ⟨hx, hb, hml, hown, hts⟩ (va_recv hK hP (ci := 4) (q := (RX4, TX4, 5)) rfl wX_24) (mX4_takeFrom_24 l D h cI cJ t0 hh S39 L  _ hw) (cwV 1 hts gX5_takeFrom_X4_takeFrom rfl rfl rfl (by decide +kernel) ⟨Nat.le_of_ble_eq_true rfl, Nat.le_of_ble_eq_true rfl⟩) rfl hl.1 rfl (Nat.le_of_ble_eq_true rfl) dX5_takeFrom_50 ⟨Nat.zero_le _, Nat.zero_le _⟩ (fun S50 H locs hw hP hS => ?_)
  refine lv_aload_n hx hb dX5_takeFrom_53 rfl (lv_at hl 1 rfl) ?_
  refine va_get (D := D) (ci := 5) (v := .ref (h 13)) (C := RX5) (T := TX5) (N := 10) hx hb hts inX5 hown hK hP 1 wX_1 rfl 5 (by decide) f10 (fun _ h9 => h9) rfl dX5_takeFrom_54 ?_
  refine lv_iconst (v := (0 : Int32)) hx hb dX5_takeFrom_57 (by decide) ?_
  refine lv_aload_n hx hb dX5_takeFrom_58 rfl (lv_at hl 0 rfl) ?_
  refine va_get (D := D) (ci := 5) (v := .ref (h 29)) (C := RX5) (T := TX5) (N := 10) hx hb hts inX5 hown hK hP 17 wX_17 rfl 5 (by decide) f10 (fun _ h9 => h9) rfl dX5_takeFrom_59 ?_
  refine lv_iconst (v := (0 : Int32)) hx hb dX5_takeFrom_62 (by decide) ?_
  refine lv_bipush (v := (8 : Int32)) hx hb dX5_takeFrom_63 (by decide) ?_
  obtain ⟨hi, hw⟩ := hw
  refine x_copyi (ws2 := wX h cI cJ (xcp S50 29 13 (0 : Int32).toNatClampNeg (0 : Int32).toNatClampNeg (8 : Int32).toNatClampNeg) L) hx hb (hml.trans hl.1.symm) hown f2 f3 f4 f5 hK hP (hD _ _) hS 13 29 0 wX_13 wX_29 rfl hi.1 hi.2.1 hi.2.2.1 hi.2.2.2.1 hi.2.2.2.2 (Nat.le_of_ble_eq_true rfl) (Nat.le_of_ble_eq_true rfl) dX5_takeFrom_65 (wX_c29 _ _ _ _) (fun H locs hP hS => ?_)
  refine lv_aload_n hx hb dX5_takeFrom_68 rfl (lv_at hl 1 rfl) ?_
  refine va_get (D := D) (ci := 5) (v := .ref (h 14)) (C := RX5) (T := TX5) (N := 10) hx hb hts inX5 hown hK hP 1 wX_1 rfl 6 (by decide) f11 (fun _ h9 => h9) rfl dX5_takeFrom_69 ?_
  refine lv_iconst (v := (0 : Int32)) hx hb dX5_takeFrom_72 (by decide) ?_
  refine lv_aload_n hx hb dX5_takeFrom_73 rfl (lv_at hl 0 rfl) ?_
  refine va_get (D := D) (ci := 5) (v := .ref (h 30)) (C := RX5) (T := TX5) (N := 10) hx hb hts inX5 hown hK hP 17 wX_17 rfl 6 (by decide) f11 (fun _ h9 => h9) rfl dX5_takeFrom_74 ?_
  refine lv_iconst (v := (0 : Int32)) hx hb dX5_takeFrom_77 (by decide) ?_
  refine lv_bipush (v := (8 : Int32)) hx hb dX5_takeFrom_78 (by decide) ?_
  obtain ⟨hi, hw⟩ := hw
  refine x_copyi (ws2 := wX h cI cJ (xcp (xcp S50 29 13 (0 : Int32).toNatClampNeg (0 : Int32).toNatClampNeg (8 : Int32).toNatClampNeg) 30 14 (0 : Int32).toNatClampNeg (0 : Int32).toNatClampNeg (8 : Int32).toNatClampNeg) L) hx hb (hml.trans hl.1.symm) hown f2 f3 f4 f5 hK hP (hD _ _) hS 14 30 0 wX_14 wX_30 rfl hi.1 hi.2.1 hi.2.2.1 hi.2.2.2.1 hi.2.2.2.2 (Nat.le_of_ble_eq_true rfl) (Nat.le_of_ble_eq_true rfl) dX5_takeFrom_80 (wX_c30 _ _ _ _) (fun H locs hP hS => ?_)
  refine lv_aload_n hx hb dX5_takeFrom_83 rfl (lv_at hl 0 rfl) ?_
  refine lv_aload_n hx hb dX5_takeFrom_84 rfl (lv_at hl 1 rfl) ?_
  refine va_get (D := D) (ci := 5) (v := .int ((xcp (xcp S50 29 13 (0 : Int32).toNatClampNeg (0 : Int32).toNatClampNeg (8 : Int32).toNatClampNeg) 30 14 (0 : Int32).toNatClampNeg (0 : Int32).toNatClampNeg (8 : Int32).toNatClampNeg) 1 2)) (C := RX5) (T := TX5) (N := 10) hx hb hts inX5 hown hK hP 1 wX_1 rfl 7 (by decide) f12 (fun _ h9 => h9) rfl dX5_takeFrom_85 ?_
  refine x_put (D := D) (ci := 5) (v := .int ((xcp (xcp S50 29 13 (0 : Int32).toNatClampNeg (0 : Int32).toNatClampNeg (8 : Int32).toNatClampNeg) 30 14 (0 : Int32).toNatClampNeg (0 : Int32).toNatClampNeg (8 : Int32).toNatClampNeg) 1 2)) (ty := .int) (C := RX5) (T := TX5) (N := 10) (ws2 := wX h cI cJ (xu (xcp (xcp S50 29 13 (0 : Int32).toNatClampNeg (0 : Int32).toNatClampNeg (8 : Int32).toNatClampNeg) 30 14 (0 : Int32).toNatClampNeg (0 : Int32).toNatClampNeg (8 : Int32).toNatClampNeg) 17 2 ((xcp (xcp S50 29 13 (0 : Int32).toNatClampNeg (0 : Int32).toNatClampNeg (8 : Int32).toNatClampNeg) 30 14 (0 : Int32).toNatClampNeg (0 : Int32).toNatClampNeg (8 : Int32).toNatClampNeg) 1 2)) L) hx hb hts inX5 tyX5 tyX5_ok nmX5 hown hK hP (hD _ _) hS 17 wX_17 rfl 7 (by decide) f12 (fun _ h9 => h9) rfl (by decide +kernel) rfl rfl (Nat.le_of_ble_eq_true rfl) dX5_takeFrom_88 (wX_p17_2 _) (fun H locs hP hS => ?_)
  refine lv_aload_n hx hb dX5_takeFrom_91 rfl (lv_at hl 1 rfl) ?_
  refine va_get (D := D) (ci := 5) (v := .ref (h 15)) (C := RX5) (T := TX5) (N := 10) hx hb hts inX5 hown hK hP 1 wX_1 rfl 8 (by decide) f13 (fun _ h9 => h9) rfl dX5_takeFrom_92 ?_
  refine lv_iconst (v := (0 : Int32)) hx hb dX5_takeFrom_95 (by decide) ?_
  refine lv_aload_n hx hb dX5_takeFrom_96 rfl (lv_at hl 0 rfl) ?_
  refine va_get (D := D) (ci := 5) (v := .ref (h 31)) (C := RX5) (T := TX5) (N := 10) hx hb hts inX5 hown hK hP 17 wX_17 rfl 8 (by decide) f13 (fun _ h9 => h9) rfl dX5_takeFrom_97 ?_
  refine lv_iconst (v := (0 : Int32)) hx hb dX5_takeFrom_100 (by decide) ?_
  refine lv_bipush (v := (8 : Int32)) hx hb dX5_takeFrom_101 (by decide) ?_
  obtain ⟨hi, hw⟩ := hw
  refine x_copyl (ws2 := wX h cI cJ (xu (xcp (xcp S50 29 13 (0 : Int32).toNatClampNeg (0 : Int32).toNatClampNeg (8 : Int32).toNatClampNeg) 30 14 (0 : Int32).toNatClampNeg (0 : Int32).toNatClampNeg (8 : Int32).toNatClampNeg) 17 2 ((xcp (xcp S50 29 13 (0 : Int32).toNatClampNeg (0 : Int32).toNatClampNeg (8 : Int32).toNatClampNeg) 30 14 (0 : Int32).toNatClampNeg (0 : Int32).toNatClampNeg (8 : Int32).toNatClampNeg) 1 2)) (xcpL L 31 15 (0 : Int32).toNatClampNeg (0 : Int32).toNatClampNeg (8 : Int32).toNatClampNeg)) hx hb (hml.trans hl.1.symm) hown f2 f3 f4 f5 hK hP (hD _ _) hS 15 31 1 wX_15 wX_31 rfl hi.1 hi.2.1 hi.2.2.1 hi.2.2.2.1 hi.2.2.2.2 (Nat.le_of_ble_eq_true rfl) (Nat.le_of_ble_eq_true rfl) dX5_takeFrom_103 (wX_c31 _ _ _ _) (fun H locs hP hS => ?_)
  refine lv_aload_n hx hb dX5_takeFrom_106 rfl (lv_at hl 1 rfl) ?_
  refine va_get (D := D) (ci := 5) (v := .ref (h 16)) (C := RX5) (T := TX5) (N := 10) hx hb hts inX5 hown hK hP 1 wX_1 rfl 9 (by decide) f14 (fun _ h9 => h9) rfl dX5_takeFrom_107 ?_
  refine lv_iconst (v := (0 : Int32)) hx hb dX5_takeFrom_110 (by decide) ?_
  refine lv_aload_n hx hb dX5_takeFrom_111 rfl (lv_at hl 0 rfl) ?_
  refine va_get (D := D) (ci := 5) (v := .ref (h 32)) (C := RX5) (T := TX5) (N := 10) hx hb hts inX5 hown hK hP 17 wX_17 rfl 9 (by decide) f14 (fun _ h9 => h9) rfl dX5_takeFrom_112 ?_
  refine lv_iconst (v := (0 : Int32)) hx hb dX5_takeFrom_115 (by decide) ?_
  refine lv_bipush (v := (8 : Int32)) hx hb dX5_takeFrom_116 (by decide) ?_
  obtain ⟨hi, hw⟩ := hw
  refine x_copyl (ws2 := wX h cI cJ (xu (xcp (xcp S50 29 13 (0 : Int32).toNatClampNeg (0 : Int32).toNatClampNeg (8 : Int32).toNatClampNeg) 30 14 (0 : Int32).toNatClampNeg (0 : Int32).toNatClampNeg (8 : Int32).toNatClampNeg) 17 2 ((xcp (xcp S50 29 13 (0 : Int32).toNatClampNeg (0 : Int32).toNatClampNeg (8 : Int32).toNatClampNeg) 30 14 (0 : Int32).toNatClampNeg (0 : Int32).toNatClampNeg (8 : Int32).toNatClampNeg) 1 2)) (xcpL (xcpL L 31 15 (0 : Int32).toNatClampNeg (0 : Int32).toNatClampNeg (8 : Int32).toNatClampNeg) 32 16 (0 : Int32).toNatClampNeg (0 : Int32).toNatClampNeg (8 : Int32).toNatClampNeg)) hx hb (hml.trans hl.1.symm) hown f2 f3 f4 f5 hK hP (hD _ _) hS 16 32 1 wX_16 wX_32 rfl hi.1 hi.2.1 hi.2.2.1 hi.2.2.2.1 hi.2.2.2.2 (Nat.le_of_ble_eq_true rfl) (Nat.le_of_ble_eq_true rfl) dX5_takeFrom_118 (wX_c32 _ _ _ _) (fun H locs hP hS => ?_)
  exact hret _ _ _ _ _ _ hP hS hw dX5_takeFrom_121
abbrev rX0_takeFrom_3_19 : Room := { frames := 1, cells := 0, slots := 0, locals := 32 }
set_option maxHeartbeats 4000000 in
set_option maxRecDepth 100000 in
theorem mX0_takeFrom_3_19 (l : Launch) (D : va_G) (h : Nat → Nat) (cI cJ : ClassId) (t0 : Nat) (hh : xdis 53 h) (S : SX) (L : LX) (post : SX → Prop) (hw : kX0_takeFrom_3_19 S L  post) : Met l yX0_takeFrom wsX0_takeFrom rX0_takeFrom_3_19 (xPre D (wX h cI cJ) (xE D h cI cJ t0) S L [.ref (h 3), .ref (h 19)]) (va_Qv (fun (u : SX × LX) => post u.1 ∧ u.2 = L) (xB D (wX h cI cJ)) (xA 53 h)) 0 0 (xA 53 h) := by
  refine Met.ofW (cc := cX0_takeFrom) (maxL := 2) (ret := none) (by decide) rfl ?_
  intro p e s m args below meth c s₁ B hml hv
  obtain ⟨hargs, hP, hE⟩ := hv
  have hx := B.exec
  have hb := B.bytes
  have hr := B.returns
  have hlocks := B.notSynchronized
  have hts := atoms_spec (ws := wsX0_takeFrom) B.pre
  have hown : s.vm.findClass RX0 = some m.cls := findClass_of_methodNamed B.named
  have hS : va_S (xA 53 h) s.heap s.heap [] := va_S.rf
  have hD : ∀ (S : SX) (L : LX), va_D (xA 53 h) (wX h cI cJ S L) := fun S L => wX_D hh cI cJ S L
  have hK := hE.1
  have hst : xSt (xA 53 h) (xE D h cI cJ t0) := xE_st D h cI cJ t0
  have f0 := hts (.fieldLink RX0 9 "BookOfWills$Laws" "floor" "[I") (by decide +kernel)
  have inX0 : ∀ w ∈ u_ws RX0 TX0 4, w ∈ wsX0_takeFrom := fun w hw9 => List.mem_cons_of_mem _ (List.mem_append_right _ hw9)
  have f2 := hts (.methodLink RX0 24 arraycopyName) (by decide +kernel)
  have f3 := hts (.native arraycopyName) (by decide +kernel)
  have f4 := hts (.static arraycopyName) (by decide +kernel)
  have f5 := hts (.initialized "java/lang/System") (by decide +kernel)
  have f6 := hts (.fieldLink RX0 15 "BookOfWills$Laws" "line" "[I") (by decide +kernel)
  have f7 := hts (.fieldLink RX0 18 "BookOfWills$Laws" "keen" "[I") (by decide +kernel)
  have f8 := hts (.fieldLink RX0 21 "BookOfWills$Laws" "marks" "[I") (by decide +kernel)
  have hl := lv_entry ([.ref (h 3), .ref (h 19)]) (n := 2) (Nat.le_of_ble_eq_true rfl)
  have hen : entryFrame m args 2 = F0 m 0 ((lg_sl ([.ref (h 3), .ref (h 19)]) ++ List.replicate (2 - (lg_sl ([.ref (h 3), .ref (h 19)])).length) Slot.unset).toArray) [] := by rw [hargs]; exact lg_entry_eq m _ _
  rw [hen]
  generalize (lg_sl ([.ref (h 3), .ref (h 19)]) ++ List.replicate (2 - (lg_sl ([.ref (h 3), .ref (h 19)])).length) Slot.unset).toArray = ls at hl ⊢
  have hl : lv_has ls 2 [(0, .ref (h 3)), (1, .ref (h 19))] := hl
  change W p l e rX0_takeFrom_3_19 s m args below meth c s.heap [] 0 0 (MQ below (va_Qv (fun (u : SX × LX) => post u.1 ∧ u.2 = L) (xB D (wX h cI cJ)) (xA 53 h)) args s 0 0 (xA 53 h)) (F0 m 0 ls [])
  have hret : ∀ (S1 : SX) (H : Heap) (locs : List Loc) (ls : Array Slot) (pc : Nat), va_P D vwCl (wX h cI cJ S1 L) H → va_S (xA 53 h) s.heap H locs → post S1 → decode cX0_takeFrom pc = .ok (.return_, 1) → W p l e rX0_takeFrom_3_19 s m args below meth c H locs 0 0 (MQ below (va_Qv (fun (u : SX × LX) => post u.1 ∧ u.2 = L) (xB D (wX h cI cJ)) (xA 53 h)) args s 0 0 (xA 53 h)) (F0 m pc ls []) := fun S1 H locs ls pc hP hS hw hd => W.vret hx hb hr (fun t ht hW => ⟨⟨(S1, L), rfl, ⟨hw, rfl⟩, show va_P D vwCl (wX h cI cJ S1 L) t.heap by rw [ht]; exact hP⟩, hS.F ht⟩) hS.2.2 hd
  generalize MQ below (va_Qv (fun (u : SX × LX) => post u.1 ∧ u.2 = L) (xB D (wX h cI cJ)) (xA 53 h)) args s 0 0 (xA 53 h) = Q at hret ⊢
  unfold kX0_takeFrom_3_19 at hw
  refine lv_aload_n hx hb dX0_takeFrom_0 rfl (lv_at hl 1 rfl) ?_
  refine va_get (D := D) (ci := 0) (v := .ref (h 20)) (C := RX0) (T := TX0) (N := 4) hx hb hts inX0 hown hK hP 19 wX_19 rfl 0 (by decide) f0 (fun _ h9 => h9) rfl dX0_takeFrom_1 ?_
  refine lv_iconst (v := (0 : Int32)) hx hb dX0_takeFrom_4 (by decide) ?_
  refine lv_aload_n hx hb dX0_takeFrom_5 rfl (lv_at hl 0 rfl) ?_
  refine va_get (D := D) (ci := 0) (v := .ref (h 4)) (C := RX0) (T := TX0) (N := 4) hx hb hts inX0 hown hK hP 3 wX_3 rfl 0 (by decide) f0 (fun _ h9 => h9) rfl dX0_takeFrom_6 ?_
  refine lv_iconst (v := (0 : Int32)) hx hb dX0_takeFrom_9 (by decide) ?_
  refine lv_bipush (v := (8 : Int32)) hx hb dX0_takeFrom_10 (by decide) ?_
  obtain ⟨hi, hw⟩ := hw
  refine x_copyi (ws2 := wX h cI cJ (xcp S 4 20 (0 : Int32).toNatClampNeg (0 : Int32).toNatClampNeg (8 : Int32).toNatClampNeg) L) hx hb (hml.trans hl.1.symm) hown f2 f3 f4 f5 hK hP (hD _ _) hS 20 4 0 wX_20 wX_4 rfl hi.1 hi.2.1 hi.2.2.1 hi.2.2.2.1 hi.2.2.2.2 (Nat.le_of_ble_eq_true rfl) (Nat.le_of_ble_eq_true rfl) dX0_takeFrom_12 (wX_c4 _ _ _ _) (fun H locs hP hS => ?_)
  refine lv_aload_n hx hb dX0_takeFrom_15 rfl (lv_at hl 1 rfl) ?_
  refine va_get (D := D) (ci := 0) (v := .ref (h 21)) (C := RX0) (T := TX0) (N := 4) hx hb hts inX0 hown hK hP 19 wX_19 rfl 1 (by decide) f6 (fun _ h9 => h9) rfl dX0_takeFrom_16 ?_
  refine lv_iconst (v := (0 : Int32)) hx hb dX0_takeFrom_19 (by decide) ?_
  refine lv_aload_n hx hb dX0_takeFrom_20 rfl (lv_at hl 0 rfl) ?_
  refine va_get (D := D) (ci := 0) (v := .ref (h 5)) (C := RX0) (T := TX0) (N := 4) hx hb hts inX0 hown hK hP 3 wX_3 rfl 1 (by decide) f6 (fun _ h9 => h9) rfl dX0_takeFrom_21 ?_
  refine lv_iconst (v := (0 : Int32)) hx hb dX0_takeFrom_24 (by decide) ?_
  refine lv_bipush (v := (8 : Int32)) hx hb dX0_takeFrom_25 (by decide) ?_
  obtain ⟨hi, hw⟩ := hw
  refine x_copyi (ws2 := wX h cI cJ (xcp (xcp S 4 20 (0 : Int32).toNatClampNeg (0 : Int32).toNatClampNeg (8 : Int32).toNatClampNeg) 5 21 (0 : Int32).toNatClampNeg (0 : Int32).toNatClampNeg (8 : Int32).toNatClampNeg) L) hx hb (hml.trans hl.1.symm) hown f2 f3 f4 f5 hK hP (hD _ _) hS 21 5 0 wX_21 wX_5 rfl hi.1 hi.2.1 hi.2.2.1 hi.2.2.2.1 hi.2.2.2.2 (Nat.le_of_ble_eq_true rfl) (Nat.le_of_ble_eq_true rfl) dX0_takeFrom_27 (wX_c5 _ _ _ _) (fun H locs hP hS => ?_)
  refine lv_aload_n hx hb dX0_takeFrom_30 rfl (lv_at hl 1 rfl) ?_
  refine va_get (D := D) (ci := 0) (v := .ref (h 22)) (C := RX0) (T := TX0) (N := 4) hx hb hts inX0 hown hK hP 19 wX_19 rfl 2 (by decide) f7 (fun _ h9 => h9) rfl dX0_takeFrom_31 ?_
  refine lv_iconst (v := (0 : Int32)) hx hb dX0_takeFrom_34 (by decide) ?_
  refine lv_aload_n hx hb dX0_takeFrom_35 rfl (lv_at hl 0 rfl) ?_
  refine va_get (D := D) (ci := 0) (v := .ref (h 6)) (C := RX0) (T := TX0) (N := 4) hx hb hts inX0 hown hK hP 3 wX_3 rfl 2 (by decide) f7 (fun _ h9 => h9) rfl dX0_takeFrom_36 ?_
  refine lv_iconst (v := (0 : Int32)) hx hb dX0_takeFrom_39 (by decide) ?_
  refine lv_bipush (v := (8 : Int32)) hx hb dX0_takeFrom_40 (by decide) ?_
  obtain ⟨hi, hw⟩ := hw
  refine x_copyi (ws2 := wX h cI cJ (xcp (xcp (xcp S 4 20 (0 : Int32).toNatClampNeg (0 : Int32).toNatClampNeg (8 : Int32).toNatClampNeg) 5 21 (0 : Int32).toNatClampNeg (0 : Int32).toNatClampNeg (8 : Int32).toNatClampNeg) 6 22 (0 : Int32).toNatClampNeg (0 : Int32).toNatClampNeg (8 : Int32).toNatClampNeg) L) hx hb (hml.trans hl.1.symm) hown f2 f3 f4 f5 hK hP (hD _ _) hS 22 6 0 wX_22 wX_6 rfl hi.1 hi.2.1 hi.2.2.1 hi.2.2.2.1 hi.2.2.2.2 (Nat.le_of_ble_eq_true rfl) (Nat.le_of_ble_eq_true rfl) dX0_takeFrom_42 (wX_c6 _ _ _ _) (fun H locs hP hS => ?_)
  refine lv_aload_n hx hb dX0_takeFrom_45 rfl (lv_at hl 1 rfl) ?_
  refine va_get (D := D) (ci := 0) (v := .ref (h 23)) (C := RX0) (T := TX0) (N := 4) hx hb hts inX0 hown hK hP 19 wX_19 rfl 3 (by decide) f8 (fun _ h9 => h9) rfl dX0_takeFrom_46 ?_
  refine lv_iconst (v := (0 : Int32)) hx hb dX0_takeFrom_49 (by decide) ?_
  refine lv_aload_n hx hb dX0_takeFrom_50 rfl (lv_at hl 0 rfl) ?_
  refine va_get (D := D) (ci := 0) (v := .ref (h 7)) (C := RX0) (T := TX0) (N := 4) hx hb hts inX0 hown hK hP 3 wX_3 rfl 3 (by decide) f8 (fun _ h9 => h9) rfl dX0_takeFrom_51 ?_
  refine lv_iconst (v := (0 : Int32)) hx hb dX0_takeFrom_54 (by decide) ?_
  refine lv_bipush (v := (8 : Int32)) hx hb dX0_takeFrom_55 (by decide) ?_
  obtain ⟨hi, hw⟩ := hw
  refine x_copyi (ws2 := wX h cI cJ (xcp (xcp (xcp (xcp S 4 20 (0 : Int32).toNatClampNeg (0 : Int32).toNatClampNeg (8 : Int32).toNatClampNeg) 5 21 (0 : Int32).toNatClampNeg (0 : Int32).toNatClampNeg (8 : Int32).toNatClampNeg) 6 22 (0 : Int32).toNatClampNeg (0 : Int32).toNatClampNeg (8 : Int32).toNatClampNeg) 7 23 (0 : Int32).toNatClampNeg (0 : Int32).toNatClampNeg (8 : Int32).toNatClampNeg) L) hx hb (hml.trans hl.1.symm) hown f2 f3 f4 f5 hK hP (hD _ _) hS 23 7 0 wX_23 wX_7 rfl hi.1 hi.2.1 hi.2.2.1 hi.2.2.2.1 hi.2.2.2.2 (Nat.le_of_ble_eq_true rfl) (Nat.le_of_ble_eq_true rfl) dX0_takeFrom_57 (wX_c7 _ _ _ _) (fun H locs hP hS => ?_)
  exact hret _ _ _ _ _ hP hS hw dX0_takeFrom_60
abbrev rX4_move_8_24 : Room := { frames := 1, cells := 0, slots := 0, locals := 32 }
set_option maxHeartbeats 4000000 in
set_option maxRecDepth 100000 in
theorem mX4_move_8_24 (l : Launch) (D : va_G) (h : Nat → Nat) (cI cJ : ClassId) (t0 : Nat) (hh : xdis 53 h) (S : SX) (L : LX) (v2 : Int32) (v3 : Int32) (v4 : Int32) (post : SX → Prop) (hw : kX4_move_8_24 S L v2 v3 v4 post) : Met l yX4_move wsX4_move rX4_move_8_24 (xPre D (wX h cI cJ) (xE D h cI cJ t0) S L [.ref (h 8), .ref (h 24), .int v2, .int v3, .int v4]) (va_Qv (fun (u : SX × LX) => post u.1 ∧ u.2 = L) (xB D (wX h cI cJ)) (xA 53 h)) 0 0 (xA 53 h) := by
  refine Met.ofW (cc := cX4_move) (maxL := 5) (ret := none) (by decide) rfl ?_
  intro p e s m args below meth c s₁ B hml hv
  obtain ⟨hargs, hP, hE⟩ := hv
  have hx := B.exec
  have hb := B.bytes
  have hr := B.returns
  have hlocks := B.notSynchronized
  have hts := atoms_spec (ws := wsX4_move) B.pre
  have hown : s.vm.findClass RX4 = some m.cls := findClass_of_methodNamed B.named
  have hS : va_S (xA 53 h) s.heap s.heap [] := va_S.rf
  have hD : ∀ (S : SX) (L : LX), va_D (xA 53 h) (wX h cI cJ S L) := fun S L => wX_D hh cI cJ S L
  have hK := hE.1
  have hst : xSt (xA 53 h) (xE D h cI cJ t0) := xE_st D h cI cJ t0
  have f0 := hts (.fieldLink RX4 9 "BookOfWills$Wills" "year" "[I") (by decide +kernel)
  have inX4 : ∀ w ∈ u_ws RX4 TX4 5, w ∈ wsX4_move := fun w hw9 => List.mem_cons_of_mem _ (List.mem_append_right _ hw9)
  have f2 := hts (.methodLink RX4 39 arraycopyName) (by decide +kernel)
  have f3 := hts (.native arraycopyName) (by decide +kernel)
  have f4 := hts (.static arraycopyName) (by decide +kernel)
  have f5 := hts (.initialized "java/lang/System") (by decide +kernel)
  have f6 := hts (.fieldLink RX4 15 "BookOfWills$Wills" "age" "[I") (by decide +kernel)
  have f7 := hts (.fieldLink RX4 18 "BookOfWills$Wills" "sex" "[I") (by decide +kernel)
  have f8 := hts (.fieldLink RX4 21 "BookOfWills$Wills" "had" "[I") (by decide +kernel)
  have hl := lv_entry ([.ref (h 8), .ref (h 24), .int v2, .int v3, .int v4]) (n := 5) (Nat.le_of_ble_eq_true rfl)
  have hen : entryFrame m args 5 = F0 m 0 ((lg_sl ([.ref (h 8), .ref (h 24), .int v2, .int v3, .int v4]) ++ List.replicate (5 - (lg_sl ([.ref (h 8), .ref (h 24), .int v2, .int v3, .int v4])).length) Slot.unset).toArray) [] := by rw [hargs]; exact lg_entry_eq m _ _
  rw [hen]
  generalize (lg_sl ([.ref (h 8), .ref (h 24), .int v2, .int v3, .int v4]) ++ List.replicate (5 - (lg_sl ([.ref (h 8), .ref (h 24), .int v2, .int v3, .int v4])).length) Slot.unset).toArray = ls at hl ⊢
  have hl : lv_has ls 5 [(0, .ref (h 8)), (1, .ref (h 24)), (2, .int v2), (3, .int v3), (4, .int v4)] := hl
  change W p l e rX4_move_8_24 s m args below meth c s.heap [] 0 0 (MQ below (va_Qv (fun (u : SX × LX) => post u.1 ∧ u.2 = L) (xB D (wX h cI cJ)) (xA 53 h)) args s 0 0 (xA 53 h)) (F0 m 0 ls [])
  have hret : ∀ (S1 : SX) (H : Heap) (locs : List Loc) (ls : Array Slot) (pc : Nat), va_P D vwCl (wX h cI cJ S1 L) H → va_S (xA 53 h) s.heap H locs → post S1 → decode cX4_move pc = .ok (.return_, 1) → W p l e rX4_move_8_24 s m args below meth c H locs 0 0 (MQ below (va_Qv (fun (u : SX × LX) => post u.1 ∧ u.2 = L) (xB D (wX h cI cJ)) (xA 53 h)) args s 0 0 (xA 53 h)) (F0 m pc ls []) := fun S1 H locs ls pc hP hS hw hd => W.vret hx hb hr (fun t ht hW => ⟨⟨(S1, L), rfl, ⟨hw, rfl⟩, show va_P D vwCl (wX h cI cJ S1 L) t.heap by rw [ht]; exact hP⟩, hS.F ht⟩) hS.2.2 hd
  generalize MQ below (va_Qv (fun (u : SX × LX) => post u.1 ∧ u.2 = L) (xB D (wX h cI cJ)) (xA 53 h)) args s 0 0 (xA 53 h) = Q at hret ⊢
  unfold kX4_move_8_24 at hw
  refine lv_aload_n hx hb dX4_move_0 rfl (lv_at hl 1 rfl) ?_
  refine va_get (D := D) (ci := 4) (v := .ref (h 25)) (C := RX4) (T := TX4) (N := 5) hx hb hts inX4 hown hK hP 24 wX_24 rfl 1 (by decide) f0 (fun _ h9 => h9) rfl dX4_move_1 ?_
  refine lv_iload_n hx hb dX4_move_4 rfl (lv_at hl 2 rfl) ?_
  refine lv_aload_n hx hb dX4_move_5 rfl (lv_at hl 0 rfl) ?_
  refine va_get (D := D) (ci := 4) (v := .ref (h 9)) (C := RX4) (T := TX4) (N := 5) hx hb hts inX4 hown hK hP 8 wX_8 rfl 1 (by decide) f0 (fun _ h9 => h9) rfl dX4_move_6 ?_
  refine lv_iload_n hx hb dX4_move_9 rfl (lv_at hl 3 rfl) ?_
  refine lv_iload hx hb dX4_move_10 (lv_at hl 4 rfl) ?_
  obtain ⟨hi, hw⟩ := hw
  refine x_copyi (ws2 := wX h cI cJ (xcp S 9 25 v2.toNatClampNeg v3.toNatClampNeg v4.toNatClampNeg) L) hx hb (hml.trans hl.1.symm) hown f2 f3 f4 f5 hK hP (hD _ _) hS 25 9 0 wX_25 wX_9 rfl hi.1 hi.2.1 hi.2.2.1 hi.2.2.2.1 hi.2.2.2.2 (Nat.le_of_ble_eq_true rfl) (Nat.le_of_ble_eq_true rfl) dX4_move_12 (wX_c9 _ _ _ _) (fun H locs hP hS => ?_)
  refine lv_aload_n hx hb dX4_move_15 rfl (lv_at hl 1 rfl) ?_
  refine va_get (D := D) (ci := 4) (v := .ref (h 26)) (C := RX4) (T := TX4) (N := 5) hx hb hts inX4 hown hK hP 24 wX_24 rfl 2 (by decide) f6 (fun _ h9 => h9) rfl dX4_move_16 ?_
  refine lv_iload_n hx hb dX4_move_19 rfl (lv_at hl 2 rfl) ?_
  refine lv_aload_n hx hb dX4_move_20 rfl (lv_at hl 0 rfl) ?_
  refine va_get (D := D) (ci := 4) (v := .ref (h 10)) (C := RX4) (T := TX4) (N := 5) hx hb hts inX4 hown hK hP 8 wX_8 rfl 2 (by decide) f6 (fun _ h9 => h9) rfl dX4_move_21 ?_
  refine lv_iload_n hx hb dX4_move_24 rfl (lv_at hl 3 rfl) ?_
  refine lv_iload hx hb dX4_move_25 (lv_at hl 4 rfl) ?_
  obtain ⟨hi, hw⟩ := hw
  refine x_copyi (ws2 := wX h cI cJ (xcp (xcp S 9 25 v2.toNatClampNeg v3.toNatClampNeg v4.toNatClampNeg) 10 26 v2.toNatClampNeg v3.toNatClampNeg v4.toNatClampNeg) L) hx hb (hml.trans hl.1.symm) hown f2 f3 f4 f5 hK hP (hD _ _) hS 26 10 0 wX_26 wX_10 rfl hi.1 hi.2.1 hi.2.2.1 hi.2.2.2.1 hi.2.2.2.2 (Nat.le_of_ble_eq_true rfl) (Nat.le_of_ble_eq_true rfl) dX4_move_27 (wX_c10 _ _ _ _) (fun H locs hP hS => ?_)
  refine lv_aload_n hx hb dX4_move_30 rfl (lv_at hl 1 rfl) ?_
  refine va_get (D := D) (ci := 4) (v := .ref (h 27)) (C := RX4) (T := TX4) (N := 5) hx hb hts inX4 hown hK hP 24 wX_24 rfl 3 (by decide) f7 (fun _ h9 => h9) rfl dX4_move_31 ?_
  refine lv_iload_n hx hb dX4_move_34 rfl (lv_at hl 2 rfl) ?_
  refine lv_aload_n hx hb dX4_move_35 rfl (lv_at hl 0 rfl) ?_
  refine va_get (D := D) (ci := 4) (v := .ref (h 11)) (C := RX4) (T := TX4) (N := 5) hx hb hts inX4 hown hK hP 8 wX_8 rfl 3 (by decide) f7 (fun _ h9 => h9) rfl dX4_move_36 ?_
  refine lv_iload_n hx hb dX4_move_39 rfl (lv_at hl 3 rfl) ?_
  refine lv_iload hx hb dX4_move_40 (lv_at hl 4 rfl) ?_
  obtain ⟨hi, hw⟩ := hw
  refine x_copyi (ws2 := wX h cI cJ (xcp (xcp (xcp S 9 25 v2.toNatClampNeg v3.toNatClampNeg v4.toNatClampNeg) 10 26 v2.toNatClampNeg v3.toNatClampNeg v4.toNatClampNeg) 11 27 v2.toNatClampNeg v3.toNatClampNeg v4.toNatClampNeg) L) hx hb (hml.trans hl.1.symm) hown f2 f3 f4 f5 hK hP (hD _ _) hS 27 11 0 wX_27 wX_11 rfl hi.1 hi.2.1 hi.2.2.1 hi.2.2.2.1 hi.2.2.2.2 (Nat.le_of_ble_eq_true rfl) (Nat.le_of_ble_eq_true rfl) dX4_move_42 (wX_c11 _ _ _ _) (fun H locs hP hS => ?_)
  refine lv_aload_n hx hb dX4_move_45 rfl (lv_at hl 1 rfl) ?_
  refine va_get (D := D) (ci := 4) (v := .ref (h 28)) (C := RX4) (T := TX4) (N := 5) hx hb hts inX4 hown hK hP 24 wX_24 rfl 4 (by decide) f8 (fun _ h9 => h9) rfl dX4_move_46 ?_
  refine lv_iload_n hx hb dX4_move_49 rfl (lv_at hl 2 rfl) ?_
  refine lv_iconst (v := (4 : Int32)) hx hb dX4_move_50 (by decide) ?_
  refine lv_imul hx hb dX4_move_51 ?_
  refine lv_aload_n hx hb dX4_move_52 rfl (lv_at hl 0 rfl) ?_
  refine va_get (D := D) (ci := 4) (v := .ref (h 12)) (C := RX4) (T := TX4) (N := 5) hx hb hts inX4 hown hK hP 8 wX_8 rfl 4 (by decide) f8 (fun _ h9 => h9) rfl dX4_move_53 ?_
  refine lv_iload_n hx hb dX4_move_56 rfl (lv_at hl 3 rfl) ?_
  refine lv_iconst (v := (4 : Int32)) hx hb dX4_move_57 (by decide) ?_
  refine lv_imul hx hb dX4_move_58 ?_
  refine lv_iload hx hb dX4_move_59 (lv_at hl 4 rfl) ?_
  refine lv_iconst (v := (4 : Int32)) hx hb dX4_move_61 (by decide) ?_
  refine lv_imul hx hb dX4_move_62 ?_
  obtain ⟨hi, hw⟩ := hw
  refine x_copyi (ws2 := wX h cI cJ (xcp (xcp (xcp (xcp S 9 25 v2.toNatClampNeg v3.toNatClampNeg v4.toNatClampNeg) 10 26 v2.toNatClampNeg v3.toNatClampNeg v4.toNatClampNeg) 11 27 v2.toNatClampNeg v3.toNatClampNeg v4.toNatClampNeg) 12 28 (v2 * (4 : Int32)).toNatClampNeg (v3 * (4 : Int32)).toNatClampNeg (v4 * (4 : Int32)).toNatClampNeg) L) hx hb (hml.trans hl.1.symm) hown f2 f3 f4 f5 hK hP (hD _ _) hS 28 12 0 wX_28 wX_12 rfl hi.1 hi.2.1 hi.2.2.1 hi.2.2.2.1 hi.2.2.2.2 (Nat.le_of_ble_eq_true rfl) (Nat.le_of_ble_eq_true rfl) dX4_move_63 (wX_c12 _ _ _ _) (fun H locs hP hS => ?_)
  exact hret _ _ _ _ _ hP hS hw dX4_move_66
abbrev rX4_takeFrom_8 : Room := { frames := 2, cells := 0, slots := 0, locals := 56 }
set_option maxHeartbeats 4000000 in
set_option maxRecDepth 100000 in
theorem mX4_takeFrom_8 (l : Launch) (D : va_G) (h : Nat → Nat) (cI cJ : ClassId) (t0 : Nat) (hh : xdis 53 h) (S : SX) (L : LX) (post : SX → Prop) (hw : kX4_takeFrom_8 S L  post) : Met l yX4_takeFrom wsX4_takeFrom rX4_takeFrom_8 (xPre D (wX h cI cJ) (xE D h cI cJ t0) S L [.ref (h 8), .ref (h 24)]) (va_Qv (fun (u : SX × LX) => post u.1 ∧ u.2 = L) (xB D (wX h cI cJ)) (xA 53 h)) 0 0 (xA 53 h) := by
  refine Met.ofW (cc := cX4_takeFrom) (maxL := 2) (ret := none) (by decide) rfl ?_
  intro p e s m args below meth c s₁ B hml hv
  obtain ⟨hargs, hP, hE⟩ := hv
  have hx := B.exec
  have hb := B.bytes
  have hr := B.returns
  have hlocks := B.notSynchronized
  have hts := atoms_spec (ws := wsX4_takeFrom) B.pre
  have hown : s.vm.findClass RX4 = some m.cls := findClass_of_methodNamed B.named
  have hS : va_S (xA 53 h) s.heap s.heap [] := va_S.rf
  have hD : ∀ (S : SX) (L : LX), va_D (xA 53 h) (wX h cI cJ S L) := fun S L => wX_D hh cI cJ S L
  have hK := hE.1
  have hst : xSt (xA 53 h) (xE D h cI cJ t0) := xE_st D h cI cJ t0
  have f0 := hts (.fieldLink RX4 24 "BookOfWills$Wills" "size" "I") (by decide +kernel)
  have inX4 : ∀ w ∈ u_ws RX4 TX4 5, w ∈ wsX4_takeFrom := fun w hw9 => List.mem_cons_of_mem _ (List.mem_append_right _ hw9)
  have hl := lv_entry ([.ref (h 8), .ref (h 24)]) (n := 2) (Nat.le_of_ble_eq_true rfl)
  have hen : entryFrame m args 2 = F0 m 0 ((lg_sl ([.ref (h 8), .ref (h 24)]) ++ List.replicate (2 - (lg_sl ([.ref (h 8), .ref (h 24)])).length) Slot.unset).toArray) [] := by rw [hargs]; exact lg_entry_eq m _ _
  rw [hen]
  generalize (lg_sl ([.ref (h 8), .ref (h 24)]) ++ List.replicate (2 - (lg_sl ([.ref (h 8), .ref (h 24)])).length) Slot.unset).toArray = ls at hl ⊢
  have hl : lv_has ls 2 [(0, .ref (h 8)), (1, .ref (h 24))] := hl
  change W p l e rX4_takeFrom_8 s m args below meth c s.heap [] 0 0 (MQ below (va_Qv (fun (u : SX × LX) => post u.1 ∧ u.2 = L) (xB D (wX h cI cJ)) (xA 53 h)) args s 0 0 (xA 53 h)) (F0 m 0 ls [])
  have hret : ∀ (S1 : SX) (H : Heap) (locs : List Loc) (ls : Array Slot) (pc : Nat), va_P D vwCl (wX h cI cJ S1 L) H → va_S (xA 53 h) s.heap H locs → post S1 → decode cX4_takeFrom pc = .ok (.return_, 1) → W p l e rX4_takeFrom_8 s m args below meth c H locs 0 0 (MQ below (va_Qv (fun (u : SX × LX) => post u.1 ∧ u.2 = L) (xB D (wX h cI cJ)) (xA 53 h)) args s 0 0 (xA 53 h)) (F0 m pc ls []) := fun S1 H locs ls pc hP hS hw hd => W.vret hx hb hr (fun t ht hW => ⟨⟨(S1, L), rfl, ⟨hw, rfl⟩, show va_P D vwCl (wX h cI cJ S1 L) t.heap by rw [ht]; exact hP⟩, hS.F ht⟩) hS.2.2 hd
  generalize MQ below (va_Qv (fun (u : SX × LX) => post u.1 ∧ u.2 = L) (xB D (wX h cI cJ)) (xA 53 h)) args s 0 0 (xA 53 h) = Q at hret ⊢
  unfold kX4_takeFrom_8 at hw
  refine lv_aload_n hx hb dX4_takeFrom_0 rfl (lv_at hl 0 rfl) ?_
  refine lv_aload_n hx hb dX4_takeFrom_1 rfl (lv_at hl 1 rfl) ?_
  refine lv_iconst (v := (0 : Int32)) hx hb dX4_takeFrom_2 (by decide) ?_
  refine lv_iconst (v := (0 : Int32)) hx hb dX4_takeFrom_3 (by decide) ?_
  refine lv_aload_n hx hb dX4_takeFrom_4 rfl (lv_at hl 1 rfl) ?_
  refine va_get (D := D) (ci := 4) (v := .int (S 24 0)) (C := RX4) (T := TX4) (N := 5) hx hb hts inX4 hown hK hP 24 wX_24 rfl 0 (by decide) f0 (fun _ h9 => h9) rfl dX4_takeFrom_5 ?_
  refine xVv1 (As := [.ref (h 24), .int (0 : Int32), .int (0 : Int32), .int (S 24 0)]) (rest := []) hst hE hP hS ⟨hx, hb, hml, hown, hts⟩ (va_recv hK hP (ci := 4) (q := (RX4, TX4, 5)) rfl wX_8) (mX4_move_8_24 l D h cI cJ t0 hh S L (0 : Int32) (0 : Int32) (S 24 0) _ hw) (cwV 4 hts gX4_takeFrom_X4_move rfl rfl rfl (by decide +kernel) ⟨Nat.le_of_ble_eq_true rfl, Nat.le_of_ble_eq_true rfl⟩) rfl hl.1 rfl (Nat.le_of_ble_eq_true rfl) dX4_takeFrom_8 ⟨Nat.zero_le _, Nat.zero_le _⟩ (fun S8 H locs hw hP hS => ?_)
  refine lv_aload_n hx hb dX4_takeFrom_11 rfl (lv_at hl 0 rfl) ?_
  refine lv_aload_n hx hb dX4_takeFrom_12 rfl (lv_at hl 1 rfl) ?_
  refine va_get (D := D) (ci := 4) (v := .int (S8 24 0)) (C := RX4) (T := TX4) (N := 5) hx hb hts inX4 hown hK hP 24 wX_24 rfl 0 (by decide) f0 (fun _ h9 => h9) rfl dX4_takeFrom_13 ?_
  refine x_put (D := D) (ci := 4) (v := .int (S8 24 0)) (ty := .int) (C := RX4) (T := TX4) (N := 5) (ws2 := wX h cI cJ (xu S8 8 0 (S8 24 0)) L) hx hb hts inX4 tyX4 tyX4_ok nmX4 hown hK hP (hD _ _) hS 8 wX_8 rfl 0 (by decide) f0 (fun _ h9 => h9) rfl (by decide +kernel) rfl rfl (Nat.le_of_ble_eq_true rfl) dX4_takeFrom_16 (wX_p8_0 _) (fun H locs hP hS => ?_)
  exact hret _ _ _ _ _ hP hS hw dX4_takeFrom_19
abbrev rX5_takeFrom_1 : Room := { frames := 3, cells := 0, slots := 0, locals := 77 }
set_option maxHeartbeats 4000000 in
set_option maxRecDepth 100000 in
theorem mX5_takeFrom_1 (l : Launch) (D : va_G) (h : Nat → Nat) (cI cJ : ClassId) (t0 : Nat) (hh : xdis 53 h) (S : SX) (L : LX) (post : SX → LX → Prop) (hw : kX5_takeFrom_1 S L  post) : Met l yX5_takeFrom wsX5_takeFrom rX5_takeFrom_1 (xPre D (wX h cI cJ) (xE D h cI cJ t0) S L [.ref (h 1), .ref (h 17)]) (va_Qv (fun (u : SX × LX) => post u.1 u.2) (xB D (wX h cI cJ)) (xA 53 h)) 0 0 (xA 53 h) := by
  refine Met.ofW (cc := cX5_takeFrom) (maxL := 2) (ret := none) (by decide) rfl ?_
  intro p e s m args below meth c s₁ B hml hv
  obtain ⟨hargs, hP, hE⟩ := hv
  have hx := B.exec
  have hb := B.bytes
  have hr := B.returns
  have hlocks := B.notSynchronized
  have hts := atoms_spec (ws := wsX5_takeFrom) B.pre
  have hown : s.vm.findClass RX5 = some m.cls := findClass_of_methodNamed B.named
  have hS : va_S (xA 53 h) s.heap s.heap [] := va_S.rf
  have hD : ∀ (S : SX) (L : LX), va_D (xA 53 h) (wX h cI cJ S L) := fun S L => wX_D hh cI cJ S L
  have hK := hE.1
  have hst : xSt (xA 53 h) (xE D h cI cJ t0) := xE_st D h cI cJ t0
  have f0 := hts (.fieldLink RX5 9 "BookOfWills$World" "lives" "[I") (by decide +kernel)
  have inX5 : ∀ w ∈ u_ws RX5 TX5 10, w ∈ wsX5_takeFrom := fun w hw9 => List.mem_cons_of_mem _ (List.mem_append_left _ (List.mem_append_left _ (List.mem_append_right _ hw9)))
  have f2 := hts (.methodLink RX5 47 arraycopyName) (by decide +kernel)
  have f3 := hts (.native arraycopyName) (by decide +kernel)
  have f4 := hts (.static arraycopyName) (by decide +kernel)
  have f5 := hts (.initialized "java/lang/System") (by decide +kernel)
  have f6 := hts (.fieldLink RX5 16 "BookOfWills$World" "riches" "I") (by decide +kernel)
  have f7 := hts (.fieldLink RX5 53 "BookOfWills$World" "more" "I") (by decide +kernel)
  have f8 := hts (.fieldLink RX5 23 "BookOfWills$World" "laws" "LBookOfWills$Laws;") (by decide +kernel)
  have f9 := hts (.fieldLink RX5 30 "BookOfWills$World" "wills" "LBookOfWills$Wills;") (by decide +kernel)
  have f10 := hts (.fieldLink RX5 34 "BookOfWills$World" "people" "[I") (by decide +kernel)
  have f11 := hts (.fieldLink RX5 37 "BookOfWills$World" "prices" "[I") (by decide +kernel)
  have f12 := hts (.fieldLink RX5 63 "BookOfWills$World" "counted" "I") (by decide +kernel)
  have f13 := hts (.fieldLink RX5 40 "BookOfWills$World" "leastCounted" "[J") (by decide +kernel)
  have f14 := hts (.fieldLink RX5 44 "BookOfWills$World" "mostCounted" "[J") (by decide +kernel)
  have hl := lv_entry ([.ref (h 1), .ref (h 17)]) (n := 2) (Nat.le_of_ble_eq_true rfl)
  have hen : entryFrame m args 2 = F0 m 0 ((lg_sl ([.ref (h 1), .ref (h 17)]) ++ List.replicate (2 - (lg_sl ([.ref (h 1), .ref (h 17)])).length) Slot.unset).toArray) [] := by rw [hargs]; exact lg_entry_eq m _ _
  rw [hen]
  generalize (lg_sl ([.ref (h 1), .ref (h 17)]) ++ List.replicate (2 - (lg_sl ([.ref (h 1), .ref (h 17)])).length) Slot.unset).toArray = ls at hl ⊢
  have hl : lv_has ls 2 [(0, .ref (h 1)), (1, .ref (h 17))] := hl
  change W p l e rX5_takeFrom_1 s m args below meth c s.heap [] 0 0 (MQ below (va_Qv (fun (u : SX × LX) => post u.1 u.2) (xB D (wX h cI cJ)) (xA 53 h)) args s 0 0 (xA 53 h)) (F0 m 0 ls [])
  have hret : ∀ (S1 : SX) (L1 : LX) (H : Heap) (locs : List Loc) (ls : Array Slot) (pc : Nat), va_P D vwCl (wX h cI cJ S1 L1) H → va_S (xA 53 h) s.heap H locs → post S1 L1 → decode cX5_takeFrom pc = .ok (.return_, 1) → W p l e rX5_takeFrom_1 s m args below meth c H locs 0 0 (MQ below (va_Qv (fun (u : SX × LX) => post u.1 u.2) (xB D (wX h cI cJ)) (xA 53 h)) args s 0 0 (xA 53 h)) (F0 m pc ls []) := fun S1 L1 H locs ls pc hP hS hw hd => W.vret hx hb hr (fun t ht hW => ⟨⟨(S1, L1), rfl, hw, show va_P D vwCl (wX h cI cJ S1 L1) t.heap by rw [ht]; exact hP⟩, hS.F ht⟩) hS.2.2 hd
  generalize MQ below (va_Qv (fun (u : SX × LX) => post u.1 u.2) (xB D (wX h cI cJ)) (xA 53 h)) args s 0 0 (xA 53 h) = Q at hret ⊢
  unfold kX5_takeFrom_1 at hw
  refine lv_aload_n hx hb dX5_takeFrom_0 rfl (lv_at hl 1 rfl) ?_
  refine va_get (D := D) (ci := 5) (v := .ref (h 18)) (C := RX5) (T := TX5) (N := 10) hx hb hts inX5 hown hK hP 17 wX_17 rfl 0 (by decide) f0 (fun _ h9 => h9) rfl dX5_takeFrom_1 ?_
  refine lv_iconst (v := (0 : Int32)) hx hb dX5_takeFrom_4 (by decide) ?_
  refine lv_aload_n hx hb dX5_takeFrom_5 rfl (lv_at hl 0 rfl) ?_
  refine va_get (D := D) (ci := 5) (v := .ref (h 2)) (C := RX5) (T := TX5) (N := 10) hx hb hts inX5 hown hK hP 1 wX_1 rfl 0 (by decide) f0 (fun _ h9 => h9) rfl dX5_takeFrom_6 ?_
  refine lv_iconst (v := (0 : Int32)) hx hb dX5_takeFrom_9 (by decide) ?_
  refine lv_bipush (v := (6 : Int32)) hx hb dX5_takeFrom_10 (by decide) ?_
  obtain ⟨hi, hw⟩ := hw
  refine x_copyi (ws2 := wX h cI cJ (xcp S 2 18 (0 : Int32).toNatClampNeg (0 : Int32).toNatClampNeg (6 : Int32).toNatClampNeg) L) hx hb (hml.trans hl.1.symm) hown f2 f3 f4 f5 hK hP (hD _ _) hS 18 2 0 wX_18 wX_2 rfl hi.1 hi.2.1 hi.2.2.1 hi.2.2.2.1 hi.2.2.2.2 (Nat.le_of_ble_eq_true rfl) (Nat.le_of_ble_eq_true rfl) dX5_takeFrom_12 (wX_c2 _ _ _ _) (fun H locs hP hS => ?_)
  refine lv_aload_n hx hb dX5_takeFrom_15 rfl (lv_at hl 0 rfl) ?_
  refine lv_aload_n hx hb dX5_takeFrom_16 rfl (lv_at hl 1 rfl) ?_
  refine va_get (D := D) (ci := 5) (v := .int ((xcp S 2 18 (0 : Int32).toNatClampNeg (0 : Int32).toNatClampNeg (6 : Int32).toNatClampNeg) 17 0)) (C := RX5) (T := TX5) (N := 10) hx hb hts inX5 hown hK hP 17 wX_17 rfl 1 (by decide) f6 (fun _ h9 => h9) rfl dX5_takeFrom_17 ?_
  refine x_put (D := D) (ci := 5) (v := .int ((xcp S 2 18 (0 : Int32).toNatClampNeg (0 : Int32).toNatClampNeg (6 : Int32).toNatClampNeg) 17 0)) (ty := .int) (C := RX5) (T := TX5) (N := 10) (ws2 := wX h cI cJ (xu (xcp S 2 18 (0 : Int32).toNatClampNeg (0 : Int32).toNatClampNeg (6 : Int32).toNatClampNeg) 1 0 ((xcp S 2 18 (0 : Int32).toNatClampNeg (0 : Int32).toNatClampNeg (6 : Int32).toNatClampNeg) 17 0)) L) hx hb hts inX5 tyX5 tyX5_ok nmX5 hown hK hP (hD _ _) hS 1 wX_1 rfl 1 (by decide) f6 (fun _ h9 => h9) rfl (by decide +kernel) rfl rfl (Nat.le_of_ble_eq_true rfl) dX5_takeFrom_20 (wX_p1_0 _) (fun H locs hP hS => ?_)
  refine lv_aload_n hx hb dX5_takeFrom_23 rfl (lv_at hl 0 rfl) ?_
  refine lv_aload_n hx hb dX5_takeFrom_24 rfl (lv_at hl 1 rfl) ?_
  refine va_get (D := D) (ci := 5) (v := .int ((xu (xcp S 2 18 (0 : Int32).toNatClampNeg (0 : Int32).toNatClampNeg (6 : Int32).toNatClampNeg) 1 0 ((xcp S 2 18 (0 : Int32).toNatClampNeg (0 : Int32).toNatClampNeg (6 : Int32).toNatClampNeg) 17 0)) 17 1)) (C := RX5) (T := TX5) (N := 10) hx hb hts inX5 hown hK hP 17 wX_17 rfl 2 (by decide) f7 (fun _ h9 => h9) rfl dX5_takeFrom_25 ?_
  refine x_put (D := D) (ci := 5) (v := .int ((xu (xcp S 2 18 (0 : Int32).toNatClampNeg (0 : Int32).toNatClampNeg (6 : Int32).toNatClampNeg) 1 0 ((xcp S 2 18 (0 : Int32).toNatClampNeg (0 : Int32).toNatClampNeg (6 : Int32).toNatClampNeg) 17 0)) 17 1)) (ty := .int) (C := RX5) (T := TX5) (N := 10) (ws2 := wX h cI cJ (xu (xu (xcp S 2 18 (0 : Int32).toNatClampNeg (0 : Int32).toNatClampNeg (6 : Int32).toNatClampNeg) 1 0 ((xcp S 2 18 (0 : Int32).toNatClampNeg (0 : Int32).toNatClampNeg (6 : Int32).toNatClampNeg) 17 0)) 1 1 ((xu (xcp S 2 18 (0 : Int32).toNatClampNeg (0 : Int32).toNatClampNeg (6 : Int32).toNatClampNeg) 1 0 ((xcp S 2 18 (0 : Int32).toNatClampNeg (0 : Int32).toNatClampNeg (6 : Int32).toNatClampNeg) 17 0)) 17 1)) L) hx hb hts inX5 tyX5 tyX5_ok nmX5 hown hK hP (hD _ _) hS 1 wX_1 rfl 2 (by decide) f7 (fun _ h9 => h9) rfl (by decide +kernel) rfl rfl (Nat.le_of_ble_eq_true rfl) dX5_takeFrom_28 (wX_p1_1 _) (fun H locs hP hS => ?_)
  refine lv_aload_n hx hb dX5_takeFrom_31 rfl (lv_at hl 0 rfl) ?_
  refine va_get (D := D) (ci := 5) (v := .ref (h 3)) (C := RX5) (T := TX5) (N := 10) hx hb hts inX5 hown hK hP 1 wX_1 rfl 3 (by decide) f8 (fun _ h9 => h9) rfl dX5_takeFrom_32 ?_
  refine lv_aload_n hx hb dX5_takeFrom_35 rfl (lv_at hl 1 rfl) ?_
  refine va_get (D := D) (ci := 5) (v := .ref (h 19)) (C := RX5) (T := TX5) (N := 10) hx hb hts inX5 hown hK hP 17 wX_17 rfl 3 (by decide) f8 (fun _ h9 => h9) rfl dX5_takeFrom_36 ?_
  refine xVv1 (As := [.ref (h 19)]) (rest := []) hst hE hP hS ⟨hx, hb, hml, hown, hts⟩ (va_recv hK hP (ci := 0) (q := (RX0, TX0, 4)) rfl wX_3) (mX0_takeFrom_3_19 l D h cI cJ t0 hh (xu (xu (xcp S 2 18 (0 : Int32).toNatClampNeg (0 : Int32).toNatClampNeg (6 : Int32).toNatClampNeg) 1 0 ((xcp S 2 18 (0 : Int32).toNatClampNeg (0 : Int32).toNatClampNeg (6 : Int32).toNatClampNeg) 17 0)) 1 1 ((xu (xcp S 2 18 (0 : Int32).toNatClampNeg (0 : Int32).toNatClampNeg (6 : Int32).toNatClampNeg) 1 0 ((xcp S 2 18 (0 : Int32).toNatClampNeg (0 : Int32).toNatClampNeg (6 : Int32).toNatClampNeg) 17 0)) 17 1)) L  _ hw) (cwV 1 hts gX5_takeFrom_X0_takeFrom rfl rfl rfl (by decide +kernel) ⟨Nat.le_of_ble_eq_true rfl, Nat.le_of_ble_eq_true rfl⟩) rfl hl.1 rfl (Nat.le_of_ble_eq_true rfl) dX5_takeFrom_39 ⟨Nat.zero_le _, Nat.zero_le _⟩ (fun S39 H locs hw hP hS => ?_)
  refine lv_aload_n hx hb dX5_takeFrom_42 rfl (lv_at hl 0 rfl) ?_
  refine va_get (D := D) (ci := 5) (v := .ref (h 8)) (C := RX5) (T := TX5) (N := 10) hx hb hts inX5 hown hK hP 1 wX_1 rfl 4 (by decide) f9 (fun _ h9 => h9) rfl dX5_takeFrom_43 ?_
  refine lv_aload_n hx hb dX5_takeFrom_46 rfl (lv_at hl 1 rfl) ?_
  refine va_get (D := D) (ci := 5) (v := .ref (h 24)) (C := RX5) (T := TX5) (N := 10) hx hb hts inX5 hown hK hP 17 wX_17 rfl 4 (by decide) f9 (fun _ h9 => h9) rfl dX5_takeFrom_47 ?_
  refine xVv1 (As := [.ref (h 24)]) (rest := []) hst hE hP hS ⟨hx, hb, hml, hown, hts⟩ (va_recv hK hP (ci := 4) (q := (RX4, TX4, 5)) rfl wX_8) (mX4_takeFrom_8 l D h cI cJ t0 hh S39 L  _ hw) (cwV 1 hts gX5_takeFrom_X4_takeFrom rfl rfl rfl (by decide +kernel) ⟨Nat.le_of_ble_eq_true rfl, Nat.le_of_ble_eq_true rfl⟩) rfl hl.1 rfl (Nat.le_of_ble_eq_true rfl) dX5_takeFrom_50 ⟨Nat.zero_le _, Nat.zero_le _⟩ (fun S50 H locs hw hP hS => ?_)
  refine lv_aload_n hx hb dX5_takeFrom_53 rfl (lv_at hl 1 rfl) ?_
  refine va_get (D := D) (ci := 5) (v := .ref (h 29)) (C := RX5) (T := TX5) (N := 10) hx hb hts inX5 hown hK hP 17 wX_17 rfl 5 (by decide) f10 (fun _ h9 => h9) rfl dX5_takeFrom_54 ?_
  refine lv_iconst (v := (0 : Int32)) hx hb dX5_takeFrom_57 (by decide) ?_
  refine lv_aload_n hx hb dX5_takeFrom_58 rfl (lv_at hl 0 rfl) ?_
  refine va_get (D := D) (ci := 5) (v := .ref (h 13)) (C := RX5) (T := TX5) (N := 10) hx hb hts inX5 hown hK hP 1 wX_1 rfl 5 (by decide) f10 (fun _ h9 => h9) rfl dX5_takeFrom_59 ?_
  refine lv_iconst (v := (0 : Int32)) hx hb dX5_takeFrom_62 (by decide) ?_
  refine lv_bipush (v := (8 : Int32)) hx hb dX5_takeFrom_63 (by decide) ?_
  obtain ⟨hi, hw⟩ := hw
  refine x_copyi (ws2 := wX h cI cJ (xcp S50 13 29 (0 : Int32).toNatClampNeg (0 : Int32).toNatClampNeg (8 : Int32).toNatClampNeg) L) hx hb (hml.trans hl.1.symm) hown f2 f3 f4 f5 hK hP (hD _ _) hS 29 13 0 wX_29 wX_13 rfl hi.1 hi.2.1 hi.2.2.1 hi.2.2.2.1 hi.2.2.2.2 (Nat.le_of_ble_eq_true rfl) (Nat.le_of_ble_eq_true rfl) dX5_takeFrom_65 (wX_c13 _ _ _ _) (fun H locs hP hS => ?_)
  refine lv_aload_n hx hb dX5_takeFrom_68 rfl (lv_at hl 1 rfl) ?_
  refine va_get (D := D) (ci := 5) (v := .ref (h 30)) (C := RX5) (T := TX5) (N := 10) hx hb hts inX5 hown hK hP 17 wX_17 rfl 6 (by decide) f11 (fun _ h9 => h9) rfl dX5_takeFrom_69 ?_
  refine lv_iconst (v := (0 : Int32)) hx hb dX5_takeFrom_72 (by decide) ?_
  refine lv_aload_n hx hb dX5_takeFrom_73 rfl (lv_at hl 0 rfl) ?_
  refine va_get (D := D) (ci := 5) (v := .ref (h 14)) (C := RX5) (T := TX5) (N := 10) hx hb hts inX5 hown hK hP 1 wX_1 rfl 6 (by decide) f11 (fun _ h9 => h9) rfl dX5_takeFrom_74 ?_
  refine lv_iconst (v := (0 : Int32)) hx hb dX5_takeFrom_77 (by decide) ?_
  refine lv_bipush (v := (8 : Int32)) hx hb dX5_takeFrom_78 (by decide) ?_
  obtain ⟨hi, hw⟩ := hw
  refine x_copyi (ws2 := wX h cI cJ (xcp (xcp S50 13 29 (0 : Int32).toNatClampNeg (0 : Int32).toNatClampNeg (8 : Int32).toNatClampNeg) 14 30 (0 : Int32).toNatClampNeg (0 : Int32).toNatClampNeg (8 : Int32).toNatClampNeg) L) hx hb (hml.trans hl.1.symm) hown f2 f3 f4 f5 hK hP (hD _ _) hS 30 14 0 wX_30 wX_14 rfl hi.1 hi.2.1 hi.2.2.1 hi.2.2.2.1 hi.2.2.2.2 (Nat.le_of_ble_eq_true rfl) (Nat.le_of_ble_eq_true rfl) dX5_takeFrom_80 (wX_c14 _ _ _ _) (fun H locs hP hS => ?_)
  refine lv_aload_n hx hb dX5_takeFrom_83 rfl (lv_at hl 0 rfl) ?_
  refine lv_aload_n hx hb dX5_takeFrom_84 rfl (lv_at hl 1 rfl) ?_
  refine va_get (D := D) (ci := 5) (v := .int ((xcp (xcp S50 13 29 (0 : Int32).toNatClampNeg (0 : Int32).toNatClampNeg (8 : Int32).toNatClampNeg) 14 30 (0 : Int32).toNatClampNeg (0 : Int32).toNatClampNeg (8 : Int32).toNatClampNeg) 17 2)) (C := RX5) (T := TX5) (N := 10) hx hb hts inX5 hown hK hP 17 wX_17 rfl 7 (by decide) f12 (fun _ h9 => h9) rfl dX5_takeFrom_85 ?_
  refine x_put (D := D) (ci := 5) (v := .int ((xcp (xcp S50 13 29 (0 : Int32).toNatClampNeg (0 : Int32).toNatClampNeg (8 : Int32).toNatClampNeg) 14 30 (0 : Int32).toNatClampNeg (0 : Int32).toNatClampNeg (8 : Int32).toNatClampNeg) 17 2)) (ty := .int) (C := RX5) (T := TX5) (N := 10) (ws2 := wX h cI cJ (xu (xcp (xcp S50 13 29 (0 : Int32).toNatClampNeg (0 : Int32).toNatClampNeg (8 : Int32).toNatClampNeg) 14 30 (0 : Int32).toNatClampNeg (0 : Int32).toNatClampNeg (8 : Int32).toNatClampNeg) 1 2 ((xcp (xcp S50 13 29 (0 : Int32).toNatClampNeg (0 : Int32).toNatClampNeg (8 : Int32).toNatClampNeg) 14 30 (0 : Int32).toNatClampNeg (0 : Int32).toNatClampNeg (8 : Int32).toNatClampNeg) 17 2)) L) hx hb hts inX5 tyX5 tyX5_ok nmX5 hown hK hP (hD _ _) hS 1 wX_1 rfl 7 (by decide) f12 (fun _ h9 => h9) rfl (by decide +kernel) rfl rfl (Nat.le_of_ble_eq_true rfl) dX5_takeFrom_88 (wX_p1_2 _) (fun H locs hP hS => ?_)
  refine lv_aload_n hx hb dX5_takeFrom_91 rfl (lv_at hl 1 rfl) ?_
  refine va_get (D := D) (ci := 5) (v := .ref (h 31)) (C := RX5) (T := TX5) (N := 10) hx hb hts inX5 hown hK hP 17 wX_17 rfl 8 (by decide) f13 (fun _ h9 => h9) rfl dX5_takeFrom_92 ?_
  refine lv_iconst (v := (0 : Int32)) hx hb dX5_takeFrom_95 (by decide) ?_
  refine lv_aload_n hx hb dX5_takeFrom_96 rfl (lv_at hl 0 rfl) ?_
  refine va_get (D := D) (ci := 5) (v := .ref (h 15)) (C := RX5) (T := TX5) (N := 10) hx hb hts inX5 hown hK hP 1 wX_1 rfl 8 (by decide) f13 (fun _ h9 => h9) rfl dX5_takeFrom_97 ?_
  refine lv_iconst (v := (0 : Int32)) hx hb dX5_takeFrom_100 (by decide) ?_
  refine lv_bipush (v := (8 : Int32)) hx hb dX5_takeFrom_101 (by decide) ?_
  obtain ⟨hi, hw⟩ := hw
  refine x_copyl (ws2 := wX h cI cJ (xu (xcp (xcp S50 13 29 (0 : Int32).toNatClampNeg (0 : Int32).toNatClampNeg (8 : Int32).toNatClampNeg) 14 30 (0 : Int32).toNatClampNeg (0 : Int32).toNatClampNeg (8 : Int32).toNatClampNeg) 1 2 ((xcp (xcp S50 13 29 (0 : Int32).toNatClampNeg (0 : Int32).toNatClampNeg (8 : Int32).toNatClampNeg) 14 30 (0 : Int32).toNatClampNeg (0 : Int32).toNatClampNeg (8 : Int32).toNatClampNeg) 17 2)) (xcpL L 15 31 (0 : Int32).toNatClampNeg (0 : Int32).toNatClampNeg (8 : Int32).toNatClampNeg)) hx hb (hml.trans hl.1.symm) hown f2 f3 f4 f5 hK hP (hD _ _) hS 31 15 1 wX_31 wX_15 rfl hi.1 hi.2.1 hi.2.2.1 hi.2.2.2.1 hi.2.2.2.2 (Nat.le_of_ble_eq_true rfl) (Nat.le_of_ble_eq_true rfl) dX5_takeFrom_103 (wX_c15 _ _ _ _) (fun H locs hP hS => ?_)
  refine lv_aload_n hx hb dX5_takeFrom_106 rfl (lv_at hl 1 rfl) ?_
  refine va_get (D := D) (ci := 5) (v := .ref (h 32)) (C := RX5) (T := TX5) (N := 10) hx hb hts inX5 hown hK hP 17 wX_17 rfl 9 (by decide) f14 (fun _ h9 => h9) rfl dX5_takeFrom_107 ?_
  refine lv_iconst (v := (0 : Int32)) hx hb dX5_takeFrom_110 (by decide) ?_
  refine lv_aload_n hx hb dX5_takeFrom_111 rfl (lv_at hl 0 rfl) ?_
  refine va_get (D := D) (ci := 5) (v := .ref (h 16)) (C := RX5) (T := TX5) (N := 10) hx hb hts inX5 hown hK hP 1 wX_1 rfl 9 (by decide) f14 (fun _ h9 => h9) rfl dX5_takeFrom_112 ?_
  refine lv_iconst (v := (0 : Int32)) hx hb dX5_takeFrom_115 (by decide) ?_
  refine lv_bipush (v := (8 : Int32)) hx hb dX5_takeFrom_116 (by decide) ?_
  obtain ⟨hi, hw⟩ := hw
  refine x_copyl (ws2 := wX h cI cJ (xu (xcp (xcp S50 13 29 (0 : Int32).toNatClampNeg (0 : Int32).toNatClampNeg (8 : Int32).toNatClampNeg) 14 30 (0 : Int32).toNatClampNeg (0 : Int32).toNatClampNeg (8 : Int32).toNatClampNeg) 1 2 ((xcp (xcp S50 13 29 (0 : Int32).toNatClampNeg (0 : Int32).toNatClampNeg (8 : Int32).toNatClampNeg) 14 30 (0 : Int32).toNatClampNeg (0 : Int32).toNatClampNeg (8 : Int32).toNatClampNeg) 17 2)) (xcpL (xcpL L 15 31 (0 : Int32).toNatClampNeg (0 : Int32).toNatClampNeg (8 : Int32).toNatClampNeg) 16 32 (0 : Int32).toNatClampNeg (0 : Int32).toNatClampNeg (8 : Int32).toNatClampNeg)) hx hb (hml.trans hl.1.symm) hown f2 f3 f4 f5 hK hP (hD _ _) hS 32 16 1 wX_32 wX_16 rfl hi.1 hi.2.1 hi.2.2.1 hi.2.2.2.1 hi.2.2.2.2 (Nat.le_of_ble_eq_true rfl) (Nat.le_of_ble_eq_true rfl) dX5_takeFrom_118 (wX_c16 _ _ _ _) (fun H locs hP hS => ?_)
  exact hret _ _ _ _ _ _ hP hS hw dX5_takeFrom_121
