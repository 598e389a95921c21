abbrev rX7_maker : Room := { frames := 5, cells := 0, slots := 0, locals := 131 }
set_option maxHeartbeats 4000000 in
set_option maxRecDepth 100000 in
theorem mX7_maker (l : Launch) (D : va_G) (h : Nat → Nat) (cI cJ : ClassId) (hh : xdis 22 h) (S : SX) (L : LX) (v1 : Int32) (v2 : Int32) (v3 : Int32) (post : Int32 → Prop) (hw : kX7_maker S L v1 v2 v3 post) : Met l yX7_maker wsX7_maker rX7_maker (xPre D (wM h cI cJ) (mE D cI cJ) S L [.ref (h 0), .int v1, .int v2, .int v3]) (va_Qi (fun (r : Int32) (u : SX × LX) => post r ∧ u.1 = S ∧ u.2 = L) (xB D (wM h cI cJ)) (xA 22 h)) 0 0 (xA 22 h) := by
  refine Met.ofW (cc := cX7_maker) (maxL := 9) (ret := (some .int)) (by decide) rfl ?_
  intro p e s m args below meth c s₁ B hml hv
  obtain ⟨hargs, hP, hE⟩ := hv
  have hx := B.exec
  have hb := B.bytes
  have hr := B.returns
  have hlocks := B.notSynchronized
  have hts := atoms_spec (ws := wsX7_maker) B.pre
  have hown : s.vm.findClass RX7 = some m.cls := findClass_of_methodNamed B.named
  have hS : va_S (xA 22 h) s.heap s.heap [] := va_S.rf
  have hD : ∀ (S : SX) (L : LX), va_D (xA 22 h) (wM h cI cJ S L) := fun S L => wM_D hh cI cJ S L
  have hK := id hE
  have hst : xSt (xA 22 h) (mE D cI cJ) := mE_st D _ cI cJ
  have f0 := hts (.fieldLink RX7 87 "BookOfWillsModel" "wills" "I") (by decide +kernel)
  have inX7 : ∀ w ∈ u_ws RX7 TX7 28, w ∈ wsX7_maker := fun w hw9 => List.mem_cons_of_mem _ (List.mem_append_right _ hw9)
  have f2 := hts (.fieldLink RX7 18 "BookOfWillsModel" "yearOf" "[I") (by decide +kernel)
  have hl := lv_entry ([.ref (h 0), .int v1, .int v2, .int v3]) (n := 9) (Nat.le_of_ble_eq_true rfl)
  have hen : entryFrame m args 9 = F0 m 0 ((lg_sl ([.ref (h 0), .int v1, .int v2, .int v3]) ++ List.replicate (9 - (lg_sl ([.ref (h 0), .int v1, .int v2, .int v3])).length) Slot.unset).toArray) [] := by rw [hargs]; exact lg_entry_eq m _ _
  rw [hen]
  generalize (lg_sl ([.ref (h 0), .int v1, .int v2, .int v3]) ++ List.replicate (9 - (lg_sl ([.ref (h 0), .int v1, .int v2, .int v3])).length) Slot.unset).toArray = ls at hl ⊢
  have hl : lv_has ls 9 [(0, .ref (h 0)), (1, .int v1), (2, .int v2), (3, .int v3)] := hl
  change W p l e rX7_maker s m args below meth c s.heap [] 0 0 (MQ below (va_Qi (fun (r : Int32) (u : SX × LX) => post r ∧ u.1 = S ∧ u.2 = L) (xB D (wM h cI cJ)) (xA 22 h)) args s 0 0 (xA 22 h)) (F0 m 0 ls [])
  have hret : ∀ (r : Int32) (H : Heap) (locs : List Loc) (ls : Array Slot) (pc : Nat), va_P D vwCl (wM h cI cJ S L) H → va_S (xA 22 h) s.heap H locs → post r → decode cX7_maker pc = .ok (.ireturn, 1) → W p l e rX7_maker s m args below meth c H locs 0 0 (MQ below (va_Qi (fun (r : Int32) (u : SX × LX) => post r ∧ u.1 = S ∧ u.2 = L) (xB D (wM h cI cJ)) (xA 22 h)) args s 0 0 (xA 22 h)) (F0 m pc ls [.int r]) := fun r H locs ls pc hP hS hw hd => W.iret hx hb hr (fun t ht hW => ⟨⟨r, (S, L), rfl, ⟨hw, rfl, rfl⟩, show va_P D vwCl (wM h cI cJ S L) t.heap by rw [ht]; exact hP⟩, hS.F ht⟩) hS.2.2 hd
  generalize MQ below (va_Qi (fun (r : Int32) (u : SX × LX) => post r ∧ u.1 = S ∧ u.2 = L) (xB D (wM h cI cJ)) (xA 22 h)) args s 0 0 (xA 22 h) = Q at hret ⊢
  have b63 : ∀ (v4 : Int32) (n63 : Nat) (v5 : Int32) (v6 : Int32) (v7 : Int32) (H : Heap) (locs : List Loc) (ls : Array Slot), lv_has ls 9 [(0, .ref (h 0)), (1, .int v1), (2, .int v2), (3, .int v3), (4, .int v4), (5, .int v5), (6, .int v6), (7, .int v7)] → va_P D vwCl (wM h cI cJ S L) H → va_S (xA 22 h) s.heap H locs → kX7_maker_b63 S L v1 v2 v3 v4 post n63 v5 v6 v7 → W p l e rX7_maker s m args below meth c H locs 0 0 Q (F0 m 63 ls []) := by
    intro v4 n63
    induction n63 with
    | zero => intro v5 v6 v7 H locs ls hl hP hS hw; exact absurd hw id
    | succ n63 i63 =>
      have b120 : ∀ (v5 : Int32) (v6 : Int32) (v7 : Int32) (z0 : Int32) (H : Heap) (locs : List Loc) (ls : Array Slot), lv_has ls 9 [(0, .ref (h 0)), (1, .int v1), (2, .int v2), (3, .int v3), (4, .int v4), (5, .int v5), (6, .int v6), (7, .int v7)] → va_P D vwCl (wM h cI cJ S L) H → va_S (xA 22 h) s.heap H locs → kX7_maker_b120 S L v1 v2 v3 v4 post (kX7_maker_b63 S L v1 v2 v3 v4 post n63) v5 v6 v7 z0 → W p l e rX7_maker s m args below meth c H locs 0 0 Q (F0 m 120 ls [.int z0]) := by
        have b136 : ∀ (v6 : Int32) (v7 : Int32) (v8 : Int32) (z0 : Int32) (H : Heap) (locs : List Loc) (ls : Array Slot), lv_has ls 9 [(0, .ref (h 0)), (1, .int v1), (2, .int v2), (3, .int v3), (4, .int v4), (6, .int v6), (7, .int v7), (8, .int v8)] → va_P D vwCl (wM h cI cJ S L) H → va_S (xA 22 h) s.heap H locs → kX7_maker_b136 S L v1 v2 v3 v4 post (kX7_maker_b63 S L v1 v2 v3 v4 post n63) v6 v7 v8 z0 → W p l e rX7_maker s m args below meth c H locs 0 0 Q (F0 m 136 ls [.int z0]) := by
          intro v6 v7 v8 z0 H locs ls hl hP hS hw
          unfold kX7_maker_b136 at hw
          refine lv_istore (lv' := [(5, .int z0), (0, .ref (h 0)), (1, .int v1), (2, .int v2), (3, .int v3), (4, .int v4), (6, .int v6), (7, .int v7), (8, .int v8)]) hx hb dX7_maker_136 hl (by decide) rfl (fun ls hl => ?_)
          refine lv_iload hx hb dX7_maker_138 (lv_at hl 8 rfl) ?_
          refine lv_iload hx hb dX7_maker_140 (lv_at hl 6 rfl) ?_
          refine lv_icmp_le (tgt := 150) hx hb dX7_maker_142 (by decide) (fun hc => ?_) (fun hc => ?_)
          · replace hw := And.left hw hc
            refine lv_iload hx hb dX7_maker_150 (lv_at hl 6 rfl) ?_
            refine lv_istore (lv' := [(6, .int v6), (5, .int z0), (0, .ref (h 0)), (1, .int v1), (2, .int v2), (3, .int v3), (4, .int v4), (7, .int v7), (8, .int v8)]) hx hb dX7_maker_152 hl (by decide) rfl (fun ls hl => ?_)
            refine lv_iinc (v := v7 + (1 : Int32)) (lv' := [(7, .int (v7 + (1 : Int32))), (6, .int v6), (5, .int z0), (0, .ref (h 0)), (1, .int v1), (2, .int v2), (3, .int v3), (4, .int v4), (8, .int v8)]) hx hb dX7_maker_154 hl (k := 7) rfl rfl (by decide) rfl (fun ls hl => ?_)
            refine lv_goto (tgt := 63) hx hb dX7_maker_157 (by decide) ?_
            exact i63 z0 v6 (v7 + (1 : Int32)) _ _ _ (lv_sub hl [3, 4, 5, 6, 7, 2, 1, 0] rfl) hP hS hw
          · replace hw := And.right hw hc
            refine lv_iload hx hb dX7_maker_145 (lv_at hl 8 rfl) ?_
            refine lv_goto (tgt := 152) hx hb dX7_maker_147 (by decide) ?_
            refine lv_istore (lv' := [(6, .int v8), (5, .int z0), (0, .ref (h 0)), (1, .int v1), (2, .int v2), (3, .int v3), (4, .int v4), (7, .int v7), (8, .int v8)]) hx hb dX7_maker_152 hl (by decide) rfl (fun ls hl => ?_)
            refine lv_iinc (v := v7 + (1 : Int32)) (lv' := [(7, .int (v7 + (1 : Int32))), (6, .int v8), (5, .int z0), (0, .ref (h 0)), (1, .int v1), (2, .int v2), (3, .int v3), (4, .int v4), (8, .int v8)]) hx hb dX7_maker_154 hl (k := 7) rfl rfl (by decide) rfl (fun ls hl => ?_)
            refine lv_goto (tgt := 63) hx hb dX7_maker_157 (by decide) ?_
            exact i63 z0 v8 (v7 + (1 : Int32)) _ _ _ (lv_sub hl [3, 4, 5, 6, 7, 2, 1, 0] rfl) hP hS hw
        intro v5 v6 v7 z0 H locs ls hl hP hS hw
        unfold kX7_maker_b120 at hw
        refine lv_istore (lv' := [(8, .int z0), (0, .ref (h 0)), (1, .int v1), (2, .int v2), (3, .int v3), (4, .int v4), (5, .int v5), (6, .int v6), (7, .int v7)]) hx hb dX7_maker_120 hl (by decide) rfl (fun ls hl => ?_)
        refine lv_iload hx hb dX7_maker_122 (lv_at hl 0 rfl) ?_
        refine lv_iload hx hb dX7_maker_124 (lv_at hl 7 rfl) ?_
        refine lv_icmp_le (tgt := 134) hx hb dX7_maker_126 (by decide) (fun hc => ?_) (fun hc => ?_)
        · replace hw := And.left hw hc
          refine lv_iload hx hb dX7_maker_134 (lv_at hl 6 rfl) ?_
          exact b136 v6 v7 z0 v5 _ _ _ (lv_sub hl [1, 2, 3, 4, 5, 7, 8, 0] rfl) hP hS hw
        · replace hw := And.right hw hc
          refine lv_iload hx hb dX7_maker_129 (lv_at hl 8 rfl) ?_
          refine lv_goto (tgt := 136) hx hb dX7_maker_131 (by decide) ?_
          exact b136 v6 v7 z0 v7 _ _ _ (lv_sub hl [1, 2, 3, 4, 5, 7, 8, 0] rfl) hP hS hw
      intro v5 v6 v7 H locs ls hl hP hS hw
      unfold kX7_maker_b63 at hw
      refine lv_iload hx hb dX7_maker_63 (lv_at hl 7 rfl) ?_
      refine lv_aload_n hx hb dX7_maker_65 rfl (lv_at hl 0 rfl) ?_
      refine va_get (D := D) (ci := 7) (v := .int (S 0 2)) (C := RX7) (T := TX7) (N := 28) hx hb hts inX7 hown hK hP 0 wM_0 rfl 3 (by decide) f0 (fun _ h9 => h9) rfl dX7_maker_66 ?_
      refine lv_icmp_ge (tgt := 160) hx hb dX7_maker_69 (by decide) (fun hc => ?_) (fun hc => ?_)
      · replace hw := And.left hw hc
        refine lv_iload_n hx hb dX7_maker_160 rfl (lv_at hl 3 rfl) ?_
        refine lv_if_ne (tgt := 169) hx hb dX7_maker_161 (by decide) (fun hc => ?_) (fun hc => ?_)
        · replace hw := And.right hw hc
          refine lv_aload_n hx hb dX7_maker_169 rfl (lv_at hl 0 rfl) ?_
          refine lv_iload_n hx hb dX7_maker_170 rfl (lv_at hl 1 rfl) ?_
          refine lv_iload_n hx hb dX7_maker_171 rfl (lv_at hl 1 rfl) ?_
          refine lv_iload_n hx hb dX7_maker_172 rfl (lv_at hl 2 rfl) ?_
          refine lv_iload hx hb dX7_maker_173 (lv_at hl 5 rfl) ?_
          refine xVi0 (As := [.int v1, .int v1, .int v2, .int v5]) (rest := []) hst hE hP hS ⟨hx, hb, hml, hown, hts⟩ (va_recv hK hP (ci := 7) (q := (RX7, TX7, 28)) rfl wM_0) (mX7_partsOf l D h cI cJ hh S L v1 v1 v2 v5 _ hw) (cwV 4 hts gX7_maker_X7_partsOf rfl rfl rfl (by decide +kernel) ⟨Nat.le_of_ble_eq_true rfl, Nat.le_of_ble_eq_true rfl⟩) rfl hl.1 rfl (Nat.le_of_ble_eq_true rfl) dX7_maker_175 ⟨Nat.zero_le _, Nat.zero_le _⟩ (fun r175 H locs hw hP hS => ?_)
          exact hret _ _ _ _ _ hP hS hw dX7_maker_178
        · replace hw := And.left hw hc
          refine lv_iload hx hb dX7_maker_164 (lv_at hl 5 rfl) ?_
          refine lv_goto (tgt := 178) hx hb dX7_maker_166 (by decide) ?_
          exact hret _ _ _ _ _ hP hS hw dX7_maker_178
      · replace hw := And.right hw hc
        refine lv_aload_n hx hb dX7_maker_72 rfl (lv_at hl 0 rfl) ?_
        refine va_get (D := D) (ci := 7) (v := .ref (h 2)) (C := RX7) (T := TX7) (N := 28) hx hb hts inX7 hown hK hP 0 wM_0 rfl 4 (by decide) f2 (fun _ h9 => h9) rfl dX7_maker_73 ?_
        refine lv_iload hx hb dX7_maker_76 (lv_at hl 7 rfl) ?_
        obtain ⟨hi, hw⟩ := hw
        refine va_iald hx hb hK hP 2 0 wM_2 rfl hi dX7_maker_78 ?_
        refine lv_iload_n hx hb dX7_maker_79 rfl (lv_at hl 1 rfl) ?_
        refine lv_icmp_ne (tgt := 154) hx hb dX7_maker_80 (by decide) (fun hc => ?_) (fun hc => ?_)
        · replace hw := And.right hw hc
          refine lv_iinc (v := v7 + (1 : Int32)) (lv' := [(7, .int (v7 + (1 : Int32))), (0, .ref (h 0)), (1, .int v1), (2, .int v2), (3, .int v3), (4, .int v4), (5, .int v5), (6, .int v6)]) hx hb dX7_maker_154 hl (k := 7) rfl rfl (by decide) rfl (fun ls hl => ?_)
          refine lv_goto (tgt := 63) hx hb dX7_maker_157 (by decide) ?_
          exact i63 v5 v6 (v7 + (1 : Int32)) _ _ _ (lv_sub hl [1, 2, 3, 4, 5, 6, 7, 0] rfl) hP hS hw
        · replace hw := And.left hw hc
          refine lv_aload_n hx hb dX7_maker_83 rfl (lv_at hl 0 rfl) ?_
          refine lv_iload hx hb dX7_maker_84 (lv_at hl 7 rfl) ?_
          refine lv_iload_n hx hb dX7_maker_86 rfl (lv_at hl 1 rfl) ?_
          refine xVi0 (As := [.int v7, .int v1]) (rest := []) hst hE hP hS ⟨hx, hb, hml, hown, hts⟩ (va_recv hK hP (ci := 7) (q := (RX7, TX7, 28)) rfl wM_0) (mX7_isBooked l D h cI cJ hh S L v7 v1 _ hw) (cwV 2 hts gX7_maker_X7_isBooked rfl rfl rfl (by decide +kernel) ⟨Nat.le_of_ble_eq_true rfl, Nat.le_of_ble_eq_true rfl⟩) rfl hl.1 rfl (Nat.le_of_ble_eq_true rfl) dX7_maker_87 ⟨Nat.zero_le _, Nat.zero_le _⟩ (fun r87 H locs hw hP hS => ?_)
          refine lv_if_eq (tgt := 154) hx hb dX7_maker_90 (by decide) (fun hc => ?_) (fun hc => ?_)
          · replace hw := And.left hw hc
            refine lv_iinc (v := v7 + (1 : Int32)) (lv' := [(7, .int (v7 + (1 : Int32))), (0, .ref (h 0)), (1, .int v1), (2, .int v2), (3, .int v3), (4, .int v4), (5, .int v5), (6, .int v6)]) hx hb dX7_maker_154 hl (k := 7) rfl rfl (by decide) rfl (fun ls hl => ?_)
            refine lv_goto (tgt := 63) hx hb dX7_maker_157 (by decide) ?_
            exact i63 v5 v6 (v7 + (1 : Int32)) _ _ _ (lv_sub hl [1, 2, 3, 4, 5, 6, 7, 0] rfl) hP hS hw
          · replace hw := And.right hw hc
            refine lv_aload_n hx hb dX7_maker_93 rfl (lv_at hl 0 rfl) ?_
            refine lv_iload_n hx hb dX7_maker_94 rfl (lv_at hl 1 rfl) ?_
            refine lv_iload_n hx hb dX7_maker_95 rfl (lv_at hl 1 rfl) ?_
            refine lv_iload_n hx hb dX7_maker_96 rfl (lv_at hl 2 rfl) ?_
            refine lv_iload hx hb dX7_maker_97 (lv_at hl 7 rfl) ?_
            refine xVi0 (As := [.int v1, .int v1, .int v2, .int v7]) (rest := []) hst hE hP hS ⟨hx, hb, hml, hown, hts⟩ (va_recv hK hP (ci := 7) (q := (RX7, TX7, 28)) rfl wM_0) (mX7_partsOf l D h cI cJ hh S L v1 v1 v2 v7 _ hw) (cwV 4 hts gX7_maker_X7_partsOf rfl rfl rfl (by decide +kernel) ⟨Nat.le_of_ble_eq_true rfl, Nat.le_of_ble_eq_true rfl⟩) rfl hl.1 rfl (Nat.le_of_ble_eq_true rfl) dX7_maker_99 ⟨Nat.zero_le _, Nat.zero_le _⟩ (fun r99 H locs hw hP hS => ?_)
            refine lv_iload hx hb dX7_maker_102 (lv_at hl 4 rfl) ?_
            refine lv_isub hx hb dX7_maker_104 ?_
            refine lv_istore (lv' := [(8, .int (r99 - v4)), (0, .ref (h 0)), (1, .int v1), (2, .int v2), (3, .int v3), (4, .int v4), (5, .int v5), (6, .int v6), (7, .int v7)]) hx hb dX7_maker_105 hl (by decide) rfl (fun ls hl => ?_)
            refine lv_iload hx hb dX7_maker_107 (lv_at hl 0 rfl) ?_
            refine lv_if_ge (tgt := 118) hx hb dX7_maker_109 (by decide) (fun hc => ?_) (fun hc => ?_)
            · replace hw := And.left hw hc
              refine lv_iload hx hb dX7_maker_118 (lv_at hl 0 rfl) ?_
              exact b120 v5 v6 v7 (r99 - v4) _ _ _ (lv_sub hl [1, 2, 3, 4, 5, 6, 7, 8] rfl) hP hS hw
            · replace hw := And.right hw hc
              refine lv_iload hx hb dX7_maker_112 (lv_at hl 0 rfl) ?_
              refine lv_ineg hx hb dX7_maker_114 ?_
              refine lv_goto (tgt := 120) hx hb dX7_maker_115 (by decide) ?_
              exact b120 v5 v6 v7 (-(r99 - v4)) _ _ _ (lv_sub hl [1, 2, 3, 4, 5, 6, 7, 8] rfl) hP hS hw
  unfold kX7_maker at hw
  refine lv_iload_n hx hb dX7_maker_0 rfl (lv_at hl 1 rfl) ?_
  refine xSi0 (As := [.int v1]) (rest := []) hst hE hP hS ⟨hx, hb, hml, hown, hts⟩ (mX7_isYear l D h cI cJ hh S L v1 _ hw) (va_cwS 1 hts gX7_maker_X7_isYear rfl rfl rfl (by decide +kernel) ⟨Nat.le_of_ble_eq_true rfl, Nat.le_of_ble_eq_true rfl⟩) rfl hl.1 rfl (Nat.le_of_ble_eq_true rfl) dX7_maker_1 ⟨Nat.zero_le _, Nat.zero_le _⟩ (fun r1 H locs hw hP hS => ?_)
  refine lv_if_eq (tgt := 24) hx hb dX7_maker_4 (by decide) (fun hc => ?_) (fun hc => ?_)
  · replace hw := And.left hw hc
    refine lv_iconst (v := (-1 : Int32)) hx hb dX7_maker_24 (by decide) ?_
    exact hret _ _ _ _ _ hP hS hw dX7_maker_25
  · replace hw := And.right hw hc
    refine lv_iload_n hx hb dX7_maker_7 rfl (lv_at hl 2 rfl) ?_
    refine xSi0 (As := [.int v2]) (rest := []) hst hE hP hS ⟨hx, hb, hml, hown, hts⟩ (mX7_isTop l D h cI cJ hh S L v2 _ hw) (va_cwS 1 hts gX7_maker_X7_isTop rfl rfl rfl (by decide +kernel) ⟨Nat.le_of_ble_eq_true rfl, Nat.le_of_ble_eq_true rfl⟩) rfl hl.1 rfl (Nat.le_of_ble_eq_true rfl) dX7_maker_8 ⟨Nat.zero_le _, Nat.zero_le _⟩ (fun r8 H locs hw hP hS => ?_)
    refine lv_if_eq (tgt := 24) hx hb dX7_maker_11 (by decide) (fun hc => ?_) (fun hc => ?_)
    · replace hw := And.left hw hc
      refine lv_iconst (v := (-1 : Int32)) hx hb dX7_maker_24 (by decide) ?_
      exact hret _ _ _ _ _ hP hS hw dX7_maker_25
    · replace hw := And.right hw hc
      refine lv_iload_n hx hb dX7_maker_14 rfl (lv_at hl 3 rfl) ?_
      refine lv_i2l hx hb dX7_maker_15 rfl ?_
      refine lv_lconst (v := (0 : Int64)) hx hb dX7_maker_16 (by decide) ?_
      refine lv_lconst (v := (1 : Int64)) hx hb dX7_maker_17 (by decide) ?_
      refine xSi0 (As := [.long v3.toInt64, .long (0 : Int64), .long (1 : Int64)]) (rest := []) hst hE hP hS ⟨hx, hb, hml, hown, hts⟩ (mX7_in l D h cI cJ hh S L v3.toInt64 (0 : Int64) (1 : Int64) _ hw) (va_cwS 3 hts gX7_maker_X7_in rfl rfl rfl (by decide +kernel) ⟨Nat.le_of_ble_eq_true rfl, Nat.le_of_ble_eq_true rfl⟩) rfl hl.1 rfl (Nat.le_of_ble_eq_true rfl) dX7_maker_18 ⟨Nat.zero_le _, Nat.zero_le _⟩ (fun r18 H locs hw hP hS => ?_)
      refine lv_if_ne (tgt := 26) hx hb dX7_maker_21 (by decide) (fun hc => ?_) (fun hc => ?_)
      · replace hw := And.right hw hc
        refine lv_aload_n hx hb dX7_maker_26 rfl (lv_at hl 0 rfl) ?_
        refine lv_iload_n hx hb dX7_maker_27 rfl (lv_at hl 1 rfl) ?_
        refine lv_iload_n hx hb dX7_maker_28 rfl (lv_at hl 1 rfl) ?_
        refine lv_bipush (v := (-4 : Int32)) hx hb dX7_maker_29 (by decide) ?_
        refine xVl0 (As := [.int v1, .int v1, .int (-4 : Int32)]) (rest := []) hst hE hP hS ⟨hx, hb, hml, hown, hts⟩ (va_recv hK hP (ci := 7) (q := (RX7, TX7, 28)) rfl wM_0) (mX7_totalOf l D h cI cJ hh S L v1 v1 (-4 : Int32) _ hw) (cwV 3 hts gX7_maker_X7_totalOf rfl rfl rfl (by decide +kernel) ⟨Nat.le_of_ble_eq_true rfl, Nat.le_of_ble_eq_true rfl⟩) rfl hl.1 rfl (Nat.le_of_ble_eq_true rfl) dX7_maker_31 ⟨Nat.zero_le _, Nat.zero_le _⟩ (fun r31 H locs hw hP hS => ?_)
        refine lv_lconst (v := (0 : Int64)) hx hb dX7_maker_34 (by decide) ?_
        refine W.lcmp hx hb dX7_maker_35 ?_
        refine lv_if_ne (tgt := 42) hx hb dX7_maker_36 (by decide) (fun hc => ?_) (fun hc => ?_)
        · replace hw := And.right hw (fun q => hc ((lg_cmp_eq _ _).mpr q))
          refine lv_aload_n hx hb dX7_maker_42 rfl (lv_at hl 0 rfl) ?_
          refine lv_iload_n hx hb dX7_maker_43 rfl (lv_at hl 1 rfl) ?_
          refine lv_iload_n hx hb dX7_maker_44 rfl (lv_at hl 1 rfl) ?_
          refine lv_iload_n hx hb dX7_maker_45 rfl (lv_at hl 2 rfl) ?_
          refine lv_bipush (v := (-4 : Int32)) hx hb dX7_maker_46 (by decide) ?_
          refine xVi0 (As := [.int v1, .int v1, .int v2, .int (-4 : Int32)]) (rest := []) hst hE hP hS ⟨hx, hb, hml, hown, hts⟩ (va_recv hK hP (ci := 7) (q := (RX7, TX7, 28)) rfl wM_0) (mX7_partsOf l D h cI cJ hh S L v1 v1 v2 (-4 : Int32) _ hw) (cwV 4 hts gX7_maker_X7_partsOf rfl rfl rfl (by decide +kernel) ⟨Nat.le_of_ble_eq_true rfl, Nat.le_of_ble_eq_true rfl⟩) rfl hl.1 rfl (Nat.le_of_ble_eq_true rfl) dX7_maker_48 ⟨Nat.zero_le _, Nat.zero_le _⟩ (fun r48 H locs hw hP hS => ?_)
          refine lv_istore (lv' := [(4, .int r48), (0, .ref (h 0)), (1, .int v1), (2, .int v2), (3, .int v3)]) hx hb dX7_maker_51 hl (by decide) rfl (fun ls hl => ?_)
          refine lv_bipush (v := (-4 : Int32)) hx hb dX7_maker_53 (by decide) ?_
          refine lv_istore (lv' := [(5, .int (-4 : Int32)), (4, .int r48), (0, .ref (h 0)), (1, .int v1), (2, .int v2), (3, .int v3)]) hx hb dX7_maker_55 hl (by decide) rfl (fun ls hl => ?_)
          refine lv_iconst (v := (-1 : Int32)) hx hb dX7_maker_57 (by decide) ?_
          refine lv_istore (lv' := [(6, .int (-1 : Int32)), (5, .int (-4 : Int32)), (4, .int r48), (0, .ref (h 0)), (1, .int v1), (2, .int v2), (3, .int v3)]) hx hb dX7_maker_58 hl (by decide) rfl (fun ls hl => ?_)
          refine lv_iconst (v := (0 : Int32)) hx hb dX7_maker_60 (by decide) ?_
          refine lv_istore (lv' := [(7, .int (0 : Int32)), (6, .int (-1 : Int32)), (5, .int (-4 : Int32)), (4, .int r48), (0, .ref (h 0)), (1, .int v1), (2, .int v2), (3, .int v3)]) hx hb dX7_maker_61 hl (by decide) rfl (fun ls hl => ?_)
          obtain ⟨n63, hw⟩ := hw
          exact b63 r48 n63 (-4 : Int32) (-1 : Int32) (0 : Int32) _ _ _ (lv_sub hl [4, 5, 6, 7, 3, 2, 1, 0] rfl) hP hS hw
        · replace hw := And.left hw ((lg_cmp_eq _ _).mp hc)
          refine lv_bipush (v := (-4 : Int32)) hx hb dX7_maker_39 (by decide) ?_
          exact hret _ _ _ _ _ hP hS hw dX7_maker_41
      · replace hw := And.left hw hc
        refine lv_iconst (v := (-1 : Int32)) hx hb dX7_maker_24 (by decide) ?_
        exact hret _ _ _ _ _ hP hS hw dX7_maker_25
abbrev rX7_span : Room := { frames := 5, cells := 0, slots := 0, locals := 131 }
set_option maxHeartbeats 4000000 in
set_option maxRecDepth 100000 in
theorem mX7_span (l : Launch) (D : va_G) (h : Nat → Nat) (cI cJ : ClassId) (hh : xdis 22 h) (S : SX) (L : LX) (v1 : Int32) (v2 : Int32) (v3 : Int32) (post : Int32 → Prop) (hw : kX7_span S L v1 v2 v3 post) : Met l yX7_span wsX7_span rX7_span (xPre D (wM h cI cJ) (mE D cI cJ) S L [.ref (h 0), .int v1, .int v2, .int v3]) (va_Qi (fun (r : Int32) (u : SX × LX) => post r ∧ u.1 = S ∧ u.2 = L) (xB D (wM h cI cJ)) (xA 22 h)) 0 0 (xA 22 h) := by
  refine Met.ofW (cc := cX7_span) (maxL := 7) (ret := (some .int)) (by decide) rfl ?_
  intro p e s m args below meth c s₁ B hml hv
  obtain ⟨hargs, hP, hE⟩ := hv
  have hx := B.exec
  have hb := B.bytes
  have hr := B.returns
  have hlocks := B.notSynchronized
  have hts := atoms_spec (ws := wsX7_span) B.pre
  have hown : s.vm.findClass RX7 = some m.cls := findClass_of_methodNamed B.named
  have hS : va_S (xA 22 h) s.heap s.heap [] := va_S.rf
  have hD : ∀ (S : SX) (L : LX), va_D (xA 22 h) (wM h cI cJ S L) := fun S L => wM_D hh cI cJ S L
  have hK := id hE
  have hst : xSt (xA 22 h) (mE D cI cJ) := mE_st D _ cI cJ
  have f0 := hts (.fieldLink RX7 87 "BookOfWillsModel" "wills" "I") (by decide +kernel)
  have inX7 : ∀ w ∈ u_ws RX7 TX7 28, w ∈ wsX7_span := fun w hw9 => List.mem_cons_of_mem _ (List.mem_append_right _ hw9)
  have f2 := hts (.fieldLink RX7 18 "BookOfWillsModel" "yearOf" "[I") (by decide +kernel)
  have hl := lv_entry ([.ref (h 0), .int v1, .int v2, .int v3]) (n := 7) (Nat.le_of_ble_eq_true rfl)
  have hen : entryFrame m args 7 = F0 m 0 ((lg_sl ([.ref (h 0), .int v1, .int v2, .int v3]) ++ List.replicate (7 - (lg_sl ([.ref (h 0), .int v1, .int v2, .int v3])).length) Slot.unset).toArray) [] := by rw [hargs]; exact lg_entry_eq m _ _
  rw [hen]
  generalize (lg_sl ([.ref (h 0), .int v1, .int v2, .int v3]) ++ List.replicate (7 - (lg_sl ([.ref (h 0), .int v1, .int v2, .int v3])).length) Slot.unset).toArray = ls at hl ⊢
  have hl : lv_has ls 7 [(0, .ref (h 0)), (1, .int v1), (2, .int v2), (3, .int v3)] := hl
  change W p l e rX7_span s m args below meth c s.heap [] 0 0 (MQ below (va_Qi (fun (r : Int32) (u : SX × LX) => post r ∧ u.1 = S ∧ u.2 = L) (xB D (wM h cI cJ)) (xA 22 h)) args s 0 0 (xA 22 h)) (F0 m 0 ls [])
  have hret : ∀ (r : Int32) (H : Heap) (locs : List Loc) (ls : Array Slot) (pc : Nat), va_P D vwCl (wM h cI cJ S L) H → va_S (xA 22 h) s.heap H locs → post r → decode cX7_span pc = .ok (.ireturn, 1) → W p l e rX7_span s m args below meth c H locs 0 0 (MQ below (va_Qi (fun (r : Int32) (u : SX × LX) => post r ∧ u.1 = S ∧ u.2 = L) (xB D (wM h cI cJ)) (xA 22 h)) args s 0 0 (xA 22 h)) (F0 m pc ls [.int r]) := fun r H locs ls pc hP hS hw hd => W.iret hx hb hr (fun t ht hW => ⟨⟨r, (S, L), rfl, ⟨hw, rfl, rfl⟩, show va_P D vwCl (wM h cI cJ S L) t.heap by rw [ht]; exact hP⟩, hS.F ht⟩) hS.2.2 hd
  generalize MQ below (va_Qi (fun (r : Int32) (u : SX × LX) => post r ∧ u.1 = S ∧ u.2 = L) (xB D (wM h cI cJ)) (xA 22 h)) args s 0 0 (xA 22 h) = Q at hret ⊢
  have b56 : ∀  (n56 : Nat) (v4 : Int32) (v5 : Int32) (H : Heap) (locs : List Loc) (ls : Array Slot), lv_has ls 7 [(0, .ref (h 0)), (1, .int v1), (2, .int v2), (3, .int v3), (4, .int v4), (5, .int v5)] → va_P D vwCl (wM h cI cJ S L) H → va_S (xA 22 h) s.heap H locs → kX7_span_b56 S L v1 v2 v3 post n56 v4 v5 → W p l e rX7_span s m args below meth c H locs 0 0 Q (F0 m 56 ls []) := by
    intro n56
    induction n56 with
    | zero => intro v4 v5 H locs ls hl hP hS hw; exact absurd hw id
    | succ n56 i56 =>
      intro v4 v5 H locs ls hl hP hS hw
      unfold kX7_span_b56 at hw
      refine lv_iload hx hb dX7_span_56 (lv_at hl 5 rfl) ?_
      refine lv_aload_n hx hb dX7_span_58 rfl (lv_at hl 0 rfl) ?_
      refine va_get (D := D) (ci := 7) (v := .int (S 0 2)) (C := RX7) (T := TX7) (N := 28) hx hb hts inX7 hown hK hP 0 wM_0 rfl 3 (by decide) f0 (fun _ h9 => h9) rfl dX7_span_59 ?_
      refine lv_icmp_ge (tgt := 133) hx hb dX7_span_62 (by decide) (fun hc => ?_) (fun hc => ?_)
      · replace hw := And.left hw hc
        refine lv_iload hx hb dX7_span_133 (lv_at hl 4 rfl) ?_
        exact hret _ _ _ _ _ hP hS hw dX7_span_135
      · replace hw := And.right hw hc
        refine lv_aload_n hx hb dX7_span_65 rfl (lv_at hl 0 rfl) ?_
        refine va_get (D := D) (ci := 7) (v := .ref (h 2)) (C := RX7) (T := TX7) (N := 28) hx hb hts inX7 hown hK hP 0 wM_0 rfl 4 (by decide) f2 (fun _ h9 => h9) rfl dX7_span_66 ?_
        refine lv_iload hx hb dX7_span_69 (lv_at hl 5 rfl) ?_
        obtain ⟨hi, hw⟩ := hw
        refine va_iald hx hb hK hP 2 0 wM_2 rfl hi dX7_span_71 ?_
        refine lv_iload_n hx hb dX7_span_72 rfl (lv_at hl 1 rfl) ?_
        refine lv_icmp_ne (tgt := 127) hx hb dX7_span_73 (by decide) (fun hc => ?_) (fun hc => ?_)
        · replace hw := And.right hw hc
          refine lv_iinc (v := v5 + (1 : Int32)) (lv' := [(5, .int (v5 + (1 : Int32))), (0, .ref (h 0)), (1, .int v1), (2, .int v2), (3, .int v3), (4, .int v4)]) hx hb dX7_span_127 hl (k := 5) rfl rfl (by decide) rfl (fun ls hl => ?_)
          refine lv_goto (tgt := 56) hx hb dX7_span_130 (by decide) ?_
          exact i56 v4 (v5 + (1 : Int32)) _ _ _ (lv_sub hl [1, 2, 3, 4, 5, 0] rfl) hP hS hw
        · replace hw := And.left hw hc
          refine lv_aload_n hx hb dX7_span_76 rfl (lv_at hl 0 rfl) ?_
          refine lv_iload hx hb dX7_span_77 (lv_at hl 5 rfl) ?_
          refine lv_iload_n hx hb dX7_span_79 rfl (lv_at hl 1 rfl) ?_
          refine xVi0 (As := [.int v5, .int v1]) (rest := []) hst hE hP hS ⟨hx, hb, hml, hown, hts⟩ (va_recv hK hP (ci := 7) (q := (RX7, TX7, 28)) rfl wM_0) (mX7_isBooked l D h cI cJ hh S L v5 v1 _ hw) (cwV 2 hts gX7_span_X7_isBooked rfl rfl rfl (by decide +kernel) ⟨Nat.le_of_ble_eq_true rfl, Nat.le_of_ble_eq_true rfl⟩) rfl hl.1 rfl (Nat.le_of_ble_eq_true rfl) dX7_span_80 ⟨Nat.zero_le _, Nat.zero_le _⟩ (fun r80 H locs hw hP hS => ?_)
          refine lv_if_eq (tgt := 127) hx hb dX7_span_83 (by decide) (fun hc => ?_) (fun hc => ?_)
          · replace hw := And.left hw hc
            refine lv_iinc (v := v5 + (1 : Int32)) (lv' := [(5, .int (v5 + (1 : Int32))), (0, .ref (h 0)), (1, .int v1), (2, .int v2), (3, .int v3), (4, .int v4)]) hx hb dX7_span_127 hl (k := 5) rfl rfl (by decide) rfl (fun ls hl => ?_)
            refine lv_goto (tgt := 56) hx hb dX7_span_130 (by decide) ?_
            exact i56 v4 (v5 + (1 : Int32)) _ _ _ (lv_sub hl [1, 2, 3, 4, 5, 0] rfl) hP hS hw
          · replace hw := And.right hw hc
            refine lv_aload_n hx hb dX7_span_86 rfl (lv_at hl 0 rfl) ?_
            refine lv_iload_n hx hb dX7_span_87 rfl (lv_at hl 1 rfl) ?_
            refine lv_iload_n hx hb dX7_span_88 rfl (lv_at hl 1 rfl) ?_
            refine lv_iload_n hx hb dX7_span_89 rfl (lv_at hl 2 rfl) ?_
            refine lv_iload hx hb dX7_span_90 (lv_at hl 5 rfl) ?_
            refine xVi0 (As := [.int v1, .int v1, .int v2, .int v5]) (rest := []) hst hE hP hS ⟨hx, hb, hml, hown, hts⟩ (va_recv hK hP (ci := 7) (q := (RX7, TX7, 28)) rfl wM_0) (mX7_partsOf l D h cI cJ hh S L v1 v1 v2 v5 _ hw) (cwV 4 hts gX7_span_X7_partsOf rfl rfl rfl (by decide +kernel) ⟨Nat.le_of_ble_eq_true rfl, Nat.le_of_ble_eq_true rfl⟩) rfl hl.1 rfl (Nat.le_of_ble_eq_true rfl) dX7_span_92 ⟨Nat.zero_le _, Nat.zero_le _⟩ (fun r92 H locs hw hP hS => ?_)
            refine lv_istore (lv' := [(6, .int r92), (0, .ref (h 0)), (1, .int v1), (2, .int v2), (3, .int v3), (4, .int v4), (5, .int v5)]) hx hb dX7_span_95 hl (by decide) rfl (fun ls hl => ?_)
            refine lv_iload_n hx hb dX7_span_97 rfl (lv_at hl 4 rfl) ?_
            refine lv_if_ne (tgt := 111) hx hb dX7_span_98 (by decide) (fun hc => ?_) (fun hc => ?_)
            · replace hw := And.right hw hc
              refine lv_iload hx hb dX7_span_111 (lv_at hl 0 rfl) ?_
              refine lv_iload hx hb dX7_span_113 (lv_at hl 5 rfl) ?_
              refine lv_icmp_le (tgt := 123) hx hb dX7_span_115 (by decide) (fun hc => ?_) (fun hc => ?_)
              · replace hw := And.left hw hc
                refine lv_iload hx hb dX7_span_123 (lv_at hl 5 rfl) ?_
                refine lv_istore (lv' := [(4, .int v4), (6, .int r92), (0, .ref (h 0)), (1, .int v1), (2, .int v2), (3, .int v3), (5, .int v5)]) hx hb dX7_span_125 hl (by decide) rfl (fun ls hl => ?_)
                refine lv_iinc (v := v5 + (1 : Int32)) (lv' := [(5, .int (v5 + (1 : Int32))), (4, .int v4), (6, .int r92), (0, .ref (h 0)), (1, .int v1), (2, .int v2), (3, .int v3)]) hx hb dX7_span_127 hl (k := 6) rfl rfl (by decide) rfl (fun ls hl => ?_)
                refine lv_goto (tgt := 56) hx hb dX7_span_130 (by decide) ?_
                exact i56 v4 (v5 + (1 : Int32)) _ _ _ (lv_sub hl [3, 4, 5, 6, 1, 0] rfl) hP hS hw
              · replace hw := And.right hw hc
                refine lv_iload hx hb dX7_span_118 (lv_at hl 0 rfl) ?_
                refine lv_goto (tgt := 125) hx hb dX7_span_120 (by decide) ?_
                refine lv_istore (lv' := [(4, .int r92), (6, .int r92), (0, .ref (h 0)), (1, .int v1), (2, .int v2), (3, .int v3), (5, .int v5)]) hx hb dX7_span_125 hl (by decide) rfl (fun ls hl => ?_)
                refine lv_iinc (v := v5 + (1 : Int32)) (lv' := [(5, .int (v5 + (1 : Int32))), (4, .int r92), (6, .int r92), (0, .ref (h 0)), (1, .int v1), (2, .int v2), (3, .int v3)]) hx hb dX7_span_127 hl (k := 6) rfl rfl (by decide) rfl (fun ls hl => ?_)
                refine lv_goto (tgt := 56) hx hb dX7_span_130 (by decide) ?_
                exact i56 r92 (v5 + (1 : Int32)) _ _ _ (lv_sub hl [3, 4, 5, 6, 1, 0] rfl) hP hS hw
            · replace hw := And.left hw hc
              refine lv_iload hx hb dX7_span_101 (lv_at hl 0 rfl) ?_
              refine lv_iload hx hb dX7_span_103 (lv_at hl 5 rfl) ?_
              refine lv_icmp_ge (tgt := 123) hx hb dX7_span_105 (by decide) (fun hc => ?_) (fun hc => ?_)
              · replace hw := And.left hw hc
                refine lv_iload hx hb dX7_span_123 (lv_at hl 5 rfl) ?_
                refine lv_istore (lv' := [(4, .int v4), (6, .int r92), (0, .ref (h 0)), (1, .int v1), (2, .int v2), (3, .int v3), (5, .int v5)]) hx hb dX7_span_125 hl (by decide) rfl (fun ls hl => ?_)
                refine lv_iinc (v := v5 + (1 : Int32)) (lv' := [(5, .int (v5 + (1 : Int32))), (4, .int v4), (6, .int r92), (0, .ref (h 0)), (1, .int v1), (2, .int v2), (3, .int v3)]) hx hb dX7_span_127 hl (k := 6) rfl rfl (by decide) rfl (fun ls hl => ?_)
                refine lv_goto (tgt := 56) hx hb dX7_span_130 (by decide) ?_
                exact i56 v4 (v5 + (1 : Int32)) _ _ _ (lv_sub hl [3, 4, 5, 6, 1, 0] rfl) hP hS hw
              · replace hw := And.right hw hc
                refine lv_goto (tgt := 118) hx hb dX7_span_108 (by decide) ?_
                refine lv_iload hx hb dX7_span_118 (lv_at hl 0 rfl) ?_
                refine lv_goto (tgt := 125) hx hb dX7_span_120 (by decide) ?_
                refine lv_istore (lv' := [(4, .int r92), (6, .int r92), (0, .ref (h 0)), (1, .int v1), (2, .int v2), (3, .int v3), (5, .int v5)]) hx hb dX7_span_125 hl (by decide) rfl (fun ls hl => ?_)
                refine lv_iinc (v := v5 + (1 : Int32)) (lv' := [(5, .int (v5 + (1 : Int32))), (4, .int r92), (6, .int r92), (0, .ref (h 0)), (1, .int v1), (2, .int v2), (3, .int v3)]) hx hb dX7_span_127 hl (k := 6) rfl rfl (by decide) rfl (fun ls hl => ?_)
                refine lv_goto (tgt := 56) hx hb dX7_span_130 (by decide) ?_
                exact i56 r92 (v5 + (1 : Int32)) _ _ _ (lv_sub hl [3, 4, 5, 6, 1, 0] rfl) hP hS hw
  unfold kX7_span at hw
  refine lv_iload_n hx hb dX7_span_0 rfl (lv_at hl 1 rfl) ?_
  refine xSi0 (As := [.int v1]) (rest := []) hst hE hP hS ⟨hx, hb, hml, hown, hts⟩ (mX7_isYear l D h cI cJ hh S L v1 _ hw) (va_cwS 1 hts gX7_span_X7_isYear rfl rfl rfl (by decide +kernel) ⟨Nat.le_of_ble_eq_true rfl, Nat.le_of_ble_eq_true rfl⟩) rfl hl.1 rfl (Nat.le_of_ble_eq_true rfl) dX7_span_1 ⟨Nat.zero_le _, Nat.zero_le _⟩ (fun r1 H locs hw hP hS => ?_)
  refine lv_if_eq (tgt := 24) hx hb dX7_span_4 (by decide) (fun hc => ?_) (fun hc => ?_)
  · replace hw := And.left hw hc
    refine lv_iconst (v := (-1 : Int32)) hx hb dX7_span_24 (by decide) ?_
    exact hret _ _ _ _ _ hP hS hw dX7_span_25
  · replace hw := And.right hw hc
    refine lv_iload_n hx hb dX7_span_7 rfl (lv_at hl 2 rfl) ?_
    refine xSi0 (As := [.int v2]) (rest := []) hst hE hP hS ⟨hx, hb, hml, hown, hts⟩ (mX7_isTop l D h cI cJ hh S L v2 _ hw) (va_cwS 1 hts gX7_span_X7_isTop rfl rfl rfl (by decide +kernel) ⟨Nat.le_of_ble_eq_true rfl, Nat.le_of_ble_eq_true rfl⟩) rfl hl.1 rfl (Nat.le_of_ble_eq_true rfl) dX7_span_8 ⟨Nat.zero_le _, Nat.zero_le _⟩ (fun r8 H locs hw hP hS => ?_)
    refine lv_if_eq (tgt := 24) hx hb dX7_span_11 (by decide) (fun hc => ?_) (fun hc => ?_)
    · replace hw := And.left hw hc
      refine lv_iconst (v := (-1 : Int32)) hx hb dX7_span_24 (by decide) ?_
      exact hret _ _ _ _ _ hP hS hw dX7_span_25
    · replace hw := And.right hw hc
      refine lv_iload_n hx hb dX7_span_14 rfl (lv_at hl 3 rfl) ?_
      refine lv_i2l hx hb dX7_span_15 rfl ?_
      refine lv_lconst (v := (0 : Int64)) hx hb dX7_span_16 (by decide) ?_
      refine lv_lconst (v := (1 : Int64)) hx hb dX7_span_17 (by decide) ?_
      refine xSi0 (As := [.long v3.toInt64, .long (0 : Int64), .long (1 : Int64)]) (rest := []) hst hE hP hS ⟨hx, hb, hml, hown, hts⟩ (mX7_in l D h cI cJ hh S L v3.toInt64 (0 : Int64) (1 : Int64) _ hw) (va_cwS 3 hts gX7_span_X7_in rfl rfl rfl (by decide +kernel) ⟨Nat.le_of_ble_eq_true rfl, Nat.le_of_ble_eq_true rfl⟩) rfl hl.1 rfl (Nat.le_of_ble_eq_true rfl) dX7_span_18 ⟨Nat.zero_le _, Nat.zero_le _⟩ (fun r18 H locs hw hP hS => ?_)
      refine lv_if_ne (tgt := 26) hx hb dX7_span_21 (by decide) (fun hc => ?_) (fun hc => ?_)
      · replace hw := And.right hw hc
        refine lv_aload_n hx hb dX7_span_26 rfl (lv_at hl 0 rfl) ?_
        refine lv_iload_n hx hb dX7_span_27 rfl (lv_at hl 1 rfl) ?_
        refine lv_iload_n hx hb dX7_span_28 rfl (lv_at hl 1 rfl) ?_
        refine lv_bipush (v := (-4 : Int32)) hx hb dX7_span_29 (by decide) ?_
        refine xVl0 (As := [.int v1, .int v1, .int (-4 : Int32)]) (rest := []) hst hE hP hS ⟨hx, hb, hml, hown, hts⟩ (va_recv hK hP (ci := 7) (q := (RX7, TX7, 28)) rfl wM_0) (mX7_totalOf l D h cI cJ hh S L v1 v1 (-4 : Int32) _ hw) (cwV 3 hts gX7_span_X7_totalOf rfl rfl rfl (by decide +kernel) ⟨Nat.le_of_ble_eq_true rfl, Nat.le_of_ble_eq_true rfl⟩) rfl hl.1 rfl (Nat.le_of_ble_eq_true rfl) dX7_span_31 ⟨Nat.zero_le _, Nat.zero_le _⟩ (fun r31 H locs hw hP hS => ?_)
        refine lv_lconst (v := (0 : Int64)) hx hb dX7_span_34 (by decide) ?_
        refine W.lcmp hx hb dX7_span_35 ?_
        refine lv_if_ne (tgt := 42) hx hb dX7_span_36 (by decide) (fun hc => ?_) (fun hc => ?_)
        · replace hw := And.right hw (fun q => hc ((lg_cmp_eq _ _).mpr q))
          refine lv_aload_n hx hb dX7_span_42 rfl (lv_at hl 0 rfl) ?_
          refine lv_iload_n hx hb dX7_span_43 rfl (lv_at hl 1 rfl) ?_
          refine lv_iload_n hx hb dX7_span_44 rfl (lv_at hl 1 rfl) ?_
          refine lv_iload_n hx hb dX7_span_45 rfl (lv_at hl 2 rfl) ?_
          refine lv_bipush (v := (-4 : Int32)) hx hb dX7_span_46 (by decide) ?_
          refine xVi0 (As := [.int v1, .int v1, .int v2, .int (-4 : Int32)]) (rest := []) hst hE hP hS ⟨hx, hb, hml, hown, hts⟩ (va_recv hK hP (ci := 7) (q := (RX7, TX7, 28)) rfl wM_0) (mX7_partsOf l D h cI cJ hh S L v1 v1 v2 (-4 : Int32) _ hw) (cwV 4 hts gX7_span_X7_partsOf rfl rfl rfl (by decide +kernel) ⟨Nat.le_of_ble_eq_true rfl, Nat.le_of_ble_eq_true rfl⟩) rfl hl.1 rfl (Nat.le_of_ble_eq_true rfl) dX7_span_48 ⟨Nat.zero_le _, Nat.zero_le _⟩ (fun r48 H locs hw hP hS => ?_)
          refine lv_istore (lv' := [(4, .int r48), (0, .ref (h 0)), (1, .int v1), (2, .int v2), (3, .int v3)]) hx hb dX7_span_51 hl (by decide) rfl (fun ls hl => ?_)
          refine lv_iconst (v := (0 : Int32)) hx hb dX7_span_53 (by decide) ?_
          refine lv_istore (lv' := [(5, .int (0 : Int32)), (4, .int r48), (0, .ref (h 0)), (1, .int v1), (2, .int v2), (3, .int v3)]) hx hb dX7_span_54 hl (by decide) rfl (fun ls hl => ?_)
          obtain ⟨n56, hw⟩ := hw
          exact b56  n56 r48 (0 : Int32) _ _ _ (lv_sub hl [2, 3, 4, 5, 1, 0] rfl) hP hS hw
        · replace hw := And.left hw ((lg_cmp_eq _ _).mp hc)
          refine lv_bipush (v := (-4 : Int32)) hx hb dX7_span_39 (by decide) ?_
          exact hret _ _ _ _ _ hP hS hw dX7_span_41
      · replace hw := And.left hw hc
        refine lv_iconst (v := (-1 : Int32)) hx hb dX7_span_24 (by decide) ?_
        exact hret _ _ _ _ _ hP hS hw dX7_span_25
abbrev rX7_smooth : Room := { frames := 4, cells := 0, slots := 0, locals := 105 }
set_option maxHeartbeats 4000000 in
set_option maxRecDepth 100000 in
theorem mX7_smooth (l : Launch) (D : va_G) (h : Nat → Nat) (cI cJ : ClassId) (hh : xdis 22 h) (S : SX) (L : LX) (v1 : Int32) (v2 : Int32) (v3 : Int32) (post : Int32 → Prop) (hw : kX7_smooth S L v1 v2 v3 post) : Met l yX7_smooth wsX7_smooth rX7_smooth (xPre D (wM h cI cJ) (mE D cI cJ) S L [.ref (h 0), .int v1, .int v2, .int v3]) (va_Qi (fun (r : Int32) (u : SX × LX) => post r ∧ u.1 = S ∧ u.2 = L) (xB D (wM h cI cJ)) (xA 22 h)) 0 0 (xA 22 h) := by
  refine Met.ofW (cc := cX7_smooth) (maxL := 10) (ret := (some .int)) (by decide) rfl ?_
  intro p e s m args below meth c s₁ B hml hv
  obtain ⟨hargs, hP, hE⟩ := hv
  have hx := B.exec
  have hb := B.bytes
  have hr := B.returns
  have hlocks := B.notSynchronized
  have hts := atoms_spec (ws := wsX7_smooth) B.pre
  have hown : s.vm.findClass RX7 = some m.cls := findClass_of_methodNamed B.named
  have hS : va_S (xA 22 h) s.heap s.heap [] := va_S.rf
  have hD : ∀ (S : SX) (L : LX), va_D (xA 22 h) (wM h cI cJ S L) := fun S L => wM_D hh cI cJ S L
  have hK := id hE
  have hst : xSt (xA 22 h) (mE D cI cJ) := mE_st D _ cI cJ
  have f0 := hts (.constantLong RX7 190 (10)) (by decide +kernel)
  have f1 := hts (.constantLong RX7 200 (100000)) (by decide +kernel)
  have f2 := hts (.constantLong RX7 114 (3)) (by decide +kernel)
  have hl := lv_entry ([.ref (h 0), .int v1, .int v2, .int v3]) (n := 10) (Nat.le_of_ble_eq_true rfl)
  have hen : entryFrame m args 10 = F0 m 0 ((lg_sl ([.ref (h 0), .int v1, .int v2, .int v3]) ++ List.replicate (10 - (lg_sl ([.ref (h 0), .int v1, .int v2, .int v3])).length) Slot.unset).toArray) [] := by rw [hargs]; exact lg_entry_eq m _ _
  rw [hen]
  generalize (lg_sl ([.ref (h 0), .int v1, .int v2, .int v3]) ++ List.replicate (10 - (lg_sl ([.ref (h 0), .int v1, .int v2, .int v3])).length) Slot.unset).toArray = ls at hl ⊢
  have hl : lv_has ls 10 [(0, .ref (h 0)), (1, .int v1), (2, .int v2), (3, .int v3)] := hl
  change W p l e rX7_smooth s m args below meth c s.heap [] 0 0 (MQ below (va_Qi (fun (r : Int32) (u : SX × LX) => post r ∧ u.1 = S ∧ u.2 = L) (xB D (wM h cI cJ)) (xA 22 h)) args s 0 0 (xA 22 h)) (F0 m 0 ls [])
  have hret : ∀ (r : Int32) (H : Heap) (locs : List Loc) (ls : Array Slot) (pc : Nat), va_P D vwCl (wM h cI cJ S L) H → va_S (xA 22 h) s.heap H locs → post r → decode cX7_smooth pc = .ok (.ireturn, 1) → W p l e rX7_smooth s m args below meth c H locs 0 0 (MQ below (va_Qi (fun (r : Int32) (u : SX × LX) => post r ∧ u.1 = S ∧ u.2 = L) (xB D (wM h cI cJ)) (xA 22 h)) args s 0 0 (xA 22 h)) (F0 m pc ls [.int r]) := fun r H locs ls pc hP hS hw hd => W.iret hx hb hr (fun t ht hW => ⟨⟨r, (S, L), rfl, ⟨hw, rfl, rfl⟩, show va_P D vwCl (wM h cI cJ S L) t.heap by rw [ht]; exact hP⟩, hS.F ht⟩) hS.2.2 hd
  generalize MQ below (va_Qi (fun (r : Int32) (u : SX × LX) => post r ∧ u.1 = S ∧ u.2 = L) (xB D (wM h cI cJ)) (xA 22 h)) args s 0 0 (xA 22 h) = Q at hret ⊢
  have b37 : ∀  (n37 : Nat) (v4 : Int64) (v6 : Int64) (v8 : Int32) (H : Heap) (locs : List Loc) (ls : Array Slot), lv_has ls 10 [(0, .ref (h 0)), (1, .int v1), (2, .int v2), (3, .int v3), (4, .long v4), (6, .long v6), (8, .int v8)] → va_P D vwCl (wM h cI cJ S L) H → va_S (xA 22 h) s.heap H locs → kX7_smooth_b37 S L v1 v2 v3 post n37 v4 v6 v8 → W p l e rX7_smooth s m args below meth c H locs 0 0 Q (F0 m 37 ls []) := by
    intro n37
    induction n37 with
    | zero => intro v4 v6 v8 H locs ls hl hP hS hw; exact absurd hw id
    | succ n37 i37 =>
      have b81 : ∀ (v6 : Int64) (v8 : Int32) (v9 : Int32) (z0 : Int64) (z1 : Int64) (H : Heap) (locs : List Loc) (ls : Array Slot), lv_has ls 10 [(0, .ref (h 0)), (1, .int v1), (2, .int v2), (3, .int v3), (6, .long v6), (8, .int v8), (9, .int v9)] → va_P D vwCl (wM h cI cJ S L) H → va_S (xA 22 h) s.heap H locs → kX7_smooth_b81 S L v1 v2 v3 post (kX7_smooth_b37 S L v1 v2 v3 post n37) v6 v8 v9 z0 z1 → W p l e rX7_smooth s m args below meth c H locs 0 0 Q (F0 m 81 ls [.long z1, .long z0]) := by
        intro v6 v8 v9 z0 z1 H locs ls hl hP hS hw
        unfold kX7_smooth_b81 at hw
        refine lv_ladd hx hb dX7_smooth_81 ?_
        refine lv_lstore (lv' := [(4, .long (z0 + z1)), (0, .ref (h 0)), (1, .int v1), (2, .int v2), (3, .int v3), (6, .long v6), (8, .int v8), (9, .int v9)]) hx hb dX7_smooth_82 hl (by decide) rfl (fun ls hl => ?_)
        refine lv_lload hx hb dX7_smooth_84 (lv_at hl 5 rfl) ?_
        refine lv_iload hx hb dX7_smooth_86 (lv_at hl 7 rfl) ?_
        refine lv_if_eq (tgt := 108) hx hb dX7_smooth_88 (by decide) (fun hc => ?_) (fun hc => ?_)
        · replace hw := And.left hw hc
          refine lv_lconst (v := (0 : Int64)) hx hb dX7_smooth_108 (by decide) ?_
          refine lv_ladd hx hb dX7_smooth_109 ?_
          refine lv_lstore (lv' := [(6, .long (v6 + (0 : Int64))), (4, .long (z0 + z1)), (0, .ref (h 0)), (1, .int v1), (2, .int v2), (3, .int v3), (8, .int v8), (9, .int v9)]) hx hb dX7_smooth_110 hl (by decide) rfl (fun ls hl => ?_)
          refine lv_iinc (v := v8 + (1 : Int32)) (lv' := [(8, .int (v8 + (1 : Int32))), (6, .long (v6 + (0 : Int64))), (4, .long (z0 + z1)), (0, .ref (h 0)), (1, .int v1), (2, .int v2), (3, .int v3), (9, .int v9)]) hx hb dX7_smooth_112 hl (k := 6) rfl rfl (by decide) rfl (fun ls hl => ?_)
          refine lv_goto (tgt := 37) hx hb dX7_smooth_115 (by decide) ?_
          exact i37 (z0 + z1) (v6 + (0 : Int64)) (v8 + (1 : Int32)) _ _ _ (lv_sub hl [3, 4, 5, 6, 2, 1, 0] rfl) hP hS hw
        · replace hw := And.right hw hc
          refine lv_ldc2 (v := (10 : Int64)) hx hb hown (f0) dX7_smooth_91 ?_
          refine lv_aload_n hx hb dX7_smooth_94 rfl (lv_at hl 1 rfl) ?_
          refine lv_iload hx hb dX7_smooth_95 (lv_at hl 6 rfl) ?_
          refine lv_iload hx hb dX7_smooth_97 (lv_at hl 6 rfl) ?_
          refine lv_bipush (v := (-4 : Int32)) hx hb dX7_smooth_99 (by decide) ?_
          refine xVl0 (As := [.int v8, .int v8, .int (-4 : Int32)]) (rest := [.long (10 : Int64), .long v6]) hst hE hP hS ⟨hx, hb, hml, hown, hts⟩ (va_recv hK hP (ci := 7) (q := (RX7, TX7, 28)) rfl wM_0) (mX7_totalOf l D h cI cJ hh S L v8 v8 (-4 : Int32) _ hw) (cwV 3 hts gX7_smooth_X7_totalOf rfl rfl rfl (by decide +kernel) ⟨Nat.le_of_ble_eq_true rfl, Nat.le_of_ble_eq_true rfl⟩) rfl hl.1 rfl (Nat.le_of_ble_eq_true rfl) dX7_smooth_101 ⟨Nat.zero_le _, Nat.zero_le _⟩ (fun r101 H locs hw hP hS => ?_)
          refine lv_lmul hx hb dX7_smooth_104 ?_
          refine lv_goto (tgt := 109) hx hb dX7_smooth_105 (by decide) ?_
          refine lv_ladd hx hb dX7_smooth_109 ?_
          refine lv_lstore (lv' := [(6, .long (v6 + ((10 : Int64) * r101))), (4, .long (z0 + z1)), (0, .ref (h 0)), (1, .int v1), (2, .int v2), (3, .int v3), (8, .int v8), (9, .int v9)]) hx hb dX7_smooth_110 hl (by decide) rfl (fun ls hl => ?_)
          refine lv_iinc (v := v8 + (1 : Int32)) (lv' := [(8, .int (v8 + (1 : Int32))), (6, .long (v6 + ((10 : Int64) * r101))), (4, .long (z0 + z1)), (0, .ref (h 0)), (1, .int v1), (2, .int v2), (3, .int v3), (9, .int v9)]) hx hb dX7_smooth_112 hl (k := 6) rfl rfl (by decide) rfl (fun ls hl => ?_)
          refine lv_goto (tgt := 37) hx hb dX7_smooth_115 (by decide) ?_
          exact i37 (z0 + z1) (v6 + ((10 : Int64) * r101)) (v8 + (1 : Int32)) _ _ _ (lv_sub hl [3, 4, 5, 6, 2, 1, 0] rfl) hP hS hw
      intro v4 v6 v8 H locs ls hl hP hS hw
      unfold kX7_smooth_b37 at hw
      refine lv_iload hx hb dX7_smooth_37 (lv_at hl 6 rfl) ?_
      refine lv_bipush (v := (8 : Int32)) hx hb dX7_smooth_39 (by decide) ?_
      refine lv_icmp_ge (tgt := 118) hx hb dX7_smooth_41 (by decide) (fun hc => ?_) (fun hc => ?_)
      · replace hw := And.left hw hc
        refine lv_lload hx hb dX7_smooth_118 (lv_at hl 5 rfl) ?_
        refine lv_lconst (v := (0 : Int64)) hx hb dX7_smooth_120 (by decide) ?_
        refine W.lcmp hx hb dX7_smooth_121 ?_
        refine lv_if_ne (tgt := 130) hx hb dX7_smooth_122 (by decide) (fun hc => ?_) (fun hc => ?_)
        · replace hw := And.right hw (fun q => hc ((lg_cmp_eq _ _).mpr q))
          refine lv_lload hx hb dX7_smooth_130 (lv_at hl 4 rfl) ?_
          refine lv_ldc2 (v := (100000 : Int64)) hx hb hown (f1) dX7_smooth_132 ?_
          refine lv_lmul hx hb dX7_smooth_135 ?_
          refine lv_lload hx hb dX7_smooth_136 (lv_at hl 5 rfl) ?_
          obtain ⟨hi, hw⟩ := hw
          refine lv_ldiv hx hb dX7_smooth_138 hi ?_
          refine lv_l2i hx hb dX7_smooth_139 rfl ?_
          exact hret _ _ _ _ _ hP hS hw dX7_smooth_140
        · replace hw := And.left hw ((lg_cmp_eq _ _).mp hc)
          refine lv_bipush (v := (-4 : Int32)) hx hb dX7_smooth_125 (by decide) ?_
          refine lv_goto (tgt := 140) hx hb dX7_smooth_127 (by decide) ?_
          exact hret _ _ _ _ _ hP hS hw dX7_smooth_140
      · replace hw := And.right hw hc
        refine lv_iload hx hb dX7_smooth_44 (lv_at hl 6 rfl) ?_
        refine lv_iload_n hx hb dX7_smooth_46 rfl (lv_at hl 1 rfl) ?_
        refine lv_isub hx hb dX7_smooth_47 ?_
        refine lv_i2l hx hb dX7_smooth_48 rfl ?_
        refine lv_iload_n hx hb dX7_smooth_49 rfl (lv_at hl 3 rfl) ?_
        refine lv_ineg hx hb dX7_smooth_50 ?_
        refine lv_i2l hx hb dX7_smooth_51 rfl ?_
        refine lv_iload_n hx hb dX7_smooth_52 rfl (lv_at hl 3 rfl) ?_
        refine lv_i2l hx hb dX7_smooth_53 rfl ?_
        refine xSi0 (As := [.long ((v8 - v1).toInt64), .long ((-v3).toInt64), .long v3.toInt64]) (rest := []) hst hE hP hS ⟨hx, hb, hml, hown, hts⟩ (mX7_in l D h cI cJ hh S L ((v8 - v1).toInt64) ((-v3).toInt64) v3.toInt64 _ hw) (va_cwS 3 hts gX7_smooth_X7_in rfl rfl rfl (by decide +kernel) ⟨Nat.le_of_ble_eq_true rfl, Nat.le_of_ble_eq_true rfl⟩) rfl hl.1 rfl (Nat.le_of_ble_eq_true rfl) dX7_smooth_54 ⟨Nat.zero_le _, Nat.zero_le _⟩ (fun r54 H locs hw hP hS => ?_)
        refine lv_istore (lv' := [(9, .int r54), (0, .ref (h 0)), (1, .int v1), (2, .int v2), (3, .int v3), (4, .long v4), (6, .long v6), (8, .int v8)]) hx hb dX7_smooth_57 hl (by decide) rfl (fun ls hl => ?_)
        refine lv_lload hx hb dX7_smooth_59 (lv_at hl 5 rfl) ?_
        refine lv_iload hx hb dX7_smooth_61 (lv_at hl 0 rfl) ?_
        refine lv_if_eq (tgt := 80) hx hb dX7_smooth_63 (by decide) (fun hc => ?_) (fun hc => ?_)
        · replace hw := And.left hw hc
          refine lv_lconst (v := (0 : Int64)) hx hb dX7_smooth_80 (by decide) ?_
          exact b81 v6 v8 r54 v4 (0 : Int64) _ _ _ (lv_sub hl [1, 2, 3, 4, 6, 7, 0] rfl) hP hS hw
        · replace hw := And.right hw hc
          refine lv_aload_n hx hb dX7_smooth_66 rfl (lv_at hl 1 rfl) ?_
          refine lv_iload hx hb dX7_smooth_67 (lv_at hl 7 rfl) ?_
          refine lv_iload hx hb dX7_smooth_69 (lv_at hl 7 rfl) ?_
          refine lv_iload_n hx hb dX7_smooth_71 rfl (lv_at hl 3 rfl) ?_
          refine lv_bipush (v := (-4 : Int32)) hx hb dX7_smooth_72 (by decide) ?_
          refine xVl0 (As := [.int v8, .int v8, .int v2, .int (-4 : Int32)]) (rest := [.long v4]) hst hE hP hS ⟨hx, hb, hml, hown, hts⟩ (va_recv hK hP (ci := 7) (q := (RX7, TX7, 28)) rfl wM_0) (mX7_topOf l D h cI cJ hh S L v8 v8 v2 (-4 : Int32) _ hw) (cwV 4 hts gX7_smooth_X7_topOf rfl rfl rfl (by decide +kernel) ⟨Nat.le_of_ble_eq_true rfl, Nat.le_of_ble_eq_true rfl⟩) rfl hl.1 rfl (Nat.le_of_ble_eq_true rfl) dX7_smooth_74 ⟨Nat.zero_le _, Nat.zero_le _⟩ (fun r74 H locs hw hP hS => ?_)
          refine lv_goto (tgt := 81) hx hb dX7_smooth_77 (by decide) ?_
          exact b81 v6 v8 r54 v4 r74 _ _ _ (lv_sub hl [1, 2, 3, 4, 6, 7, 0] rfl) hP hS hw
  unfold kX7_smooth at hw
  refine lv_iload_n hx hb dX7_smooth_0 rfl (lv_at hl 1 rfl) ?_
  refine xSi0 (As := [.int v1]) (rest := []) hst hE hP hS ⟨hx, hb, hml, hown, hts⟩ (mX7_isYear l D h cI cJ hh S L v1 _ hw) (va_cwS 1 hts gX7_smooth_X7_isYear rfl rfl rfl (by decide +kernel) ⟨Nat.le_of_ble_eq_true rfl, Nat.le_of_ble_eq_true rfl⟩) rfl hl.1 rfl (Nat.le_of_ble_eq_true rfl) dX7_smooth_1 ⟨Nat.zero_le _, Nat.zero_le _⟩ (fun r1 H locs hw hP hS => ?_)
  refine lv_if_eq (tgt := 26) hx hb dX7_smooth_4 (by decide) (fun hc => ?_) (fun hc => ?_)
  · replace hw := And.left hw hc
    refine lv_iconst (v := (-1 : Int32)) hx hb dX7_smooth_26 (by decide) ?_
    exact hret _ _ _ _ _ hP hS hw dX7_smooth_27
  · replace hw := And.right hw hc
    refine lv_iload_n hx hb dX7_smooth_7 rfl (lv_at hl 2 rfl) ?_
    refine xSi0 (As := [.int v2]) (rest := []) hst hE hP hS ⟨hx, hb, hml, hown, hts⟩ (mX7_isTop l D h cI cJ hh S L v2 _ hw) (va_cwS 1 hts gX7_smooth_X7_isTop rfl rfl rfl (by decide +kernel) ⟨Nat.le_of_ble_eq_true rfl, Nat.le_of_ble_eq_true rfl⟩) rfl hl.1 rfl (Nat.le_of_ble_eq_true rfl) dX7_smooth_8 ⟨Nat.zero_le _, Nat.zero_le _⟩ (fun r8 H locs hw hP hS => ?_)
    refine lv_if_eq (tgt := 26) hx hb dX7_smooth_11 (by decide) (fun hc => ?_) (fun hc => ?_)
    · replace hw := And.left hw hc
      refine lv_iconst (v := (-1 : Int32)) hx hb dX7_smooth_26 (by decide) ?_
      exact hret _ _ _ _ _ hP hS hw dX7_smooth_27
    · replace hw := And.right hw hc
      refine lv_iload_n hx hb dX7_smooth_14 rfl (lv_at hl 3 rfl) ?_
      refine lv_i2l hx hb dX7_smooth_15 rfl ?_
      refine lv_lconst (v := (0 : Int64)) hx hb dX7_smooth_16 (by decide) ?_
      refine lv_ldc2 (v := (3 : Int64)) hx hb hown (f2) dX7_smooth_17 ?_
      refine xSi0 (As := [.long v3.toInt64, .long (0 : Int64), .long (3 : Int64)]) (rest := []) hst hE hP hS ⟨hx, hb, hml, hown, hts⟩ (mX7_in l D h cI cJ hh S L v3.toInt64 (0 : Int64) (3 : Int64) _ hw) (va_cwS 3 hts gX7_smooth_X7_in rfl rfl rfl (by decide +kernel) ⟨Nat.le_of_ble_eq_true rfl, Nat.le_of_ble_eq_true rfl⟩) rfl hl.1 rfl (Nat.le_of_ble_eq_true rfl) dX7_smooth_20 ⟨Nat.zero_le _, Nat.zero_le _⟩ (fun r20 H locs hw hP hS => ?_)
      refine lv_if_ne (tgt := 28) hx hb dX7_smooth_23 (by decide) (fun hc => ?_) (fun hc => ?_)
      · replace hw := And.right hw hc
        refine lv_lconst (v := (0 : Int64)) hx hb dX7_smooth_28 (by decide) ?_
        refine lv_lstore (lv' := [(4, .long (0 : Int64)), (0, .ref (h 0)), (1, .int v1), (2, .int v2), (3, .int v3)]) hx hb dX7_smooth_29 hl (by decide) rfl (fun ls hl => ?_)
        refine lv_lconst (v := (0 : Int64)) hx hb dX7_smooth_31 (by decide) ?_
        refine lv_lstore (lv' := [(6, .long (0 : Int64)), (4, .long (0 : Int64)), (0, .ref (h 0)), (1, .int v1), (2, .int v2), (3, .int v3)]) hx hb dX7_smooth_32 hl (by decide) rfl (fun ls hl => ?_)
        refine lv_iconst (v := (0 : Int32)) hx hb dX7_smooth_34 (by decide) ?_
        refine lv_istore (lv' := [(8, .int (0 : Int32)), (6, .long (0 : Int64)), (4, .long (0 : Int64)), (0, .ref (h 0)), (1, .int v1), (2, .int v2), (3, .int v3)]) hx hb dX7_smooth_35 hl (by decide) rfl (fun ls hl => ?_)
        obtain ⟨n37, hw⟩ := hw
        exact b37  n37 (0 : Int64) (0 : Int64) (0 : Int32) _ _ _ (lv_sub hl [3, 4, 5, 6, 2, 1, 0] rfl) hP hS hw
      · replace hw := And.left hw hc
        refine lv_iconst (v := (-1 : Int32)) hx hb dX7_smooth_26 (by decide) ?_
        exact hret _ _ _ _ _ hP hS hw dX7_smooth_27
abbrev rX7_jump : Room := { frames := 5, cells := 0, slots := 0, locals := 131 }
set_option maxHeartbeats 4000000 in
set_option maxRecDepth 100000 in
theorem mX7_jump (l : Launch) (D : va_G) (h : Nat → Nat) (cI cJ : ClassId) (hh : xdis 22 h) (S : SX) (L : LX) (v1 : Int32) (v2 : Int32) (post : Int32 → Prop) (hw : kX7_jump S L v1 v2 post) : Met l yX7_jump wsX7_jump rX7_jump (xPre D (wM h cI cJ) (mE D cI cJ) S L [.ref (h 0), .int v1, .int v2]) (va_Qi (fun (r : Int32) (u : SX × LX) => post r ∧ u.1 = S ∧ u.2 = L) (xB D (wM h cI cJ)) (xA 22 h)) 0 0 (xA 22 h) := by
  refine Met.ofW (cc := cX7_jump) (maxL := 7) (ret := (some .int)) (by decide) rfl ?_
  intro p e s m args below meth c s₁ B hml hv
  obtain ⟨hargs, hP, hE⟩ := hv
  have hx := B.exec
  have hb := B.bytes
  have hr := B.returns
  have hlocks := B.notSynchronized
  have hts := atoms_spec (ws := wsX7_jump) B.pre
  have hown : s.vm.findClass RX7 = some m.cls := findClass_of_methodNamed B.named
  have hS : va_S (xA 22 h) s.heap s.heap [] := va_S.rf
  have hD : ∀ (S : SX) (L : LX), va_D (xA 22 h) (wM h cI cJ S L) := fun S L => wM_D hh cI cJ S L
  have hK := id hE
  have hst : xSt (xA 22 h) (mE D cI cJ) := mE_st D _ cI cJ
  skip
  have hl := lv_entry ([.ref (h 0), .int v1, .int v2]) (n := 7) (Nat.le_of_ble_eq_true rfl)
  have hen : entryFrame m args 7 = F0 m 0 ((lg_sl ([.ref (h 0), .int v1, .int v2]) ++ List.replicate (7 - (lg_sl ([.ref (h 0), .int v1, .int v2])).length) Slot.unset).toArray) [] := by rw [hargs]; exact lg_entry_eq m _ _
  rw [hen]
  generalize (lg_sl ([.ref (h 0), .int v1, .int v2]) ++ List.replicate (7 - (lg_sl ([.ref (h 0), .int v1, .int v2])).length) Slot.unset).toArray = ls at hl ⊢
  have hl : lv_has ls 7 [(0, .ref (h 0)), (1, .int v1), (2, .int v2)] := hl
  change W p l e rX7_jump s m args below meth c s.heap [] 0 0 (MQ below (va_Qi (fun (r : Int32) (u : SX × LX) => post r ∧ u.1 = S ∧ u.2 = L) (xB D (wM h cI cJ)) (xA 22 h)) args s 0 0 (xA 22 h)) (F0 m 0 ls [])
  have hret : ∀ (r : Int32) (H : Heap) (locs : List Loc) (ls : Array Slot) (pc : Nat), va_P D vwCl (wM h cI cJ S L) H → va_S (xA 22 h) s.heap H locs → post r → decode cX7_jump pc = .ok (.ireturn, 1) → W p l e rX7_jump s m args below meth c H locs 0 0 (MQ below (va_Qi (fun (r : Int32) (u : SX × LX) => post r ∧ u.1 = S ∧ u.2 = L) (xB D (wM h cI cJ)) (xA 22 h)) args s 0 0 (xA 22 h)) (F0 m pc ls [.int r]) := fun r H locs ls pc hP hS hw hd => W.iret hx hb hr (fun t ht hW => ⟨⟨r, (S, L), rfl, ⟨hw, rfl, rfl⟩, show va_P D vwCl (wM h cI cJ S L) t.heap by rw [ht]; exact hP⟩, hS.F ht⟩) hS.2.2 hd
  generalize MQ below (va_Qi (fun (r : Int32) (u : SX × LX) => post r ∧ u.1 = S ∧ u.2 = L) (xB D (wM h cI cJ)) (xA 22 h)) args s 0 0 (xA 22 h) = Q at hret ⊢
  have b28 : ∀  (n28 : Nat) (v3 : Int32) (v4 : Int32) (v5 : Int32) (H : Heap) (locs : List Loc) (ls : Array Slot), lv_has ls 7 [(0, .ref (h 0)), (1, .int v1), (2, .int v2), (3, .int v3), (4, .int v4), (5, .int v5)] → va_P D vwCl (wM h cI cJ S L) H → va_S (xA 22 h) s.heap H locs → kX7_jump_b28 S L v1 v2 post n28 v3 v4 v5 → W p l e rX7_jump s m args below meth c H locs 0 0 Q (F0 m 28 ls []) := by
    intro n28
    induction n28 with
    | zero => intro v3 v4 v5 H locs ls hl hP hS hw; exact absurd hw id
    | succ n28 i28 =>
      have b111 : ∀ (v3 : Int32) (v4 : Int32) (v5 : Int32) (z0 : Int32) (H : Heap) (locs : List Loc) (ls : Array Slot), lv_has ls 7 [(0, .ref (h 0)), (1, .int v1), (2, .int v2), (3, .int v3), (4, .int v4), (5, .int v5)] → va_P D vwCl (wM h cI cJ S L) H → va_S (xA 22 h) s.heap H locs → kX7_jump_b111 S L v1 v2 post (kX7_jump_b28 S L v1 v2 post n28) v3 v4 v5 z0 → W p l e rX7_jump s m args below meth c H locs 0 0 Q (F0 m 111 ls [.int z0]) := by
        have b126 : ∀ (v4 : Int32) (v5 : Int32) (v6 : Int32) (z0 : Int32) (H : Heap) (locs : List Loc) (ls : Array Slot), lv_has ls 7 [(0, .ref (h 0)), (1, .int v1), (2, .int v2), (4, .int v4), (5, .int v5), (6, .int v6)] → va_P D vwCl (wM h cI cJ S L) H → va_S (xA 22 h) s.heap H locs → kX7_jump_b126 S L v1 v2 post (kX7_jump_b28 S L v1 v2 post n28) v4 v5 v6 z0 → W p l e rX7_jump s m args below meth c H locs 0 0 Q (F0 m 126 ls [.int z0]) := by
          intro v4 v5 v6 z0 H locs ls hl hP hS hw
          unfold kX7_jump_b126 at hw
          refine lv_istore_n (lv' := [(3, .int z0), (0, .ref (h 0)), (1, .int v1), (2, .int v2), (4, .int v4), (5, .int v5), (6, .int v6)]) hx hb dX7_jump_126 rfl hl (by decide) rfl (fun ls hl => ?_)
          refine lv_iload hx hb dX7_jump_127 (lv_at hl 6 rfl) ?_
          refine lv_iload hx hb dX7_jump_129 (lv_at hl 4 rfl) ?_
          refine lv_icmp_le (tgt := 139) hx hb dX7_jump_131 (by decide) (fun hc => ?_) (fun hc => ?_)
          · replace hw := And.left hw hc
            refine lv_iload hx hb dX7_jump_139 (lv_at hl 4 rfl) ?_
            refine lv_istore (lv' := [(4, .int v4), (3, .int z0), (0, .ref (h 0)), (1, .int v1), (2, .int v2), (5, .int v5), (6, .int v6)]) hx hb dX7_jump_141 hl (by decide) rfl (fun ls hl => ?_)
            refine lv_iinc (v := v5 + (1 : Int32)) (lv' := [(5, .int (v5 + (1 : Int32))), (4, .int v4), (3, .int z0), (0, .ref (h 0)), (1, .int v1), (2, .int v2), (6, .int v6)]) hx hb dX7_jump_143 hl (k := 5) rfl rfl (by decide) rfl (fun ls hl => ?_)
            refine lv_goto (tgt := 28) hx hb dX7_jump_146 (by decide) ?_
            exact i28 z0 v4 (v5 + (1 : Int32)) _ _ _ (lv_sub hl [3, 4, 5, 2, 1, 0] rfl) hP hS hw
          · replace hw := And.right hw hc
            refine lv_iload hx hb dX7_jump_134 (lv_at hl 6 rfl) ?_
            refine lv_goto (tgt := 141) hx hb dX7_jump_136 (by decide) ?_
            refine lv_istore (lv' := [(4, .int v6), (3, .int z0), (0, .ref (h 0)), (1, .int v1), (2, .int v2), (5, .int v5), (6, .int v6)]) hx hb dX7_jump_141 hl (by decide) rfl (fun ls hl => ?_)
            refine lv_iinc (v := v5 + (1 : Int32)) (lv' := [(5, .int (v5 + (1 : Int32))), (4, .int v6), (3, .int z0), (0, .ref (h 0)), (1, .int v1), (2, .int v2), (6, .int v6)]) hx hb dX7_jump_143 hl (k := 5) rfl rfl (by decide) rfl (fun ls hl => ?_)
            refine lv_goto (tgt := 28) hx hb dX7_jump_146 (by decide) ?_
            exact i28 z0 v6 (v5 + (1 : Int32)) _ _ _ (lv_sub hl [3, 4, 5, 2, 1, 0] rfl) hP hS hw
        intro v3 v4 v5 z0 H locs ls hl hP hS hw
        unfold kX7_jump_b111 at hw
        refine lv_istore (lv' := [(6, .int z0), (0, .ref (h 0)), (1, .int v1), (2, .int v2), (3, .int v3), (4, .int v4), (5, .int v5)]) hx hb dX7_jump_111 hl (by decide) rfl (fun ls hl => ?_)
        refine lv_iload hx hb dX7_jump_113 (lv_at hl 0 rfl) ?_
        refine lv_iload hx hb dX7_jump_115 (lv_at hl 5 rfl) ?_
        refine lv_icmp_le (tgt := 125) hx hb dX7_jump_117 (by decide) (fun hc => ?_) (fun hc => ?_)
        · replace hw := And.left hw hc
          refine lv_iload_n hx hb dX7_jump_125 rfl (lv_at hl 4 rfl) ?_
          exact b126 v4 v5 z0 v3 _ _ _ (lv_sub hl [1, 2, 3, 5, 6, 0] rfl) hP hS hw
        · replace hw := And.right hw hc
          refine lv_iload hx hb dX7_jump_120 (lv_at hl 6 rfl) ?_
          refine lv_goto (tgt := 126) hx hb dX7_jump_122 (by decide) ?_
          exact b126 v4 v5 z0 v5 _ _ _ (lv_sub hl [1, 2, 3, 5, 6, 0] rfl) hP hS hw
      intro v3 v4 v5 H locs ls hl hP hS hw
      unfold kX7_jump_b28 at hw
      refine lv_iload hx hb dX7_jump_28 (lv_at hl 5 rfl) ?_
      refine lv_bipush (v := (7 : Int32)) hx hb dX7_jump_30 (by decide) ?_
      refine lv_icmp_ge (tgt := 149) hx hb dX7_jump_32 (by decide) (fun hc => ?_) (fun hc => ?_)
      · replace hw := And.left hw hc
        refine lv_iload_n hx hb dX7_jump_149 rfl (lv_at hl 3 rfl) ?_
        refine lv_if_lt (tgt := 157) hx hb dX7_jump_150 (by decide) (fun hc => ?_) (fun hc => ?_)
        · replace hw := And.left hw hc
          refine lv_iload_n hx hb dX7_jump_157 rfl (lv_at hl 3 rfl) ?_
          refine lv_goto (tgt := 163) hx hb dX7_jump_158 (by decide) ?_
          exact hret _ _ _ _ _ hP hS hw dX7_jump_163
        · replace hw := And.right hw hc
          refine lv_iload_n hx hb dX7_jump_153 rfl (lv_at hl 2 rfl) ?_
          refine lv_if_ne (tgt := 161) hx hb dX7_jump_154 (by decide) (fun hc => ?_) (fun hc => ?_)
          · replace hw := And.right hw hc
            refine lv_iload hx hb dX7_jump_161 (lv_at hl 4 rfl) ?_
            exact hret _ _ _ _ _ hP hS hw dX7_jump_163
          · replace hw := And.left hw hc
            refine lv_iload_n hx hb dX7_jump_157 rfl (lv_at hl 3 rfl) ?_
            refine lv_goto (tgt := 163) hx hb dX7_jump_158 (by decide) ?_
            exact hret _ _ _ _ _ hP hS hw dX7_jump_163
      · replace hw := And.right hw hc
        refine lv_aload_n hx hb dX7_jump_35 rfl (lv_at hl 0 rfl) ?_
        refine lv_iload hx hb dX7_jump_36 (lv_at hl 5 rfl) ?_
        refine lv_iload hx hb dX7_jump_38 (lv_at hl 5 rfl) ?_
        refine lv_bipush (v := (-4 : Int32)) hx hb dX7_jump_40 (by decide) ?_
        refine xVl0 (As := [.int v5, .int v5, .int (-4 : Int32)]) (rest := []) hst hE hP hS ⟨hx, hb, hml, hown, hts⟩ (va_recv hK hP (ci := 7) (q := (RX7, TX7, 28)) rfl wM_0) (mX7_totalOf l D h cI cJ hh S L v5 v5 (-4 : Int32) _ hw) (cwV 3 hts gX7_jump_X7_totalOf rfl rfl rfl (by decide +kernel) ⟨Nat.le_of_ble_eq_true rfl, Nat.le_of_ble_eq_true rfl⟩) rfl hl.1 rfl (Nat.le_of_ble_eq_true rfl) dX7_jump_42 ⟨Nat.zero_le _, Nat.zero_le _⟩ (fun r42 H locs hw hP hS => ?_)
        refine lv_lconst (v := (0 : Int64)) hx hb dX7_jump_45 (by decide) ?_
        refine W.lcmp hx hb dX7_jump_46 ?_
        refine lv_if_le (tgt := 143) hx hb dX7_jump_47 (by decide) (fun hc => ?_) (fun hc => ?_)
        · replace hw := And.left hw ((lg_cmp_le _ _).mp hc)
          refine lv_iinc (v := v5 + (1 : Int32)) (lv' := [(5, .int (v5 + (1 : Int32))), (0, .ref (h 0)), (1, .int v1), (2, .int v2), (3, .int v3), (4, .int v4)]) hx hb dX7_jump_143 hl (k := 5) rfl rfl (by decide) rfl (fun ls hl => ?_)
          refine lv_goto (tgt := 28) hx hb dX7_jump_146 (by decide) ?_
          exact i28 v3 v4 (v5 + (1 : Int32)) _ _ _ (lv_sub hl [1, 2, 3, 4, 5, 0] rfl) hP hS hw
        · replace hw := And.right hw (fun q => hc ((lg_cmp_le _ _).mpr q))
          refine lv_aload_n hx hb dX7_jump_50 rfl (lv_at hl 0 rfl) ?_
          refine lv_iload hx hb dX7_jump_51 (lv_at hl 5 rfl) ?_
          refine lv_iconst (v := (1 : Int32)) hx hb dX7_jump_53 (by decide) ?_
          refine lv_iadd hx hb dX7_jump_54 ?_
          refine lv_iload hx hb dX7_jump_55 (lv_at hl 5 rfl) ?_
          refine lv_iconst (v := (1 : Int32)) hx hb dX7_jump_57 (by decide) ?_
          refine lv_iadd hx hb dX7_jump_58 ?_
          refine lv_bipush (v := (-4 : Int32)) hx hb dX7_jump_59 (by decide) ?_
          refine xVl0 (As := [.int (v5 + (1 : Int32)), .int (v5 + (1 : Int32)), .int (-4 : Int32)]) (rest := []) hst hE hP hS ⟨hx, hb, hml, hown, hts⟩ (va_recv hK hP (ci := 7) (q := (RX7, TX7, 28)) rfl wM_0) (mX7_totalOf l D h cI cJ hh S L (v5 + (1 : Int32)) (v5 + (1 : Int32)) (-4 : Int32) _ hw) (cwV 3 hts gX7_jump_X7_totalOf rfl rfl rfl (by decide +kernel) ⟨Nat.le_of_ble_eq_true rfl, Nat.le_of_ble_eq_true rfl⟩) rfl hl.1 rfl (Nat.le_of_ble_eq_true rfl) dX7_jump_61 ⟨Nat.zero_le _, Nat.zero_le _⟩ (fun r61 H locs hw hP hS => ?_)
          refine lv_lconst (v := (0 : Int64)) hx hb dX7_jump_64 (by decide) ?_
          refine W.lcmp hx hb dX7_jump_65 ?_
          refine lv_if_le (tgt := 143) hx hb dX7_jump_66 (by decide) (fun hc => ?_) (fun hc => ?_)
          · replace hw := And.left hw ((lg_cmp_le _ _).mp hc)
            refine lv_iinc (v := v5 + (1 : Int32)) (lv' := [(5, .int (v5 + (1 : Int32))), (0, .ref (h 0)), (1, .int v1), (2, .int v2), (3, .int v3), (4, .int v4)]) hx hb dX7_jump_143 hl (k := 5) rfl rfl (by decide) rfl (fun ls hl => ?_)
            refine lv_goto (tgt := 28) hx hb dX7_jump_146 (by decide) ?_
            exact i28 v3 v4 (v5 + (1 : Int32)) _ _ _ (lv_sub hl [1, 2, 3, 4, 5, 0] rfl) hP hS hw
          · replace hw := And.right hw (fun q => hc ((lg_cmp_le _ _).mpr q))
            refine lv_aload_n hx hb dX7_jump_69 rfl (lv_at hl 0 rfl) ?_
            refine lv_iload hx hb dX7_jump_70 (lv_at hl 5 rfl) ?_
            refine lv_iconst (v := (1 : Int32)) hx hb dX7_jump_72 (by decide) ?_
            refine lv_iadd hx hb dX7_jump_73 ?_
            refine lv_iload hx hb dX7_jump_74 (lv_at hl 5 rfl) ?_
            refine lv_iconst (v := (1 : Int32)) hx hb dX7_jump_76 (by decide) ?_
            refine lv_iadd hx hb dX7_jump_77 ?_
            refine lv_iload_n hx hb dX7_jump_78 rfl (lv_at hl 1 rfl) ?_
            refine lv_bipush (v := (-4 : Int32)) hx hb dX7_jump_79 (by decide) ?_
            refine xVi0 (As := [.int (v5 + (1 : Int32)), .int (v5 + (1 : Int32)), .int v1, .int (-4 : Int32)]) (rest := []) hst hE hP hS ⟨hx, hb, hml, hown, hts⟩ (va_recv hK hP (ci := 7) (q := (RX7, TX7, 28)) rfl wM_0) (mX7_partsOf l D h cI cJ hh S L (v5 + (1 : Int32)) (v5 + (1 : Int32)) v1 (-4 : Int32) _ hw) (cwV 4 hts gX7_jump_X7_partsOf rfl rfl rfl (by decide +kernel) ⟨Nat.le_of_ble_eq_true rfl, Nat.le_of_ble_eq_true rfl⟩) rfl hl.1 rfl (Nat.le_of_ble_eq_true rfl) dX7_jump_81 ⟨Nat.zero_le _, Nat.zero_le _⟩ (fun r81 H locs hw hP hS => ?_)
            refine lv_aload_n hx hb dX7_jump_84 rfl (lv_at hl 0 rfl) ?_
            refine lv_iload hx hb dX7_jump_85 (lv_at hl 5 rfl) ?_
            refine lv_iload hx hb dX7_jump_87 (lv_at hl 5 rfl) ?_
            refine lv_iload_n hx hb dX7_jump_89 rfl (lv_at hl 1 rfl) ?_
            refine lv_bipush (v := (-4 : Int32)) hx hb dX7_jump_90 (by decide) ?_
            refine xVi0 (As := [.int v5, .int v5, .int v1, .int (-4 : Int32)]) (rest := [.int r81]) hst hE hP hS ⟨hx, hb, hml, hown, hts⟩ (va_recv hK hP (ci := 7) (q := (RX7, TX7, 28)) rfl wM_0) (mX7_partsOf l D h cI cJ hh S L v5 v5 v1 (-4 : Int32) _ hw) (cwV 4 hts gX7_jump_X7_partsOf rfl rfl rfl (by decide +kernel) ⟨Nat.le_of_ble_eq_true rfl, Nat.le_of_ble_eq_true rfl⟩) rfl hl.1 rfl (Nat.le_of_ble_eq_true rfl) dX7_jump_92 ⟨Nat.zero_le _, Nat.zero_le _⟩ (fun r92 H locs hw hP hS => ?_)
            refine lv_isub hx hb dX7_jump_95 ?_
            refine lv_istore (lv' := [(6, .int (r81 - r92)), (0, .ref (h 0)), (1, .int v1), (2, .int v2), (3, .int v3), (4, .int v4), (5, .int v5)]) hx hb dX7_jump_96 hl (by decide) rfl (fun ls hl => ?_)
            refine lv_iload hx hb dX7_jump_98 (lv_at hl 0 rfl) ?_
            refine lv_if_ge (tgt := 109) hx hb dX7_jump_100 (by decide) (fun hc => ?_) (fun hc => ?_)
            · replace hw := And.left hw hc
              refine lv_iload hx hb dX7_jump_109 (lv_at hl 0 rfl) ?_
              exact b111 v3 v4 v5 (r81 - r92) _ _ _ (lv_sub hl [1, 2, 3, 4, 5, 6] rfl) hP hS hw
            · replace hw := And.right hw hc
              refine lv_iload hx hb dX7_jump_103 (lv_at hl 0 rfl) ?_
              refine lv_ineg hx hb dX7_jump_105 ?_
              refine lv_goto (tgt := 111) hx hb dX7_jump_106 (by decide) ?_
              exact b111 v3 v4 v5 (-(r81 - r92)) _ _ _ (lv_sub hl [1, 2, 3, 4, 5, 6] rfl) hP hS hw
  unfold kX7_jump at hw
  refine lv_iload_n hx hb dX7_jump_0 rfl (lv_at hl 1 rfl) ?_
  refine xSi0 (As := [.int v1]) (rest := []) hst hE hP hS ⟨hx, hb, hml, hown, hts⟩ (mX7_isTop l D h cI cJ hh S L v1 _ hw) (va_cwS 1 hts gX7_jump_X7_isTop rfl rfl rfl (by decide +kernel) ⟨Nat.le_of_ble_eq_true rfl, Nat.le_of_ble_eq_true rfl⟩) rfl hl.1 rfl (Nat.le_of_ble_eq_true rfl) dX7_jump_1 ⟨Nat.zero_le _, Nat.zero_le _⟩ (fun r1 H locs hw hP hS => ?_)
  refine lv_if_eq (tgt := 17) hx hb dX7_jump_4 (by decide) (fun hc => ?_) (fun hc => ?_)
  · replace hw := And.left hw hc
    refine lv_iconst (v := (-1 : Int32)) hx hb dX7_jump_17 (by decide) ?_
    exact hret _ _ _ _ _ hP hS hw dX7_jump_18
  · replace hw := And.right hw hc
    refine lv_iload_n hx hb dX7_jump_7 rfl (lv_at hl 2 rfl) ?_
    refine lv_i2l hx hb dX7_jump_8 rfl ?_
    refine lv_lconst (v := (0 : Int64)) hx hb dX7_jump_9 (by decide) ?_
    refine lv_lconst (v := (1 : Int64)) hx hb dX7_jump_10 (by decide) ?_
    refine xSi0 (As := [.long v2.toInt64, .long (0 : Int64), .long (1 : Int64)]) (rest := []) hst hE hP hS ⟨hx, hb, hml, hown, hts⟩ (mX7_in l D h cI cJ hh S L v2.toInt64 (0 : Int64) (1 : Int64) _ hw) (va_cwS 3 hts gX7_jump_X7_in rfl rfl rfl (by decide +kernel) ⟨Nat.le_of_ble_eq_true rfl, Nat.le_of_ble_eq_true rfl⟩) rfl hl.1 rfl (Nat.le_of_ble_eq_true rfl) dX7_jump_11 ⟨Nat.zero_le _, Nat.zero_le _⟩ (fun r11 H locs hw hP hS => ?_)
    refine lv_if_ne (tgt := 19) hx hb dX7_jump_14 (by decide) (fun hc => ?_) (fun hc => ?_)
    · replace hw := And.right hw hc
      refine lv_bipush (v := (-4 : Int32)) hx hb dX7_jump_19 (by decide) ?_
      refine lv_istore_n (lv' := [(3, .int (-4 : Int32)), (0, .ref (h 0)), (1, .int v1), (2, .int v2)]) hx hb dX7_jump_21 rfl hl (by decide) rfl (fun ls hl => ?_)
      refine lv_iconst (v := (-1 : Int32)) hx hb dX7_jump_22 (by decide) ?_
      refine lv_istore (lv' := [(4, .int (-1 : Int32)), (3, .int (-4 : Int32)), (0, .ref (h 0)), (1, .int v1), (2, .int v2)]) hx hb dX7_jump_23 hl (by decide) rfl (fun ls hl => ?_)
      refine lv_iconst (v := (0 : Int32)) hx hb dX7_jump_25 (by decide) ?_
      refine lv_istore (lv' := [(5, .int (0 : Int32)), (4, .int (-1 : Int32)), (3, .int (-4 : Int32)), (0, .ref (h 0)), (1, .int v1), (2, .int v2)]) hx hb dX7_jump_26 hl (by decide) rfl (fun ls hl => ?_)
      obtain ⟨n28, hw⟩ := hw
      exact b28  n28 (-4 : Int32) (-1 : Int32) (0 : Int32) _ _ _ (lv_sub hl [3, 4, 5, 2, 1, 0] rfl) hP hS hw
    · replace hw := And.left hw hc
      refine lv_iconst (v := (-1 : Int32)) hx hb dX7_jump_17 (by decide) ?_
      exact hret _ _ _ _ _ hP hS hw dX7_jump_18
abbrev rX7_alone : Room := { frames := 5, cells := 0, slots := 0, locals := 131 }
set_option maxHeartbeats 4000000 in
set_option maxRecDepth 100000 in
theorem mX7_alone (l : Launch) (D : va_G) (h : Nat → Nat) (cI cJ : ClassId) (hh : xdis 22 h) (S : SX) (L : LX) (v1 : Int32) (v2 : Int32) (v3 : Int32) (post : Int64 → Prop) (hw : kX7_alone S L v1 v2 v3 post) : Met l yX7_alone wsX7_alone rX7_alone (xPre D (wM h cI cJ) (mE D cI cJ) S L [.ref (h 0), .int v1, .int v2, .int v3]) (va_Ql (fun (r : Int64) (u : SX × LX) => post r ∧ u.1 = S ∧ u.2 = L) (xB D (wM h cI cJ)) (xA 22 h)) 0 0 (xA 22 h) := by
  refine Met.ofW (cc := cX7_alone) (maxL := 4) (ret := (some .long)) (by decide) rfl ?_
  intro p e s m args below meth c s₁ B hml hv
  obtain ⟨hargs, hP, hE⟩ := hv
  have hx := B.exec
  have hb := B.bytes
  have hr := B.returns
  have hlocks := B.notSynchronized
  have hts := atoms_spec (ws := wsX7_alone) B.pre
  have hown : s.vm.findClass RX7 = some m.cls := findClass_of_methodNamed B.named
  have hS : va_S (xA 22 h) s.heap s.heap [] := va_S.rf
  have hD : ∀ (S : SX) (L : LX), va_D (xA 22 h) (wM h cI cJ S L) := fun S L => wM_D hh cI cJ S L
  have hK := id hE
  have hst : xSt (xA 22 h) (mE D cI cJ) := mE_st D _ cI cJ
  have f0 := hts (.constantLong RX7 219 (-1000000000000000001)) (by decide +kernel)
  have hl := lv_entry ([.ref (h 0), .int v1, .int v2, .int v3]) (n := 4) (Nat.le_of_ble_eq_true rfl)
  have hen : entryFrame m args 4 = F0 m 0 ((lg_sl ([.ref (h 0), .int v1, .int v2, .int v3]) ++ List.replicate (4 - (lg_sl ([.ref (h 0), .int v1, .int v2, .int v3])).length) Slot.unset).toArray) [] := by rw [hargs]; exact lg_entry_eq m _ _
  rw [hen]
  generalize (lg_sl ([.ref (h 0), .int v1, .int v2, .int v3]) ++ List.replicate (4 - (lg_sl ([.ref (h 0), .int v1, .int v2, .int v3])).length) Slot.unset).toArray = ls at hl ⊢
  have hl : lv_has ls 4 [(0, .ref (h 0)), (1, .int v1), (2, .int v2), (3, .int v3)] := hl
  change W p l e rX7_alone s m args below meth c s.heap [] 0 0 (MQ below (va_Ql (fun (r : Int64) (u : SX × LX) => post r ∧ u.1 = S ∧ u.2 = L) (xB D (wM h cI cJ)) (xA 22 h)) args s 0 0 (xA 22 h)) (F0 m 0 ls [])
  have hret : ∀ (r : Int64) (H : Heap) (locs : List Loc) (ls : Array Slot) (pc : Nat), va_P D vwCl (wM h cI cJ S L) H → va_S (xA 22 h) s.heap H locs → post r → decode cX7_alone pc = .ok (.lreturn, 1) → W p l e rX7_alone s m args below meth c H locs 0 0 (MQ below (va_Ql (fun (r : Int64) (u : SX × LX) => post r ∧ u.1 = S ∧ u.2 = L) (xB D (wM h cI cJ)) (xA 22 h)) args s 0 0 (xA 22 h)) (F0 m pc ls [.long r]) := fun r H locs ls pc hP hS hw hd => W.lret hx hb hr (fun t ht hW => ⟨⟨r, (S, L), rfl, ⟨hw, rfl, rfl⟩, show va_P D vwCl (wM h cI cJ S L) t.heap by rw [ht]; exact hP⟩, hS.F ht⟩) hS.2.2 hd
  generalize MQ below (va_Ql (fun (r : Int64) (u : SX × LX) => post r ∧ u.1 = S ∧ u.2 = L) (xB D (wM h cI cJ)) (xA 22 h)) args s 0 0 (xA 22 h) = Q at hret ⊢
  unfold kX7_alone at hw
  refine lv_iload_n hx hb dX7_alone_0 rfl (lv_at hl 1 rfl) ?_
  refine xSi0 (As := [.int v1]) (rest := []) hst hE hP hS ⟨hx, hb, hml, hown, hts⟩ (mX7_isYear l D h cI cJ hh S L v1 _ hw) (va_cwS 1 hts gX7_alone_X7_isYear rfl rfl rfl (by decide +kernel) ⟨Nat.le_of_ble_eq_true rfl, Nat.le_of_ble_eq_true rfl⟩) rfl hl.1 rfl (Nat.le_of_ble_eq_true rfl) dX7_alone_1 ⟨Nat.zero_le _, Nat.zero_le _⟩ (fun r1 H locs hw hP hS => ?_)
  refine lv_if_eq (tgt := 21) hx hb dX7_alone_4 (by decide) (fun hc => ?_) (fun hc => ?_)
  · replace hw := And.left hw hc
    refine lv_ldc2 (v := (-1000000000000000001 : Int64)) hx hb hown (f0) dX7_alone_21 ?_
    exact hret _ _ _ _ _ hP hS hw dX7_alone_24
  · replace hw := And.right hw hc
    refine lv_iload_n hx hb dX7_alone_7 rfl (lv_at hl 2 rfl) ?_
    refine xSi0 (As := [.int v2]) (rest := []) hst hE hP hS ⟨hx, hb, hml, hown, hts⟩ (mX7_isYear l D h cI cJ hh S L v2 _ hw) (va_cwS 1 hts gX7_alone_X7_isYear rfl rfl rfl (by decide +kernel) ⟨Nat.le_of_ble_eq_true rfl, Nat.le_of_ble_eq_true rfl⟩) rfl hl.1 rfl (Nat.le_of_ble_eq_true rfl) dX7_alone_8 ⟨Nat.zero_le _, Nat.zero_le _⟩ (fun r8 H locs hw hP hS => ?_)
    refine lv_if_eq (tgt := 21) hx hb dX7_alone_11 (by decide) (fun hc => ?_) (fun hc => ?_)
    · replace hw := And.left hw hc
      refine lv_ldc2 (v := (-1000000000000000001 : Int64)) hx hb hown (f0) dX7_alone_21 ?_
      exact hret _ _ _ _ _ hP hS hw dX7_alone_24
    · replace hw := And.right hw hc
      refine lv_iload_n hx hb dX7_alone_14 rfl (lv_at hl 3 rfl) ?_
      refine xSi0 (As := [.int v3]) (rest := []) hst hE hP hS ⟨hx, hb, hml, hown, hts⟩ (mX7_isTop l D h cI cJ hh S L v3 _ hw) (va_cwS 1 hts gX7_alone_X7_isTop rfl rfl rfl (by decide +kernel) ⟨Nat.le_of_ble_eq_true rfl, Nat.le_of_ble_eq_true rfl⟩) rfl hl.1 rfl (Nat.le_of_ble_eq_true rfl) dX7_alone_15 ⟨Nat.zero_le _, Nat.zero_le _⟩ (fun r15 H locs hw hP hS => ?_)
      refine lv_if_ne (tgt := 25) hx hb dX7_alone_18 (by decide) (fun hc => ?_) (fun hc => ?_)
      · replace hw := And.right hw hc
        refine lv_aload_n hx hb dX7_alone_25 rfl (lv_at hl 0 rfl) ?_
        refine lv_iload_n hx hb dX7_alone_26 rfl (lv_at hl 1 rfl) ?_
        refine lv_iload_n hx hb dX7_alone_27 rfl (lv_at hl 2 rfl) ?_
        refine lv_iload_n hx hb dX7_alone_28 rfl (lv_at hl 3 rfl) ?_
        refine lv_bipush (v := (-4 : Int32)) hx hb dX7_alone_29 (by decide) ?_
        refine xVi0 (As := [.int v1, .int v2, .int v3, .int (-4 : Int32)]) (rest := []) hst hE hP hS ⟨hx, hb, hml, hown, hts⟩ (va_recv hK hP (ci := 7) (q := (RX7, TX7, 28)) rfl wM_0) (mX7_partsOf l D h cI cJ hh S L v1 v2 v3 (-4 : Int32) _ hw) (cwV 4 hts gX7_alone_X7_partsOf rfl rfl rfl (by decide +kernel) ⟨Nat.le_of_ble_eq_true rfl, Nat.le_of_ble_eq_true rfl⟩) rfl hl.1 rfl (Nat.le_of_ble_eq_true rfl) dX7_alone_31 ⟨Nat.zero_le _, Nat.zero_le _⟩ (fun r31 H locs hw hP hS => ?_)
        refine lv_aload_n hx hb dX7_alone_34 rfl (lv_at hl 0 rfl) ?_
        refine lv_iload_n hx hb dX7_alone_35 rfl (lv_at hl 1 rfl) ?_
        refine lv_iload_n hx hb dX7_alone_36 rfl (lv_at hl 1 rfl) ?_
        refine lv_iload_n hx hb dX7_alone_37 rfl (lv_at hl 3 rfl) ?_
        refine lv_bipush (v := (-4 : Int32)) hx hb dX7_alone_38 (by decide) ?_
        refine xVi0 (As := [.int v1, .int v1, .int v3, .int (-4 : Int32)]) (rest := [.int r31]) hst hE hP hS ⟨hx, hb, hml, hown, hts⟩ (va_recv hK hP (ci := 7) (q := (RX7, TX7, 28)) rfl wM_0) (mX7_partsOf l D h cI cJ hh S L v1 v1 v3 (-4 : Int32) _ hw) (cwV 4 hts gX7_alone_X7_partsOf rfl rfl rfl (by decide +kernel) ⟨Nat.le_of_ble_eq_true rfl, Nat.le_of_ble_eq_true rfl⟩) rfl hl.1 rfl (Nat.le_of_ble_eq_true rfl) dX7_alone_40 ⟨Nat.zero_le _, Nat.zero_le _⟩ (fun r40 H locs hw hP hS => ?_)
        refine lv_isub hx hb dX7_alone_43 ?_
        refine lv_i2l hx hb dX7_alone_44 rfl ?_
        exact hret _ _ _ _ _ hP hS hw dX7_alone_45
      · replace hw := And.left hw hc
        refine lv_ldc2 (v := (-1000000000000000001 : Int64)) hx hb hown (f0) dX7_alone_21 ?_
        exact hret _ _ _ _ _ hP hS hw dX7_alone_24
abbrev rX7_bounds : Room := { frames := 4, cells := 0, slots := 0, locals := 105 }
set_option maxHeartbeats 4000000 in
set_option maxRecDepth 100000 in
theorem mX7_bounds (l : Launch) (D : va_G) (h : Nat → Nat) (cI cJ : ClassId) (hh : xdis 22 h) (S : SX) (L : LX) (v1 : Int32) (v2 : Int32) (v3 : Int32) (post : Int32 → Prop) (hw : kX7_bounds S L v1 v2 v3 post) : Met l yX7_bounds wsX7_bounds rX7_bounds (xPre D (wM h cI cJ) (mE D cI cJ) S L [.ref (h 0), .int v1, .int v2, .int v3]) (va_Qi (fun (r : Int32) (u : SX × LX) => post r ∧ u.1 = S ∧ u.2 = L) (xB D (wM h cI cJ)) (xA 22 h)) 0 0 (xA 22 h) := by
  refine Met.ofW (cc := cX7_bounds) (maxL := 10) (ret := (some .int)) (by decide) rfl ?_
  intro p e s m args below meth c s₁ B hml hv
  obtain ⟨hargs, hP, hE⟩ := hv
  have hx := B.exec
  have hb := B.bytes
  have hr := B.returns
  have hlocks := B.notSynchronized
  have hts := atoms_spec (ws := wsX7_bounds) B.pre
  have hown : s.vm.findClass RX7 = some m.cls := findClass_of_methodNamed B.named
  have hS : va_S (xA 22 h) s.heap s.heap [] := va_S.rf
  have hD : ∀ (S : SX) (L : LX), va_D (xA 22 h) (wM h cI cJ S L) := fun S L => wM_D hh cI cJ S L
  have hK := id hE
  have hst : xSt (xA 22 h) (mE D cI cJ) := mE_st D _ cI cJ
  have f0 := hts (.constantLong RX7 190 (10)) (by decide +kernel)
  have f1 := hts (.constantLong RX7 200 (100000)) (by decide +kernel)
  have hl := lv_entry ([.ref (h 0), .int v1, .int v2, .int v3]) (n := 10) (Nat.le_of_ble_eq_true rfl)
  have hen : entryFrame m args 10 = F0 m 0 ((lg_sl ([.ref (h 0), .int v1, .int v2, .int v3]) ++ List.replicate (10 - (lg_sl ([.ref (h 0), .int v1, .int v2, .int v3])).length) Slot.unset).toArray) [] := by rw [hargs]; exact lg_entry_eq m _ _
  rw [hen]
  generalize (lg_sl ([.ref (h 0), .int v1, .int v2, .int v3]) ++ List.replicate (10 - (lg_sl ([.ref (h 0), .int v1, .int v2, .int v3])).length) Slot.unset).toArray = ls at hl ⊢
  have hl : lv_has ls 10 [(0, .ref (h 0)), (1, .int v1), (2, .int v2), (3, .int v3)] := hl
  change W p l e rX7_bounds s m args below meth c s.heap [] 0 0 (MQ below (va_Qi (fun (r : Int32) (u : SX × LX) => post r ∧ u.1 = S ∧ u.2 = L) (xB D (wM h cI cJ)) (xA 22 h)) args s 0 0 (xA 22 h)) (F0 m 0 ls [])
  have hret : ∀ (r : Int32) (H : Heap) (locs : List Loc) (ls : Array Slot) (pc : Nat), va_P D vwCl (wM h cI cJ S L) H → va_S (xA 22 h) s.heap H locs → post r → decode cX7_bounds pc = .ok (.ireturn, 1) → W p l e rX7_bounds s m args below meth c H locs 0 0 (MQ below (va_Qi (fun (r : Int32) (u : SX × LX) => post r ∧ u.1 = S ∧ u.2 = L) (xB D (wM h cI cJ)) (xA 22 h)) args s 0 0 (xA 22 h)) (F0 m pc ls [.int r]) := fun r H locs ls pc hP hS hw hd => W.iret hx hb hr (fun t ht hW => ⟨⟨r, (S, L), rfl, ⟨hw, rfl, rfl⟩, show va_P D vwCl (wM h cI cJ S L) t.heap by rw [ht]; exact hP⟩, hS.F ht⟩) hS.2.2 hd
  generalize MQ below (va_Qi (fun (r : Int32) (u : SX × LX) => post r ∧ u.1 = S ∧ u.2 = L) (xB D (wM h cI cJ)) (xA 22 h)) args s 0 0 (xA 22 h) = Q at hret ⊢
  unfold kX7_bounds at hw
  refine lv_iload_n hx hb dX7_bounds_0 rfl (lv_at hl 1 rfl) ?_
  refine xSi0 (As := [.int v1]) (rest := []) hst hE hP hS ⟨hx, hb, hml, hown, hts⟩ (mX7_isYear l D h cI cJ hh S L v1 _ hw) (va_cwS 1 hts gX7_bounds_X7_isYear rfl rfl rfl (by decide +kernel) ⟨Nat.le_of_ble_eq_true rfl, Nat.le_of_ble_eq_true rfl⟩) rfl hl.1 rfl (Nat.le_of_ble_eq_true rfl) dX7_bounds_1 ⟨Nat.zero_le _, Nat.zero_le _⟩ (fun r1 H locs hw hP hS => ?_)
  refine lv_if_eq (tgt := 24) hx hb dX7_bounds_4 (by decide) (fun hc => ?_) (fun hc => ?_)
  · replace hw := And.left hw hc
    refine lv_iconst (v := (-1 : Int32)) hx hb dX7_bounds_24 (by decide) ?_
    exact hret _ _ _ _ _ hP hS hw dX7_bounds_25
  · replace hw := And.right hw hc
    refine lv_iload_n hx hb dX7_bounds_7 rfl (lv_at hl 2 rfl) ?_
    refine xSi0 (As := [.int v2]) (rest := []) hst hE hP hS ⟨hx, hb, hml, hown, hts⟩ (mX7_isTop l D h cI cJ hh S L v2 _ hw) (va_cwS 1 hts gX7_bounds_X7_isTop rfl rfl rfl (by decide +kernel) ⟨Nat.le_of_ble_eq_true rfl, Nat.le_of_ble_eq_true rfl⟩) rfl hl.1 rfl (Nat.le_of_ble_eq_true rfl) dX7_bounds_8 ⟨Nat.zero_le _, Nat.zero_le _⟩ (fun r8 H locs hw hP hS => ?_)
    refine lv_if_eq (tgt := 24) hx hb dX7_bounds_11 (by decide) (fun hc => ?_) (fun hc => ?_)
    · replace hw := And.left hw hc
      refine lv_iconst (v := (-1 : Int32)) hx hb dX7_bounds_24 (by decide) ?_
      exact hret _ _ _ _ _ hP hS hw dX7_bounds_25
    · replace hw := And.right hw hc
      refine lv_iload_n hx hb dX7_bounds_14 rfl (lv_at hl 3 rfl) ?_
      refine lv_i2l hx hb dX7_bounds_15 rfl ?_
      refine lv_lconst (v := (0 : Int64)) hx hb dX7_bounds_16 (by decide) ?_
      refine lv_lconst (v := (1 : Int64)) hx hb dX7_bounds_17 (by decide) ?_
      refine xSi0 (As := [.long v3.toInt64, .long (0 : Int64), .long (1 : Int64)]) (rest := []) hst hE hP hS ⟨hx, hb, hml, hown, hts⟩ (mX7_in l D h cI cJ hh S L v3.toInt64 (0 : Int64) (1 : Int64) _ hw) (va_cwS 3 hts gX7_bounds_X7_in rfl rfl rfl (by decide +kernel) ⟨Nat.le_of_ble_eq_true rfl, Nat.le_of_ble_eq_true rfl⟩) rfl hl.1 rfl (Nat.le_of_ble_eq_true rfl) dX7_bounds_18 ⟨Nat.zero_le _, Nat.zero_le _⟩ (fun r18 H locs hw hP hS => ?_)
      refine lv_if_ne (tgt := 26) hx hb dX7_bounds_21 (by decide) (fun hc => ?_) (fun hc => ?_)
      · replace hw := And.right hw hc
        refine lv_aload_n hx hb dX7_bounds_26 rfl (lv_at hl 0 rfl) ?_
        refine lv_iload_n hx hb dX7_bounds_27 rfl (lv_at hl 1 rfl) ?_
        refine xVl0 (As := [.int v1]) (rest := []) hst hE hP hS ⟨hx, hb, hml, hown, hts⟩ (va_recv hK hP (ci := 7) (q := (RX7, TX7, 28)) rfl wM_0) (mX7_unseen l D h cI cJ hh S L v1 _ hw) (cwV 1 hts gX7_bounds_X7_unseen rfl rfl rfl (by decide +kernel) ⟨Nat.le_of_ble_eq_true rfl, Nat.le_of_ble_eq_true rfl⟩) rfl hl.1 rfl (Nat.le_of_ble_eq_true rfl) dX7_bounds_28 ⟨Nat.zero_le _, Nat.zero_le _⟩ (fun r28 H locs hw hP hS => ?_)
        refine lv_lstore (lv' := [(4, .long r28), (0, .ref (h 0)), (1, .int v1), (2, .int v2), (3, .int v3)]) hx hb dX7_bounds_31 hl (by decide) rfl (fun ls hl => ?_)
        refine lv_ldc2 (v := (10 : Int64)) hx hb hown (f0) dX7_bounds_33 ?_
        refine lv_aload_n hx hb dX7_bounds_36 rfl (lv_at hl 1 rfl) ?_
        refine lv_iload_n hx hb dX7_bounds_37 rfl (lv_at hl 2 rfl) ?_
        refine lv_iload_n hx hb dX7_bounds_38 rfl (lv_at hl 2 rfl) ?_
        refine lv_bipush (v := (-4 : Int32)) hx hb dX7_bounds_39 (by decide) ?_
        refine xVl0 (As := [.int v1, .int v1, .int (-4 : Int32)]) (rest := [.long (10 : Int64)]) hst hE hP hS ⟨hx, hb, hml, hown, hts⟩ (va_recv hK hP (ci := 7) (q := (RX7, TX7, 28)) rfl wM_0) (mX7_totalOf l D h cI cJ hh S L v1 v1 (-4 : Int32) _ hw) (cwV 3 hts gX7_bounds_X7_totalOf rfl rfl rfl (by decide +kernel) ⟨Nat.le_of_ble_eq_true rfl, Nat.le_of_ble_eq_true rfl⟩) rfl hl.1 rfl (Nat.le_of_ble_eq_true rfl) dX7_bounds_41 ⟨Nat.zero_le _, Nat.zero_le _⟩ (fun r41 H locs hw hP hS => ?_)
        refine lv_lload hx hb dX7_bounds_44 (lv_at hl 0 rfl) ?_
        refine lv_ladd hx hb dX7_bounds_46 ?_
        refine lv_lmul hx hb dX7_bounds_47 ?_
        refine lv_lstore (lv' := [(6, .long ((10 : Int64) * (r41 + r28))), (4, .long r28), (0, .ref (h 0)), (1, .int v1), (2, .int v2), (3, .int v3)]) hx hb dX7_bounds_48 hl (by decide) rfl (fun ls hl => ?_)
        refine lv_lload hx hb dX7_bounds_50 (lv_at hl 0 rfl) ?_
        refine lv_lconst (v := (0 : Int64)) hx hb dX7_bounds_52 (by decide) ?_
        refine W.lcmp hx hb dX7_bounds_53 ?_
        refine lv_if_ne (tgt := 60) hx hb dX7_bounds_54 (by decide) (fun hc => ?_) (fun hc => ?_)
        · replace hw := And.right hw (fun q => hc ((lg_cmp_eq _ _).mpr q))
          refine lv_aload_n hx hb dX7_bounds_60 rfl (lv_at hl 2 rfl) ?_
          refine lv_iload_n hx hb dX7_bounds_61 rfl (lv_at hl 3 rfl) ?_
          refine lv_iload_n hx hb dX7_bounds_62 rfl (lv_at hl 3 rfl) ?_
          refine lv_iload_n hx hb dX7_bounds_63 rfl (lv_at hl 4 rfl) ?_
          refine lv_bipush (v := (-4 : Int32)) hx hb dX7_bounds_64 (by decide) ?_
          refine xVl0 (As := [.int v1, .int v1, .int v2, .int (-4 : Int32)]) (rest := []) hst hE hP hS ⟨hx, hb, hml, hown, hts⟩ (va_recv hK hP (ci := 7) (q := (RX7, TX7, 28)) rfl wM_0) (mX7_topOf l D h cI cJ hh S L v1 v1 v2 (-4 : Int32) _ hw) (cwV 4 hts gX7_bounds_X7_topOf rfl rfl rfl (by decide +kernel) ⟨Nat.le_of_ble_eq_true rfl, Nat.le_of_ble_eq_true rfl⟩) rfl hl.1 rfl (Nat.le_of_ble_eq_true rfl) dX7_bounds_66 ⟨Nat.zero_le _, Nat.zero_le _⟩ (fun r66 H locs hw hP hS => ?_)
          refine lv_iload_n hx hb dX7_bounds_69 rfl (lv_at hl 5 rfl) ?_
          refine lv_if_ne (tgt := 77) hx hb dX7_bounds_70 (by decide) (fun hc => ?_) (fun hc => ?_)
          · replace hw := And.right hw hc
            refine lv_ldc2 (v := (10 : Int64)) hx hb hown (f0) dX7_bounds_77 ?_
            refine lv_lload hx hb dX7_bounds_80 (lv_at hl 1 rfl) ?_
            refine lv_lmul hx hb dX7_bounds_82 ?_
            refine lv_ladd hx hb dX7_bounds_83 ?_
            refine lv_lstore (lv' := [(8, .long (r66 + ((10 : Int64) * r28))), (6, .long ((10 : Int64) * (r41 + r28))), (4, .long r28), (0, .ref (h 0)), (1, .int v1), (2, .int v2), (3, .int v3)]) hx hb dX7_bounds_84 hl (by decide) rfl (fun ls hl => ?_)
            refine lv_lload hx hb dX7_bounds_86 (lv_at hl 0 rfl) ?_
            refine lv_ldc2 (v := (100000 : Int64)) hx hb hown (f1) dX7_bounds_88 ?_
            refine lv_lmul hx hb dX7_bounds_91 ?_
            refine lv_lload hx hb dX7_bounds_92 (lv_at hl 1 rfl) ?_
            obtain ⟨hi, hw⟩ := hw
            refine lv_ldiv hx hb dX7_bounds_94 hi ?_
            refine lv_l2i hx hb dX7_bounds_95 rfl ?_
            exact hret _ _ _ _ _ hP hS hw dX7_bounds_96
          · replace hw := And.left hw hc
            refine lv_lconst (v := (0 : Int64)) hx hb dX7_bounds_73 (by decide) ?_
            refine lv_goto (tgt := 83) hx hb dX7_bounds_74 (by decide) ?_
            refine lv_ladd hx hb dX7_bounds_83 ?_
            refine lv_lstore (lv' := [(8, .long (r66 + (0 : Int64))), (6, .long ((10 : Int64) * (r41 + r28))), (4, .long r28), (0, .ref (h 0)), (1, .int v1), (2, .int v2), (3, .int v3)]) hx hb dX7_bounds_84 hl (by decide) rfl (fun ls hl => ?_)
            refine lv_lload hx hb dX7_bounds_86 (lv_at hl 0 rfl) ?_
            refine lv_ldc2 (v := (100000 : Int64)) hx hb hown (f1) dX7_bounds_88 ?_
            refine lv_lmul hx hb dX7_bounds_91 ?_
            refine lv_lload hx hb dX7_bounds_92 (lv_at hl 1 rfl) ?_
            obtain ⟨hi, hw⟩ := hw
            refine lv_ldiv hx hb dX7_bounds_94 hi ?_
            refine lv_l2i hx hb dX7_bounds_95 rfl ?_
            exact hret _ _ _ _ _ hP hS hw dX7_bounds_96
        · replace hw := And.left hw ((lg_cmp_eq _ _).mp hc)
          refine lv_bipush (v := (-4 : Int32)) hx hb dX7_bounds_57 (by decide) ?_
          exact hret _ _ _ _ _ hP hS hw dX7_bounds_59
      · replace hw := And.left hw hc
        refine lv_iconst (v := (-1 : Int32)) hx hb dX7_bounds_24 (by decide) ?_
        exact hret _ _ _ _ _ hP hS hw dX7_bounds_25
abbrev rX7_heap : Room := { frames := 2, cells := 0, slots := 0, locals := 49 }
set_option maxHeartbeats 4000000 in
set_option maxRecDepth 100000 in
theorem mX7_heap (l : Launch) (D : va_G) (h : Nat → Nat) (cI cJ : ClassId) (hh : xdis 22 h) (S : SX) (L : LX) (v1 : Int32) (v2 : Int32) (v3 : Int32) (post : Int32 → Prop) (hw : kX7_heap S L v1 v2 v3 post) : Met l yX7_heap wsX7_heap rX7_heap (xPre D (wM h cI cJ) (mE D cI cJ) S L [.ref (h 0), .int v1, .int v2, .int v3]) (va_Qi (fun (r : Int32) (u : SX × LX) => post r ∧ u.1 = S ∧ u.2 = L) (xB D (wM h cI cJ)) (xA 22 h)) 0 0 (xA 22 h) := by
  refine Met.ofW (cc := cX7_heap) (maxL := 11) (ret := (some .int)) (by decide) rfl ?_
  intro p e s m args below meth c s₁ B hml hv
  obtain ⟨hargs, hP, hE⟩ := hv
  have hx := B.exec
  have hb := B.bytes
  have hr := B.returns
  have hlocks := B.notSynchronized
  have hts := atoms_spec (ws := wsX7_heap) B.pre
  have hown : s.vm.findClass RX7 = some m.cls := findClass_of_methodNamed B.named
  have hS : va_S (xA 22 h) s.heap s.heap [] := va_S.rf
  have hD : ∀ (S : SX) (L : LX), va_D (xA 22 h) (wM h cI cJ S L) := fun S L => wM_D hh cI cJ S L
  have hK := id hE
  have hst : xSt (xA 22 h) (mE D cI cJ) := mE_st D _ cI cJ
  have f0 := hts (.fieldLink RX7 18 "BookOfWillsModel" "yearOf" "[I") (by decide +kernel)
  have inX7 : ∀ w ∈ u_ws RX7 TX7 28, w ∈ wsX7_heap := fun w hw9 => List.mem_cons_of_mem _ (List.mem_append_right _ hw9)
  have f2 := hts (.fieldLink RX7 87 "BookOfWillsModel" "wills" "I") (by decide +kernel)
  have f3 := hts (.fieldLink RX7 33 "BookOfWillsModel" "lines" "[I") (by decide +kernel)
  have f4 := hts (.fieldLink RX7 36 "BookOfWillsModel" "keens" "[I") (by decide +kernel)
  have f5 := hts (.constantLong RX7 146 (255)) (by decide +kernel)
  have f6 := hts (.constantLong RX7 142 (999)) (by decide +kernel)
  have f7 := hts (.constantLong RX7 114 (3)) (by decide +kernel)
  have hl := lv_entry ([.ref (h 0), .int v1, .int v2, .int v3]) (n := 11) (Nat.le_of_ble_eq_true rfl)
  have hen : entryFrame m args 11 = F0 m 0 ((lg_sl ([.ref (h 0), .int v1, .int v2, .int v3]) ++ List.replicate (11 - (lg_sl ([.ref (h 0), .int v1, .int v2, .int v3])).length) Slot.unset).toArray) [] := by rw [hargs]; exact lg_entry_eq m _ _
  rw [hen]
  generalize (lg_sl ([.ref (h 0), .int v1, .int v2, .int v3]) ++ List.replicate (11 - (lg_sl ([.ref (h 0), .int v1, .int v2, .int v3])).length) Slot.unset).toArray = ls at hl ⊢
  have hl : lv_has ls 11 [(0, .ref (h 0)), (1, .int v1), (2, .int v2), (3, .int v3)] := hl
  change W p l e rX7_heap s m args below meth c s.heap [] 0 0 (MQ below (va_Qi (fun (r : Int32) (u : SX × LX) => post r ∧ u.1 = S ∧ u.2 = L) (xB D (wM h cI cJ)) (xA 22 h)) args s 0 0 (xA 22 h)) (F0 m 0 ls [])
  have hret : ∀ (r : Int32) (H : Heap) (locs : List Loc) (ls : Array Slot) (pc : Nat), va_P D vwCl (wM h cI cJ S L) H → va_S (xA 22 h) s.heap H locs → post r → decode cX7_heap pc = .ok (.ireturn, 1) → W p l e rX7_heap s m args below meth c H locs 0 0 (MQ below (va_Qi (fun (r : Int32) (u : SX × LX) => post r ∧ u.1 = S ∧ u.2 = L) (xB D (wM h cI cJ)) (xA 22 h)) args s 0 0 (xA 22 h)) (F0 m pc ls [.int r]) := fun r H locs ls pc hP hS hw hd => W.iret hx hb hr (fun t ht hW => ⟨⟨r, (S, L), rfl, ⟨hw, rfl, rfl⟩, show va_P D vwCl (wM h cI cJ S L) t.heap by rw [ht]; exact hP⟩, hS.F ht⟩) hS.2.2 hd
  generalize MQ below (va_Qi (fun (r : Int32) (u : SX × LX) => post r ∧ u.1 = S ∧ u.2 = L) (xB D (wM h cI cJ)) (xA 22 h)) args s 0 0 (xA 22 h) = Q at hret ⊢
  have b50 : ∀  (n50 : Nat) (v4 : Int32) (v5 : Int32) (v6 : Int32) (v7 : Int32) (H : Heap) (locs : List Loc) (ls : Array Slot), lv_has ls 11 [(0, .ref (h 0)), (1, .int v1), (2, .int v2), (3, .int v3), (4, .int v4), (5, .int v5), (6, .int v6), (7, .int v7)] → va_P D vwCl (wM h cI cJ S L) H → va_S (xA 22 h) s.heap H locs → kX7_heap_b50 S L v1 v2 v3 post n50 v4 v5 v6 v7 → W p l e rX7_heap s m args below meth c H locs 0 0 Q (F0 m 50 ls []) := by
    intro n50
    induction n50 with
    | zero => intro v4 v5 v6 v7 H locs ls hl hP hS hw; exact absurd hw id
    | succ n50 i50 =>
      have b82 : ∀ (v4 : Int32) (v5 : Int32) (v6 : Int32) (v7 : Int32) (z0 : Int32) (H : Heap) (locs : List Loc) (ls : Array Slot), lv_has ls 11 [(0, .ref (h 0)), (1, .int v1), (2, .int v2), (3, .int v3), (4, .int v4), (5, .int v5), (6, .int v6), (7, .int v7)] → va_P D vwCl (wM h cI cJ S L) H → va_S (xA 22 h) s.heap H locs → kX7_heap_b82 S L v1 v2 v3 post (kX7_heap_b50 S L v1 v2 v3 post n50) v4 v5 v6 v7 z0 → W p l e rX7_heap s m args below meth c H locs 0 0 Q (F0 m 82 ls [.int z0]) := by
        have b118 : ∀ (v6 : Int32) (v8 : Int32) (n118 : Nat) (v4 : Int32) (v5 : Int32) (v7 : Int32) (v9 : Int32) (H : Heap) (locs : List Loc) (ls : Array Slot), lv_has ls 11 [(0, .ref (h 0)), (1, .int v1), (2, .int v2), (3, .int v3), (4, .int v4), (5, .int v5), (6, .int v6), (7, .int v7), (8, .int v8), (9, .int v9)] → va_P D vwCl (wM h cI cJ S L) H → va_S (xA 22 h) s.heap H locs → kX7_heap_b118 S L v1 v2 v3 v6 v8 post (kX7_heap_b50 S L v1 v2 v3 post n50) n118 v4 v5 v7 v9 → W p l e rX7_heap s m args below meth c H locs 0 0 Q (F0 m 118 ls []) := by
          intro v6 v8 n118
          induction n118 with
          | zero => intro v4 v5 v7 v9 H locs ls hl hP hS hw; exact absurd hw id
          | succ n118 i118 =>
            have b182 : ∀ (v5 : Int32) (v7 : Int32) (v9 : Int32) (v10 : Int32) (z0 : Int32) (z1 : Int32) (H : Heap) (locs : List Loc) (ls : Array Slot), lv_has ls 11 [(0, .ref (h 0)), (1, .int v1), (2, .int v2), (3, .int v3), (5, .int v5), (6, .int v6), (7, .int v7), (8, .int v8), (9, .int v9), (10, .int v10)] → va_P D vwCl (wM h cI cJ S L) H → va_S (xA 22 h) s.heap H locs → kX7_heap_b182 S L v1 v2 v3 v6 v8 post (kX7_heap_b118 S L v1 v2 v3 v6 v8 post (kX7_heap_b50 S L v1 v2 v3 post n50) n118) v5 v7 v9 v10 z0 z1 → W p l e rX7_heap s m args below meth c H locs 0 0 Q (F0 m 182 ls [.int z1, .int z0]) := by
              intro v5 v7 v9 v10 z0 z1 H locs ls hl hP hS hw
              unfold kX7_heap_b182 at hw
              refine lv_iadd hx hb dX7_heap_182 ?_
              refine lv_istore (lv' := [(4, .int (z0 + z1)), (0, .ref (h 0)), (1, .int v1), (2, .int v2), (3, .int v3), (5, .int v5), (6, .int v6), (7, .int v7), (8, .int v8), (9, .int v9), (10, .int v10)]) hx hb dX7_heap_183 hl (by decide) rfl (fun ls hl => ?_)
              refine lv_iload hx hb dX7_heap_185 (lv_at hl 5 rfl) ?_
              refine lv_aload_n hx hb dX7_heap_187 rfl (lv_at hl 1 rfl) ?_
              refine va_get (D := D) (ci := 7) (v := .ref (h 2)) (C := RX7) (T := TX7) (N := 28) hx hb hts inX7 hown hK hP 0 wM_0 rfl 4 (by decide) f0 (fun _ h9 => h9) rfl dX7_heap_188 ?_
              refine lv_iload hx hb dX7_heap_191 (lv_at hl 9 rfl) ?_
              obtain ⟨hi, hw⟩ := hw
              refine va_iald hx hb hK hP 2 0 wM_2 rfl hi dX7_heap_193 ?_
              refine lv_iload hx hb dX7_heap_194 (lv_at hl 7 rfl) ?_
              refine lv_icmp_ne (tgt := 215) hx hb dX7_heap_196 (by decide) (fun hc => ?_) (fun hc => ?_)
              · replace hw := And.right hw hc
                refine lv_iconst (v := (0 : Int32)) hx hb dX7_heap_215 (by decide) ?_
                refine lv_iadd hx hb dX7_heap_216 ?_
                refine lv_istore (lv' := [(5, .int (v5 + (0 : Int32))), (4, .int (z0 + z1)), (0, .ref (h 0)), (1, .int v1), (2, .int v2), (3, .int v3), (6, .int v6), (7, .int v7), (8, .int v8), (9, .int v9), (10, .int v10)]) hx hb dX7_heap_217 hl (by decide) rfl (fun ls hl => ?_)
                refine lv_iinc (v := v9 + (1 : Int32)) (lv' := [(9, .int (v9 + (1 : Int32))), (5, .int (v5 + (0 : Int32))), (4, .int (z0 + z1)), (0, .ref (h 0)), (1, .int v1), (2, .int v2), (3, .int v3), (6, .int v6), (7, .int v7), (8, .int v8), (10, .int v10)]) hx hb dX7_heap_219 hl (k := 9) rfl rfl (by decide) rfl (fun ls hl => ?_)
                refine lv_goto (tgt := 118) hx hb dX7_heap_222 (by decide) ?_
                exact i118 (z0 + z1) (v5 + (0 : Int32)) v7 (v9 + (1 : Int32)) _ _ _ (lv_sub hl [3, 4, 5, 6, 2, 1, 7, 8, 9, 0] rfl) hP hS hw
              · replace hw := And.left hw hc
                refine lv_iload hx hb dX7_heap_199 (lv_at hl 10 rfl) ?_
                refine lv_i2l hx hb dX7_heap_201 rfl ?_
                refine lv_lconst (v := (1 : Int64)) hx hb dX7_heap_202 (by decide) ?_
                refine lv_iload_n hx hb dX7_heap_203 rfl (lv_at hl 3 rfl) ?_
                refine lv_i2l hx hb dX7_heap_204 rfl ?_
                refine xSi0 (As := [.long v10.toInt64, .long (1 : Int64), .long v2.toInt64]) (rest := [.int v5]) hst hE hP hS ⟨hx, hb, hml, hown, hts⟩ (mX7_in l D h cI cJ hh S L v10.toInt64 (1 : Int64) v2.toInt64 _ hw) (va_cwS 3 hts gX7_heap_X7_in rfl rfl rfl (by decide +kernel) ⟨Nat.le_of_ble_eq_true rfl, Nat.le_of_ble_eq_true rfl⟩) rfl hl.1 rfl (Nat.le_of_ble_eq_true rfl) dX7_heap_205 ⟨Nat.zero_le _, Nat.zero_le _⟩ (fun r205 H locs hw hP hS => ?_)
                refine lv_if_eq (tgt := 215) hx hb dX7_heap_208 (by decide) (fun hc => ?_) (fun hc => ?_)
                · replace hw := And.left hw hc
                  refine lv_iconst (v := (0 : Int32)) hx hb dX7_heap_215 (by decide) ?_
                  refine lv_iadd hx hb dX7_heap_216 ?_
                  refine lv_istore (lv' := [(5, .int (v5 + (0 : Int32))), (4, .int (z0 + z1)), (0, .ref (h 0)), (1, .int v1), (2, .int v2), (3, .int v3), (6, .int v6), (7, .int v7), (8, .int v8), (9, .int v9), (10, .int v10)]) hx hb dX7_heap_217 hl (by decide) rfl (fun ls hl => ?_)
                  refine lv_iinc (v := v9 + (1 : Int32)) (lv' := [(9, .int (v9 + (1 : Int32))), (5, .int (v5 + (0 : Int32))), (4, .int (z0 + z1)), (0, .ref (h 0)), (1, .int v1), (2, .int v2), (3, .int v3), (6, .int v6), (7, .int v7), (8, .int v8), (10, .int v10)]) hx hb dX7_heap_219 hl (k := 9) rfl rfl (by decide) rfl (fun ls hl => ?_)
                  refine lv_goto (tgt := 118) hx hb dX7_heap_222 (by decide) ?_
                  exact i118 (z0 + z1) (v5 + (0 : Int32)) v7 (v9 + (1 : Int32)) _ _ _ (lv_sub hl [3, 4, 5, 6, 2, 1, 7, 8, 9, 0] rfl) hP hS hw
                · replace hw := And.right hw hc
                  refine lv_iconst (v := (1 : Int32)) hx hb dX7_heap_211 (by decide) ?_
                  refine lv_goto (tgt := 216) hx hb dX7_heap_212 (by decide) ?_
                  refine lv_iadd hx hb dX7_heap_216 ?_
                  refine lv_istore (lv' := [(5, .int (v5 + (1 : Int32))), (4, .int (z0 + z1)), (0, .ref (h 0)), (1, .int v1), (2, .int v2), (3, .int v3), (6, .int v6), (7, .int v7), (8, .int v8), (9, .int v9), (10, .int v10)]) hx hb dX7_heap_217 hl (by decide) rfl (fun ls hl => ?_)
                  refine lv_iinc (v := v9 + (1 : Int32)) (lv' := [(9, .int (v9 + (1 : Int32))), (5, .int (v5 + (1 : Int32))), (4, .int (z0 + z1)), (0, .ref (h 0)), (1, .int v1), (2, .int v2), (3, .int v3), (6, .int v6), (7, .int v7), (8, .int v8), (10, .int v10)]) hx hb dX7_heap_219 hl (k := 9) rfl rfl (by decide) rfl (fun ls hl => ?_)
                  refine lv_goto (tgt := 118) hx hb dX7_heap_222 (by decide) ?_
                  exact i118 (z0 + z1) (v5 + (1 : Int32)) v7 (v9 + (1 : Int32)) _ _ _ (lv_sub hl [3, 4, 5, 6, 2, 1, 7, 8, 9, 0] rfl) hP hS hw
            have b181 : ∀ (v5 : Int32) (v7 : Int32) (v9 : Int32) (v10 : Int32) (z0 : Int32) (H : Heap) (locs : List Loc) (ls : Array Slot), lv_has ls 11 [(0, .ref (h 0)), (1, .int v1), (2, .int v2), (3, .int v3), (5, .int v5), (6, .int v6), (7, .int v7), (8, .int v8), (9, .int v9), (10, .int v10)] → va_P D vwCl (wM h cI cJ S L) H → va_S (xA 22 h) s.heap H locs → kX7_heap_b181 S L v1 v2 v3 v6 v8 post (kX7_heap_b182 S L v1 v2 v3 v6 v8 post (kX7_heap_b118 S L v1 v2 v3 v6 v8 post (kX7_heap_b50 S L v1 v2 v3 post n50) n118)) v5 v7 v9 v10 z0 → W p l e rX7_heap s m args below meth c H locs 0 0 Q (F0 m 181 ls [.int z0]) := by
              intro v5 v7 v9 v10 z0 H locs ls hl hP hS hw
              unfold kX7_heap_b181 at hw
              refine lv_iconst (v := (0 : Int32)) hx hb dX7_heap_181 (by decide) ?_
              exact b182 v5 v7 v9 v10 z0 (0 : Int32) _ _ _ (lv_sub hl [0, 1, 2, 3, 4, 5, 6, 7, 8, 9] rfl) hP hS hw
            intro v4 v5 v7 v9 H locs ls hl hP hS hw
            unfold kX7_heap_b118 at hw
            refine lv_iload hx hb dX7_heap_118 (lv_at hl 9 rfl) ?_
            refine lv_aload_n hx hb dX7_heap_120 rfl (lv_at hl 0 rfl) ?_
            refine va_get (D := D) (ci := 7) (v := .int (S 0 2)) (C := RX7) (T := TX7) (N := 28) hx hb hts inX7 hown hK hP 0 wM_0 rfl 3 (by decide) f2 (fun _ h9 => h9) rfl dX7_heap_121 ?_
            refine lv_icmp_ge (tgt := 225) hx hb dX7_heap_124 (by decide) (fun hc => ?_) (fun hc => ?_)
            · replace hw := And.left hw hc
              refine lv_iinc (v := v7 + (1 : Int32)) (lv' := [(7, .int (v7 + (1 : Int32))), (0, .ref (h 0)), (1, .int v1), (2, .int v2), (3, .int v3), (4, .int v4), (5, .int v5), (6, .int v6), (8, .int v8), (9, .int v9)]) hx hb dX7_heap_225 hl (k := 7) rfl rfl (by decide) rfl (fun ls hl => ?_)
              refine lv_goto (tgt := 50) hx hb dX7_heap_228 (by decide) ?_
              exact i50 v4 v5 v6 (v7 + (1 : Int32)) _ _ _ (lv_sub hl [1, 2, 3, 4, 5, 6, 7, 0] rfl) hP hS hw
            · replace hw := And.right hw hc
              refine lv_iload hx hb dX7_heap_127 (lv_at hl 8 rfl) ?_
              refine lv_if_eq (tgt := 225) hx hb dX7_heap_129 (by decide) (fun hc => ?_) (fun hc => ?_)
              · replace hw := And.left hw hc
                refine lv_iinc (v := v7 + (1 : Int32)) (lv' := [(7, .int (v7 + (1 : Int32))), (0, .ref (h 0)), (1, .int v1), (2, .int v2), (3, .int v3), (4, .int v4), (5, .int v5), (6, .int v6), (8, .int v8), (9, .int v9)]) hx hb dX7_heap_225 hl (k := 7) rfl rfl (by decide) rfl (fun ls hl => ?_)
                refine lv_goto (tgt := 50) hx hb dX7_heap_228 (by decide) ?_
                exact i50 v4 v5 v6 (v7 + (1 : Int32)) _ _ _ (lv_sub hl [1, 2, 3, 4, 5, 6, 7, 0] rfl) hP hS hw
              · replace hw := And.right hw hc
                refine lv_aload_n hx hb dX7_heap_132 rfl (lv_at hl 0 rfl) ?_
                refine lv_iload hx hb dX7_heap_133 (lv_at hl 9 rfl) ?_
                refine lv_iload hx hb dX7_heap_135 (lv_at hl 7 rfl) ?_
                refine xVi0 (As := [.int v9, .int v7]) (rest := []) hst hE hP hS ⟨hx, hb, hml, hown, hts⟩ (va_recv hK hP (ci := 7) (q := (RX7, TX7, 28)) rfl wM_0) (mX7_sworn l D h cI cJ hh S L v9 v7 _ hw) (cwV 2 hts gX7_heap_X7_sworn rfl rfl rfl (by decide +kernel) ⟨Nat.le_of_ble_eq_true rfl, Nat.le_of_ble_eq_true rfl⟩) rfl hl.1 rfl (Nat.le_of_ble_eq_true rfl) dX7_heap_137 ⟨Nat.zero_le _, Nat.zero_le _⟩ (fun r137 H locs hw hP hS => ?_)
                refine lv_aload_n hx hb dX7_heap_140 rfl (lv_at hl 0 rfl) ?_
                refine va_get (D := D) (ci := 7) (v := .ref (h 7)) (C := RX7) (T := TX7) (N := 28) hx hb hts inX7 hown hK hP 0 wM_0 rfl 9 (by decide) f3 (fun _ h9 => h9) rfl dX7_heap_141 ?_
                refine lv_iload hx hb dX7_heap_144 (lv_at hl 7 rfl) ?_
                obtain ⟨hi, hw⟩ := hw
                refine va_iald hx hb hK hP 7 0 wM_7 rfl hi dX7_heap_146 ?_
                refine lv_isub hx hb dX7_heap_147 ?_
                refine lv_istore (lv' := [(10, .int (r137 - (S 7 v7.toNatClampNeg))), (0, .ref (h 0)), (1, .int v1), (2, .int v2), (3, .int v3), (4, .int v4), (5, .int v5), (6, .int v6), (7, .int v7), (8, .int v8), (9, .int v9)]) hx hb dX7_heap_148 hl (by decide) rfl (fun ls hl => ?_)
                refine lv_iload hx hb dX7_heap_150 (lv_at hl 5 rfl) ?_
                refine lv_aload_n hx hb dX7_heap_152 rfl (lv_at hl 1 rfl) ?_
                refine va_get (D := D) (ci := 7) (v := .ref (h 2)) (C := RX7) (T := TX7) (N := 28) hx hb hts inX7 hown hK hP 0 wM_0 rfl 4 (by decide) f0 (fun _ h9 => h9) rfl dX7_heap_153 ?_
                refine lv_iload hx hb dX7_heap_156 (lv_at hl 10 rfl) ?_
                obtain ⟨hi, hw⟩ := hw
                refine va_iald hx hb hK hP 2 0 wM_2 rfl hi dX7_heap_158 ?_
                refine lv_iload hx hb dX7_heap_159 (lv_at hl 8 rfl) ?_
                refine lv_icmp_ne (tgt := 181) hx hb dX7_heap_161 (by decide) (fun hc => ?_) (fun hc => ?_)
                · replace hw := And.right hw hc
                  exact b181 v5 v7 v9 (r137 - (S 7 v7.toNatClampNeg)) v4 _ _ _ (lv_sub hl [1, 2, 3, 4, 6, 7, 8, 9, 10, 0] rfl) hP hS hw
                · replace hw := And.left hw hc
                  refine lv_iload hx hb dX7_heap_164 (lv_at hl 0 rfl) ?_
                  refine lv_i2l hx hb dX7_heap_166 rfl ?_
                  refine lv_iload_n hx hb dX7_heap_167 rfl (lv_at hl 3 rfl) ?_
                  refine lv_ineg hx hb dX7_heap_168 ?_
                  refine lv_i2l hx hb dX7_heap_169 rfl ?_
                  refine lv_lconst (v := (0 : Int64)) hx hb dX7_heap_170 (by decide) ?_
                  refine xSi0 (As := [.long ((r137 - (S 7 v7.toNatClampNeg)).toInt64), .long ((-v2).toInt64), .long (0 : Int64)]) (rest := [.int v4]) hst hE hP hS ⟨hx, hb, hml, hown, hts⟩ (mX7_in l D h cI cJ hh S L ((r137 - (S 7 v7.toNatClampNeg)).toInt64) ((-v2).toInt64) (0 : Int64) _ hw) (va_cwS 3 hts gX7_heap_X7_in rfl rfl rfl (by decide +kernel) ⟨Nat.le_of_ble_eq_true rfl, Nat.le_of_ble_eq_true rfl⟩) rfl hl.1 rfl (Nat.le_of_ble_eq_true rfl) dX7_heap_171 ⟨Nat.zero_le _, Nat.zero_le _⟩ (fun r171 H locs hw hP hS => ?_)
                  refine lv_if_eq (tgt := 181) hx hb dX7_heap_174 (by decide) (fun hc => ?_) (fun hc => ?_)
                  · replace hw := And.left hw hc
                    exact b181 v5 v7 v9 (r137 - (S 7 v7.toNatClampNeg)) v4 _ _ _ (lv_sub hl [1, 2, 3, 4, 6, 7, 8, 9, 10, 0] rfl) hP hS hw
                  · replace hw := And.right hw hc
                    refine lv_iconst (v := (1 : Int32)) hx hb dX7_heap_177 (by decide) ?_
                    refine lv_goto (tgt := 182) hx hb dX7_heap_178 (by decide) ?_
                    exact b182 v5 v7 v9 (r137 - (S 7 v7.toNatClampNeg)) v4 (1 : Int32) _ _ _ (lv_sub hl [1, 2, 3, 4, 6, 7, 8, 9, 10, 0] rfl) hP hS hw
        intro v4 v5 v6 v7 z0 H locs ls hl hP hS hw
        unfold kX7_heap_b82 at hw
        refine lv_istore (lv' := [(8, .int z0), (0, .ref (h 0)), (1, .int v1), (2, .int v2), (3, .int v3), (4, .int v4), (5, .int v5), (6, .int v6), (7, .int v7)]) hx hb dX7_heap_82 hl (by decide) rfl (fun ls hl => ?_)
        refine lv_iload hx hb dX7_heap_84 (lv_at hl 0 rfl) ?_
        refine lv_if_eq (tgt := 111) hx hb dX7_heap_86 (by decide) (fun hc => ?_) (fun hc => ?_)
        · replace hw := And.left hw hc
          refine lv_iload hx hb dX7_heap_111 (lv_at hl 7 rfl) ?_
          refine lv_istore (lv' := [(6, .int v6), (8, .int z0), (0, .ref (h 0)), (1, .int v1), (2, .int v2), (3, .int v3), (4, .int v4), (5, .int v5), (7, .int v7)]) hx hb dX7_heap_113 hl (by decide) rfl (fun ls hl => ?_)
          refine lv_iconst (v := (0 : Int32)) hx hb dX7_heap_115 (by decide) ?_
          refine lv_istore (lv' := [(9, .int (0 : Int32)), (6, .int v6), (8, .int z0), (0, .ref (h 0)), (1, .int v1), (2, .int v2), (3, .int v3), (4, .int v4), (5, .int v5), (7, .int v7)]) hx hb dX7_heap_116 hl (by decide) rfl (fun ls hl => ?_)
          obtain ⟨n118, hw⟩ := hw
          exact b118 v6 z0 n118 v4 v5 v7 (0 : Int32) _ _ _ (lv_sub hl [3, 4, 5, 6, 7, 8, 1, 9, 2, 0] rfl) hP hS hw
        · replace hw := And.right hw hc
          refine lv_aload_n hx hb dX7_heap_89 rfl (lv_at hl 1 rfl) ?_
          refine va_get (D := D) (ci := 7) (v := .ref (h 8)) (C := RX7) (T := TX7) (N := 28) hx hb hts inX7 hown hK hP 0 wM_0 rfl 10 (by decide) f4 (fun _ h9 => h9) rfl dX7_heap_90 ?_
          refine lv_iload hx hb dX7_heap_93 (lv_at hl 8 rfl) ?_
          obtain ⟨hi, hw⟩ := hw
          refine va_iald hx hb hK hP 8 0 wM_8 rfl hi dX7_heap_95 ?_
          refine lv_iload hx hb dX7_heap_96 (lv_at hl 7 rfl) ?_
          refine lv_icmp_le (tgt := 111) hx hb dX7_heap_98 (by decide) (fun hc => ?_) (fun hc => ?_)
          · replace hw := And.left hw hc
            refine lv_iload hx hb dX7_heap_111 (lv_at hl 7 rfl) ?_
            refine lv_istore (lv' := [(6, .int v6), (8, .int z0), (0, .ref (h 0)), (1, .int v1), (2, .int v2), (3, .int v3), (4, .int v4), (5, .int v5), (7, .int v7)]) hx hb dX7_heap_113 hl (by decide) rfl (fun ls hl => ?_)
            refine lv_iconst (v := (0 : Int32)) hx hb dX7_heap_115 (by decide) ?_
            refine lv_istore (lv' := [(9, .int (0 : Int32)), (6, .int v6), (8, .int z0), (0, .ref (h 0)), (1, .int v1), (2, .int v2), (3, .int v3), (4, .int v4), (5, .int v5), (7, .int v7)]) hx hb dX7_heap_116 hl (by decide) rfl (fun ls hl => ?_)
            obtain ⟨n118, hw⟩ := hw
            exact b118 v6 z0 n118 v4 v5 v7 (0 : Int32) _ _ _ (lv_sub hl [3, 4, 5, 6, 7, 8, 1, 9, 2, 0] rfl) hP hS hw
          · replace hw := And.right hw hc
            refine lv_aload_n hx hb dX7_heap_101 rfl (lv_at hl 1 rfl) ?_
            refine va_get (D := D) (ci := 7) (v := .ref (h 8)) (C := RX7) (T := TX7) (N := 28) hx hb hts inX7 hown hK hP 0 wM_0 rfl 10 (by decide) f4 (fun _ h9 => h9) rfl dX7_heap_102 ?_
            refine lv_iload hx hb dX7_heap_105 (lv_at hl 8 rfl) ?_
            obtain ⟨hi, hw⟩ := hw
            refine va_iald hx hb hK hP 8 0 wM_8 rfl hi dX7_heap_107 ?_
            refine lv_goto (tgt := 113) hx hb dX7_heap_108 (by decide) ?_
            refine lv_istore (lv' := [(6, .int (S 8 v7.toNatClampNeg)), (8, .int z0), (0, .ref (h 0)), (1, .int v1), (2, .int v2), (3, .int v3), (4, .int v4), (5, .int v5), (7, .int v7)]) hx hb dX7_heap_113 hl (by decide) rfl (fun ls hl => ?_)
            refine lv_iconst (v := (0 : Int32)) hx hb dX7_heap_115 (by decide) ?_
            refine lv_istore (lv' := [(9, .int (0 : Int32)), (6, .int (S 8 v7.toNatClampNeg)), (8, .int z0), (0, .ref (h 0)), (1, .int v1), (2, .int v2), (3, .int v3), (4, .int v4), (5, .int v5), (7, .int v7)]) hx hb dX7_heap_116 hl (by decide) rfl (fun ls hl => ?_)
            obtain ⟨n118, hw⟩ := hw
            exact b118 (S 8 v7.toNatClampNeg) z0 n118 v4 v5 v7 (0 : Int32) _ _ _ (lv_sub hl [3, 4, 5, 6, 7, 8, 1, 9, 2, 0] rfl) hP hS hw
      have b81 : ∀ (v4 : Int32) (v5 : Int32) (v6 : Int32) (v7 : Int32) (H : Heap) (locs : List Loc) (ls : Array Slot), lv_has ls 11 [(0, .ref (h 0)), (1, .int v1), (2, .int v2), (3, .int v3), (4, .int v4), (5, .int v5), (6, .int v6), (7, .int v7)] → va_P D vwCl (wM h cI cJ S L) H → va_S (xA 22 h) s.heap H locs → kX7_heap_b81 S L v1 v2 v3 post (kX7_heap_b82 S L v1 v2 v3 post (kX7_heap_b50 S L v1 v2 v3 post n50)) v4 v5 v6 v7 → W p l e rX7_heap s m args below meth c H locs 0 0 Q (F0 m 81 ls []) := by
        intro v4 v5 v6 v7 H locs ls hl hP hS hw
        unfold kX7_heap_b81 at hw
        refine lv_iconst (v := (0 : Int32)) hx hb dX7_heap_81 (by decide) ?_
        exact b82 v4 v5 v6 v7 (0 : Int32) _ _ _ (lv_sub hl [0, 1, 2, 3, 4, 5, 6, 7] rfl) hP hS hw
      have b247 : ∀ (v4 : Int32) (v5 : Int32) (v6 : Int32) (z0 : Int32) (H : Heap) (locs : List Loc) (ls : Array Slot), lv_has ls 11 [(3, .int v3), (4, .int v4), (5, .int v5), (6, .int v6)] → va_P D vwCl (wM h cI cJ S L) H → va_S (xA 22 h) s.heap H locs → kX7_heap_b247 S L v1 v2 v3 post v4 v5 v6 z0 → W p l e rX7_heap s m args below meth c H locs 0 0 Q (F0 m 247 ls [.int z0]) := by
        intro v4 v5 v6 z0 H locs ls hl hP hS hw
        unfold kX7_heap_b247 at hw
        refine lv_istore (lv' := [(7, .int z0), (3, .int v3), (4, .int v4), (5, .int v5), (6, .int v6)]) hx hb dX7_heap_247 hl (by decide) rfl (fun ls hl => ?_)
        refine lv_iload_n hx hb dX7_heap_249 rfl (lv_at hl 1 rfl) ?_
        refine lv_if_ne (tgt := 258) hx hb dX7_heap_250 (by decide) (fun hc => ?_) (fun hc => ?_)
        · replace hw := And.right hw hc
          refine lv_iload_n hx hb dX7_heap_258 rfl (lv_at hl 1 rfl) ?_
          refine lv_iconst (v := (1 : Int32)) hx hb dX7_heap_259 (by decide) ?_
          refine lv_icmp_ne (tgt := 271) hx hb dX7_heap_260 (by decide) (fun hc => ?_) (fun hc => ?_)
          · replace hw := And.right hw hc
            refine lv_iload_n hx hb dX7_heap_271 rfl (lv_at hl 1 rfl) ?_
            refine lv_iconst (v := (2 : Int32)) hx hb dX7_heap_272 (by decide) ?_
            refine lv_icmp_ne (tgt := 281) hx hb dX7_heap_273 (by decide) (fun hc => ?_) (fun hc => ?_)
            · replace hw := And.right hw hc
              refine lv_iload hx hb dX7_heap_281 (lv_at hl 3 rfl) ?_
              exact hret _ _ _ _ _ hP hS hw dX7_heap_283
            · replace hw := And.left hw hc
              refine lv_iload hx hb dX7_heap_276 (lv_at hl 2 rfl) ?_
              refine lv_goto (tgt := 283) hx hb dX7_heap_278 (by decide) ?_
              exact hret _ _ _ _ _ hP hS hw dX7_heap_283
          · replace hw := And.left hw hc
            refine lv_iload hx hb dX7_heap_263 (lv_at hl 0 rfl) ?_
            refine lv_iload hx hb dX7_heap_265 (lv_at hl 4 rfl) ?_
            refine lv_imul hx hb dX7_heap_267 ?_
            refine lv_goto (tgt := 283) hx hb dX7_heap_268 (by decide) ?_
            exact hret _ _ _ _ _ hP hS hw dX7_heap_283
        · replace hw := And.left hw hc
          refine lv_iload hx hb dX7_heap_253 (lv_at hl 0 rfl) ?_
          refine lv_goto (tgt := 283) hx hb dX7_heap_255 (by decide) ?_
          exact hret _ _ _ _ _ hP hS hw dX7_heap_283
      intro v4 v5 v6 v7 H locs ls hl hP hS hw
      unfold kX7_heap_b50 at hw
      refine lv_iload hx hb dX7_heap_50 (lv_at hl 7 rfl) ?_
      refine lv_bipush (v := (8 : Int32)) hx hb dX7_heap_52 (by decide) ?_
      refine lv_icmp_ge (tgt := 231) hx hb dX7_heap_54 (by decide) (fun hc => ?_) (fun hc => ?_)
      · replace hw := And.left hw hc
        refine lv_iload hx hb dX7_heap_231 (lv_at hl 4 rfl) ?_
        refine lv_iload hx hb dX7_heap_233 (lv_at hl 5 rfl) ?_
        refine lv_icmp_le (tgt := 246) hx hb dX7_heap_235 (by decide) (fun hc => ?_) (fun hc => ?_)
        · replace hw := And.left hw hc
          refine lv_iconst (v := (0 : Int32)) hx hb dX7_heap_246 (by decide) ?_
          exact b247 v4 v5 v6 (0 : Int32) _ _ _ (lv_sub hl [3, 4, 5, 6] rfl) hP hS hw
        · replace hw := And.right hw hc
          refine lv_iload hx hb dX7_heap_238 (lv_at hl 4 rfl) ?_
          refine lv_iload hx hb dX7_heap_240 (lv_at hl 5 rfl) ?_
          refine lv_isub hx hb dX7_heap_242 ?_
          refine lv_goto (tgt := 247) hx hb dX7_heap_243 (by decide) ?_
          exact b247 v4 v5 v6 (v4 - v5) _ _ _ (lv_sub hl [3, 4, 5, 6] rfl) hP hS hw
      · replace hw := And.right hw hc
        refine lv_iload_n hx hb dX7_heap_57 rfl (lv_at hl 1 rfl) ?_
        refine lv_iload hx hb dX7_heap_58 (lv_at hl 7 rfl) ?_
        refine lv_ishr hx hb dX7_heap_60 ?_
        refine lv_iconst (v := (1 : Int32)) hx hb dX7_heap_61 (by decide) ?_
        refine lv_iand hx hb dX7_heap_62 ?_
        refine lv_iconst (v := (1 : Int32)) hx hb dX7_heap_63 (by decide) ?_
        refine lv_icmp_ne (tgt := 81) hx hb dX7_heap_64 (by decide) (fun hc => ?_) (fun hc => ?_)
        · replace hw := And.right hw hc
          exact b81 v4 v5 v6 v7 _ _ _ (lv_sub hl [0, 1, 2, 3, 4, 5, 6, 7] rfl) hP hS hw
        · replace hw := And.left hw hc
          refine lv_aload_n hx hb dX7_heap_67 rfl (lv_at hl 0 rfl) ?_
          refine va_get (D := D) (ci := 7) (v := .ref (h 7)) (C := RX7) (T := TX7) (N := 28) hx hb hts inX7 hown hK hP 0 wM_0 rfl 9 (by decide) f3 (fun _ h9 => h9) rfl dX7_heap_68 ?_
          refine lv_iload hx hb dX7_heap_71 (lv_at hl 7 rfl) ?_
          obtain ⟨hi, hw⟩ := hw
          refine va_iald hx hb hK hP 7 0 wM_7 rfl hi dX7_heap_73 ?_
          refine lv_if_le (tgt := 81) hx hb dX7_heap_74 (by decide) (fun hc => ?_) (fun hc => ?_)
          · replace hw := And.left hw hc
            exact b81 v4 v5 v6 v7 _ _ _ (lv_sub hl [0, 1, 2, 3, 4, 5, 6, 7] rfl) hP hS hw
          · replace hw := And.right hw hc
            refine lv_iconst (v := (1 : Int32)) hx hb dX7_heap_77 (by decide) ?_
            refine lv_goto (tgt := 82) hx hb dX7_heap_78 (by decide) ?_
            exact b82 v4 v5 v6 v7 (1 : Int32) _ _ _ (lv_sub hl [0, 1, 2, 3, 4, 5, 6, 7] rfl) hP hS hw
  unfold kX7_heap at hw
  refine lv_iload_n hx hb dX7_heap_0 rfl (lv_at hl 1 rfl) ?_
  refine lv_i2l hx hb dX7_heap_1 rfl ?_
  refine lv_lconst (v := (1 : Int64)) hx hb dX7_heap_2 (by decide) ?_
  refine lv_ldc2 (v := (255 : Int64)) hx hb hown (f5) dX7_heap_3 ?_
  refine xSi0 (As := [.long v1.toInt64, .long (1 : Int64), .long (255 : Int64)]) (rest := []) hst hE hP hS ⟨hx, hb, hml, hown, hts⟩ (mX7_in l D h cI cJ hh S L v1.toInt64 (1 : Int64) (255 : Int64) _ hw) (va_cwS 3 hts gX7_heap_X7_in rfl rfl rfl (by decide +kernel) ⟨Nat.le_of_ble_eq_true rfl, Nat.le_of_ble_eq_true rfl⟩) rfl hl.1 rfl (Nat.le_of_ble_eq_true rfl) dX7_heap_6 ⟨Nat.zero_le _, Nat.zero_le _⟩ (fun r6 H locs hw hP hS => ?_)
  refine lv_if_eq (tgt := 36) hx hb dX7_heap_9 (by decide) (fun hc => ?_) (fun hc => ?_)
  · replace hw := And.left hw hc
    refine lv_iconst (v := (-1 : Int32)) hx hb dX7_heap_36 (by decide) ?_
    exact hret _ _ _ _ _ hP hS hw dX7_heap_37
  · replace hw := And.right hw hc
    refine lv_iload_n hx hb dX7_heap_12 rfl (lv_at hl 2 rfl) ?_
    refine lv_i2l hx hb dX7_heap_13 rfl ?_
    refine lv_lconst (v := (1 : Int64)) hx hb dX7_heap_14 (by decide) ?_
    refine lv_ldc2 (v := (999 : Int64)) hx hb hown (f6) dX7_heap_15 ?_
    refine xSi0 (As := [.long v2.toInt64, .long (1 : Int64), .long (999 : Int64)]) (rest := []) hst hE hP hS ⟨hx, hb, hml, hown, hts⟩ (mX7_in l D h cI cJ hh S L v2.toInt64 (1 : Int64) (999 : Int64) _ hw) (va_cwS 3 hts gX7_heap_X7_in rfl rfl rfl (by decide +kernel) ⟨Nat.le_of_ble_eq_true rfl, Nat.le_of_ble_eq_true rfl⟩) rfl hl.1 rfl (Nat.le_of_ble_eq_true rfl) dX7_heap_18 ⟨Nat.zero_le _, Nat.zero_le _⟩ (fun r18 H locs hw hP hS => ?_)
    refine lv_if_eq (tgt := 36) hx hb dX7_heap_21 (by decide) (fun hc => ?_) (fun hc => ?_)
    · replace hw := And.left hw hc
      refine lv_iconst (v := (-1 : Int32)) hx hb dX7_heap_36 (by decide) ?_
      exact hret _ _ _ _ _ hP hS hw dX7_heap_37
    · replace hw := And.right hw hc
      refine lv_iload_n hx hb dX7_heap_24 rfl (lv_at hl 3 rfl) ?_
      refine lv_i2l hx hb dX7_heap_25 rfl ?_
      refine lv_lconst (v := (0 : Int64)) hx hb dX7_heap_26 (by decide) ?_
      refine lv_ldc2 (v := (3 : Int64)) hx hb hown (f7) dX7_heap_27 ?_
      refine xSi0 (As := [.long v3.toInt64, .long (0 : Int64), .long (3 : Int64)]) (rest := []) hst hE hP hS ⟨hx, hb, hml, hown, hts⟩ (mX7_in l D h cI cJ hh S L v3.toInt64 (0 : Int64) (3 : Int64) _ hw) (va_cwS 3 hts gX7_heap_X7_in rfl rfl rfl (by decide +kernel) ⟨Nat.le_of_ble_eq_true rfl, Nat.le_of_ble_eq_true rfl⟩) rfl hl.1 rfl (Nat.le_of_ble_eq_true rfl) dX7_heap_30 ⟨Nat.zero_le _, Nat.zero_le _⟩ (fun r30 H locs hw hP hS => ?_)
      refine lv_if_ne (tgt := 38) hx hb dX7_heap_33 (by decide) (fun hc => ?_) (fun hc => ?_)
      · replace hw := And.right hw hc
        refine lv_iconst (v := (0 : Int32)) hx hb dX7_heap_38 (by decide) ?_
        refine lv_istore (lv' := [(4, .int (0 : Int32)), (0, .ref (h 0)), (1, .int v1), (2, .int v2), (3, .int v3)]) hx hb dX7_heap_39 hl (by decide) rfl (fun ls hl => ?_)
        refine lv_iconst (v := (0 : Int32)) hx hb dX7_heap_41 (by decide) ?_
        refine lv_istore (lv' := [(5, .int (0 : Int32)), (4, .int (0 : Int32)), (0, .ref (h 0)), (1, .int v1), (2, .int v2), (3, .int v3)]) hx hb dX7_heap_42 hl (by decide) rfl (fun ls hl => ?_)
        refine lv_iconst (v := (0 : Int32)) hx hb dX7_heap_44 (by decide) ?_
        refine lv_istore (lv' := [(6, .int (0 : Int32)), (5, .int (0 : Int32)), (4, .int (0 : Int32)), (0, .ref (h 0)), (1, .int v1), (2, .int v2), (3, .int v3)]) hx hb dX7_heap_45 hl (by decide) rfl (fun ls hl => ?_)
        refine lv_iconst (v := (0 : Int32)) hx hb dX7_heap_47 (by decide) ?_
        refine lv_istore (lv' := [(7, .int (0 : Int32)), (6, .int (0 : Int32)), (5, .int (0 : Int32)), (4, .int (0 : Int32)), (0, .ref (h 0)), (1, .int v1), (2, .int v2), (3, .int v3)]) hx hb dX7_heap_48 hl (by decide) rfl (fun ls hl => ?_)
        obtain ⟨n50, hw⟩ := hw
        exact b50  n50 (0 : Int32) (0 : Int32) (0 : Int32) (0 : Int32) _ _ _ (lv_sub hl [4, 5, 6, 7, 3, 2, 1, 0] rfl) hP hS hw
      · replace hw := And.left hw hc
        refine lv_iconst (v := (-1 : Int32)) hx hb dX7_heap_36 (by decide) ?_
        exact hret _ _ _ _ _ hP hS hw dX7_heap_37
abbrev rX7_beside : Room := { frames := 2, cells := 0, slots := 0, locals := 45 }
set_option maxHeartbeats 4000000 in
set_option maxRecDepth 100000 in
theorem mX7_beside (l : Launch) (D : va_G) (h : Nat → Nat) (cI cJ : ClassId) (hh : xdis 22 h) (S : SX) (L : LX) (v1 : Int32) (v2 : Int64) (v4 : Int64) (post : Int32 → SX → LX → Prop) (hw : kX7_beside S L v1 v2 v4 post) : Met l yX7_beside wsX7_beside rX7_beside (xPre D (wM h cI cJ) (mE D cI cJ) S L [.ref (h 0), .int v1, .long v2, .long v4]) (va_Qi (fun (r : Int32) (u : SX × LX) => post r u.1 u.2) (xB D (wM h cI cJ)) (xA 22 h)) 0 0 (xA 22 h) := by
  refine Met.ofW (cc := cX7_beside) (maxL := 6) (ret := (some .int)) (by decide) rfl ?_
  intro p e s m args below meth c s₁ B hml hv
  obtain ⟨hargs, hP, hE⟩ := hv
  have hx := B.exec
  have hb := B.bytes
  have hr := B.returns
  have hlocks := B.notSynchronized
  have hts := atoms_spec (ws := wsX7_beside) B.pre
  have hown : s.vm.findClass RX7 = some m.cls := findClass_of_methodNamed B.named
  have hS : va_S (xA 22 h) s.heap s.heap [] := va_S.rf
  have hD : ∀ (S : SX) (L : LX), va_D (xA 22 h) (wM h cI cJ S L) := fun S L => wM_D hh cI cJ S L
  have hK := id hE
  have hst : xSt (xA 22 h) (mE D cI cJ) := mE_st D _ cI cJ
  have f0 := hts (.constantLong RX7 221 (1000000000000000)) (by decide +kernel)
  have f1 := hts (.fieldLink RX7 48 "BookOfWillsModel" "countLeast" "[J") (by decide +kernel)
  have inX7 : ∀ w ∈ u_ws RX7 TX7 28, w ∈ wsX7_beside := fun w hw9 => List.mem_cons_of_mem _ (List.mem_append_right _ hw9)
  have f3 := hts (.fieldLink RX7 52 "BookOfWillsModel" "counted" "[J") (by decide +kernel)
  have hl := lv_entry ([.ref (h 0), .int v1, .long v2, .long v4]) (n := 6) (Nat.le_of_ble_eq_true rfl)
  have hen : entryFrame m args 6 = F0 m 0 ((lg_sl ([.ref (h 0), .int v1, .long v2, .long v4]) ++ List.replicate (6 - (lg_sl ([.ref (h 0), .int v1, .long v2, .long v4])).length) Slot.unset).toArray) [] := by rw [hargs]; exact lg_entry_eq m _ _
  rw [hen]
  generalize (lg_sl ([.ref (h 0), .int v1, .long v2, .long v4]) ++ List.replicate (6 - (lg_sl ([.ref (h 0), .int v1, .long v2, .long v4])).length) Slot.unset).toArray = ls at hl ⊢
  have hl : lv_has ls 6 [(0, .ref (h 0)), (1, .int v1), (2, .long v2), (4, .long v4)] := hl
  change W p l e rX7_beside s m args below meth c s.heap [] 0 0 (MQ below (va_Qi (fun (r : Int32) (u : SX × LX) => post r u.1 u.2) (xB D (wM h cI cJ)) (xA 22 h)) args s 0 0 (xA 22 h)) (F0 m 0 ls [])
  have hret : ∀ (r : Int32) (S1 : SX) (L1 : LX) (H : Heap) (locs : List Loc) (ls : Array Slot) (pc : Nat), va_P D vwCl (wM h cI cJ S1 L1) H → va_S (xA 22 h) s.heap H locs → post r S1 L1 → decode cX7_beside pc = .ok (.ireturn, 1) → W p l e rX7_beside s m args below meth c H locs 0 0 (MQ below (va_Qi (fun (r : Int32) (u : SX × LX) => post r u.1 u.2) (xB D (wM h cI cJ)) (xA 22 h)) args s 0 0 (xA 22 h)) (F0 m pc ls [.int r]) := fun r S1 L1 H locs ls pc hP hS hw hd => W.iret hx hb hr (fun t ht hW => ⟨⟨r, (S1, L1), rfl, hw, show va_P D vwCl (wM h cI cJ S1 L1) t.heap by rw [ht]; exact hP⟩, hS.F ht⟩) hS.2.2 hd
  generalize MQ below (va_Qi (fun (r : Int32) (u : SX × LX) => post r u.1 u.2) (xB D (wM h cI cJ)) (xA 22 h)) args s 0 0 (xA 22 h) = Q at hret ⊢
  unfold kX7_beside at hw
  refine lv_iload_n hx hb dX7_beside_0 rfl (lv_at hl 1 rfl) ?_
  refine xSi0 (As := [.int v1]) (rest := []) hst hE hP hS ⟨hx, hb, hml, hown, hts⟩ (mX7_isYear l D h cI cJ hh S L v1 _ hw) (va_cwS 1 hts gX7_beside_X7_isYear rfl rfl rfl (by decide +kernel) ⟨Nat.le_of_ble_eq_true rfl, Nat.le_of_ble_eq_true rfl⟩) rfl hl.1 rfl (Nat.le_of_ble_eq_true rfl) dX7_beside_1 ⟨Nat.zero_le _, Nat.zero_le _⟩ (fun r1 H locs hw hP hS => ?_)
  refine lv_if_eq (tgt := 29) hx hb dX7_beside_4 (by decide) (fun hc => ?_) (fun hc => ?_)
  · replace hw := And.left hw hc
    refine lv_iconst (v := (-1 : Int32)) hx hb dX7_beside_29 (by decide) ?_
    exact hret _ _ _ _ _ _ _ hP hS hw dX7_beside_30
  · replace hw := And.right hw hc
    refine lv_lload hx hb dX7_beside_7 (lv_at hl 3 rfl) ?_
    refine lv_lconst (v := (0 : Int64)) hx hb dX7_beside_9 (by decide) ?_
    refine lv_ldc2 (v := (1000000000000000 : Int64)) hx hb hown (f0) dX7_beside_10 ?_
    refine xSi0 (As := [.long v4, .long (0 : Int64), .long (1000000000000000 : Int64)]) (rest := []) hst hE hP hS ⟨hx, hb, hml, hown, hts⟩ (mX7_in l D h cI cJ hh S L v4 (0 : Int64) (1000000000000000 : Int64) _ hw) (va_cwS 3 hts gX7_beside_X7_in rfl rfl rfl (by decide +kernel) ⟨Nat.le_of_ble_eq_true rfl, Nat.le_of_ble_eq_true rfl⟩) rfl hl.1 rfl (Nat.le_of_ble_eq_true rfl) dX7_beside_13 ⟨Nat.zero_le _, Nat.zero_le _⟩ (fun r13 H locs hw hP hS => ?_)
    refine lv_if_eq (tgt := 29) hx hb dX7_beside_16 (by decide) (fun hc => ?_) (fun hc => ?_)
    · replace hw := And.left hw hc
      refine lv_iconst (v := (-1 : Int32)) hx hb dX7_beside_29 (by decide) ?_
      exact hret _ _ _ _ _ _ _ hP hS hw dX7_beside_30
    · replace hw := And.right hw hc
      refine lv_lload_n hx hb dX7_beside_19 rfl (lv_at hl 2 rfl) ?_
      refine lv_lconst (v := (0 : Int64)) hx hb dX7_beside_20 (by decide) ?_
      refine lv_lload hx hb dX7_beside_21 (lv_at hl 3 rfl) ?_
      refine xSi0 (As := [.long v2, .long (0 : Int64), .long v4]) (rest := []) hst hE hP hS ⟨hx, hb, hml, hown, hts⟩ (mX7_in l D h cI cJ hh S L v2 (0 : Int64) v4 _ hw) (va_cwS 3 hts gX7_beside_X7_in rfl rfl rfl (by decide +kernel) ⟨Nat.le_of_ble_eq_true rfl, Nat.le_of_ble_eq_true rfl⟩) rfl hl.1 rfl (Nat.le_of_ble_eq_true rfl) dX7_beside_23 ⟨Nat.zero_le _, Nat.zero_le _⟩ (fun r23 H locs hw hP hS => ?_)
      refine lv_if_ne (tgt := 31) hx hb dX7_beside_26 (by decide) (fun hc => ?_) (fun hc => ?_)
      · replace hw := And.right hw hc
        refine lv_aload_n hx hb dX7_beside_31 rfl (lv_at hl 0 rfl) ?_
        refine va_get (D := D) (ci := 7) (v := .ref (h 12)) (C := RX7) (T := TX7) (N := 28) hx hb hts inX7 hown hK hP 0 wM_0 rfl 14 (by decide) f1 (fun _ h9 => h9) rfl dX7_beside_32 ?_
        refine lv_iload_n hx hb dX7_beside_35 rfl (lv_at hl 1 rfl) ?_
        refine lv_lload_n hx hb dX7_beside_36 rfl (lv_at hl 2 rfl) ?_
        obtain ⟨hi, hw⟩ := hw
        refine x_last (ws2 := wM h cI cJ S (xuL L 12 v1.toNatClampNeg v2)) hx hb hK hP (hD _ _) hS 12 1 wM_12 rfl hi dX7_beside_37 (wM_u12 _ _) (fun H locs hP hS => ?_)
        refine lv_aload_n hx hb dX7_beside_38 rfl (lv_at hl 0 rfl) ?_
        refine va_get (D := D) (ci := 7) (v := .ref (h 13)) (C := RX7) (T := TX7) (N := 28) hx hb hts inX7 hown hK hP 0 wM_0 rfl 15 (by decide) f3 (fun _ h9 => h9) rfl dX7_beside_39 ?_
        refine lv_iload_n hx hb dX7_beside_42 rfl (lv_at hl 1 rfl) ?_
        refine lv_lload hx hb dX7_beside_43 (lv_at hl 3 rfl) ?_
        obtain ⟨hi, hw⟩ := hw
        refine x_last (ws2 := wM h cI cJ S (xuL (xuL L 12 v1.toNatClampNeg v2) 13 v1.toNatClampNeg v4)) hx hb hK hP (hD _ _) hS 13 1 wM_13 rfl hi dX7_beside_45 (wM_u13 _ _) (fun H locs hP hS => ?_)
        refine lv_iconst (v := (1 : Int32)) hx hb dX7_beside_46 (by decide) ?_
        exact hret _ _ _ _ _ _ _ hP hS hw dX7_beside_47
      · replace hw := And.left hw hc
        refine lv_iconst (v := (-1 : Int32)) hx hb dX7_beside_29 (by decide) ?_
        exact hret _ _ _ _ _ _ _ hP hS hw dX7_beside_30
abbrev rX7_fights : Room := { frames := 4, cells := 0, slots := 0, locals := 99 }
set_option maxHeartbeats 4000000 in
set_option maxRecDepth 100000 in
theorem mX7_fights (l : Launch) (D : va_G) (h : Nat → Nat) (cI cJ : ClassId) (hh : xdis 22 h) (S : SX) (L : LX) (post : Int32 → Prop) (hw : kX7_fights S L  post) : Met l yX7_fights wsX7_fights rX7_fights (xPre D (wM h cI cJ) (mE D cI cJ) S L [.ref (h 0)]) (va_Qi (fun (r : Int32) (u : SX × LX) => post r ∧ u.1 = S ∧ u.2 = L) (xB D (wM h cI cJ)) (xA 22 h)) 0 0 (xA 22 h) := by
  refine Met.ofW (cc := cX7_fights) (maxL := 7) (ret := (some .int)) (by decide) rfl ?_
  intro p e s m args below meth c s₁ B hml hv
  obtain ⟨hargs, hP, hE⟩ := hv
  have hx := B.exec
  have hb := B.bytes
  have hr := B.returns
  have hlocks := B.notSynchronized
  have hts := atoms_spec (ws := wsX7_fights) B.pre
  have hown : s.vm.findClass RX7 = some m.cls := findClass_of_methodNamed B.named
  have hS : va_S (xA 22 h) s.heap s.heap [] := va_S.rf
  have hD : ∀ (S : SX) (L : LX), va_D (xA 22 h) (wM h cI cJ S L) := fun S L => wM_D hh cI cJ S L
  have hK := id hE
  have hst : xSt (xA 22 h) (mE D cI cJ) := mE_st D _ cI cJ
  have f0 := hts (.fieldLink RX7 52 "BookOfWillsModel" "counted" "[J") (by decide +kernel)
  have inX7 : ∀ w ∈ u_ws RX7 TX7 28, w ∈ wsX7_fights := fun w hw9 => List.mem_cons_of_mem _ (List.mem_append_right _ hw9)
  have f2 := hts (.fieldLink RX7 48 "BookOfWillsModel" "countLeast" "[J") (by decide +kernel)
  have hl := lv_entry ([.ref (h 0)]) (n := 7) (Nat.le_of_ble_eq_true rfl)
  have hen : entryFrame m args 7 = F0 m 0 ((lg_sl ([.ref (h 0)]) ++ List.replicate (7 - (lg_sl ([.ref (h 0)])).length) Slot.unset).toArray) [] := by rw [hargs]; exact lg_entry_eq m _ _
  rw [hen]
  generalize (lg_sl ([.ref (h 0)]) ++ List.replicate (7 - (lg_sl ([.ref (h 0)])).length) Slot.unset).toArray = ls at hl ⊢
  have hl : lv_has ls 7 [(0, .ref (h 0))] := hl
  change W p l e rX7_fights s m args below meth c s.heap [] 0 0 (MQ below (va_Qi (fun (r : Int32) (u : SX × LX) => post r ∧ u.1 = S ∧ u.2 = L) (xB D (wM h cI cJ)) (xA 22 h)) args s 0 0 (xA 22 h)) (F0 m 0 ls [])
  have hret : ∀ (r : Int32) (H : Heap) (locs : List Loc) (ls : Array Slot) (pc : Nat), va_P D vwCl (wM h cI cJ S L) H → va_S (xA 22 h) s.heap H locs → post r → decode cX7_fights pc = .ok (.ireturn, 1) → W p l e rX7_fights s m args below meth c H locs 0 0 (MQ below (va_Qi (fun (r : Int32) (u : SX × LX) => post r ∧ u.1 = S ∧ u.2 = L) (xB D (wM h cI cJ)) (xA 22 h)) args s 0 0 (xA 22 h)) (F0 m pc ls [.int r]) := fun r H locs ls pc hP hS hw hd => W.iret hx hb hr (fun t ht hW => ⟨⟨r, (S, L), rfl, ⟨hw, rfl, rfl⟩, show va_P D vwCl (wM h cI cJ S L) t.heap by rw [ht]; exact hP⟩, hS.F ht⟩) hS.2.2 hd
  generalize MQ below (va_Qi (fun (r : Int32) (u : SX × LX) => post r ∧ u.1 = S ∧ u.2 = L) (xB D (wM h cI cJ)) (xA 22 h)) args s 0 0 (xA 22 h) = Q at hret ⊢
  have b4 : ∀  (n4 : Nat) (v1 : Int32) (v2 : Int32) (H : Heap) (locs : List Loc) (ls : Array Slot), lv_has ls 7 [(0, .ref (h 0)), (1, .int v1), (2, .int v2)] → va_P D vwCl (wM h cI cJ S L) H → va_S (xA 22 h) s.heap H locs → kX7_fights_b4 S L post n4 v1 v2 → W p l e rX7_fights s m args below meth c H locs 0 0 Q (F0 m 4 ls []) := by
    intro n4
    induction n4 with
    | zero => intro v1 v2 H locs ls hl hP hS hw; exact absurd hw id
    | succ n4 i4 =>
      intro v1 v2 H locs ls hl hP hS hw
      unfold kX7_fights_b4 at hw
      refine lv_iload_n hx hb dX7_fights_4 rfl (lv_at hl 2 rfl) ?_
      refine lv_bipush (v := (8 : Int32)) hx hb dX7_fights_5 (by decide) ?_
      refine lv_icmp_ge (tgt := 78) hx hb dX7_fights_7 (by decide) (fun hc => ?_) (fun hc => ?_)
      · replace hw := And.left hw hc
        refine lv_iload_n hx hb dX7_fights_78 rfl (lv_at hl 1 rfl) ?_
        exact hret _ _ _ _ _ hP hS hw dX7_fights_79
      · replace hw := And.right hw hc
        refine lv_aload_n hx hb dX7_fights_10 rfl (lv_at hl 0 rfl) ?_
        refine lv_iload_n hx hb dX7_fights_11 rfl (lv_at hl 2 rfl) ?_
        refine lv_iload_n hx hb dX7_fights_12 rfl (lv_at hl 2 rfl) ?_
        refine lv_bipush (v := (-4 : Int32)) hx hb dX7_fights_13 (by decide) ?_
        refine xVl0 (As := [.int v2, .int v2, .int (-4 : Int32)]) (rest := []) hst hE hP hS ⟨hx, hb, hml, hown, hts⟩ (va_recv hK hP (ci := 7) (q := (RX7, TX7, 28)) rfl wM_0) (mX7_totalOf l D h cI cJ hh S L v2 v2 (-4 : Int32) _ hw) (cwV 3 hts gX7_fights_X7_totalOf rfl rfl rfl (by decide +kernel) ⟨Nat.le_of_ble_eq_true rfl, Nat.le_of_ble_eq_true rfl⟩) rfl hl.1 rfl (Nat.le_of_ble_eq_true rfl) dX7_fights_15 ⟨Nat.zero_le _, Nat.zero_le _⟩ (fun r15 H locs hw hP hS => ?_)
        refine lv_lstore_n (lv' := [(3, .long r15), (0, .ref (h 0)), (1, .int v1), (2, .int v2)]) hx hb dX7_fights_18 rfl hl (by decide) rfl (fun ls hl => ?_)
        refine lv_lload_n hx hb dX7_fights_19 rfl (lv_at hl 0 rfl) ?_
        refine lv_aload_n hx hb dX7_fights_20 rfl (lv_at hl 1 rfl) ?_
        refine lv_iload_n hx hb dX7_fights_21 rfl (lv_at hl 3 rfl) ?_
        refine xVl0 (As := [.int v2]) (rest := [.long r15]) hst hE hP hS ⟨hx, hb, hml, hown, hts⟩ (va_recv hK hP (ci := 7) (q := (RX7, TX7, 28)) rfl wM_0) (mX7_unseen l D h cI cJ hh S L v2 _ hw) (cwV 1 hts gX7_fights_X7_unseen rfl rfl rfl (by decide +kernel) ⟨Nat.le_of_ble_eq_true rfl, Nat.le_of_ble_eq_true rfl⟩) rfl hl.1 rfl (Nat.le_of_ble_eq_true rfl) dX7_fights_22 ⟨Nat.zero_le _, Nat.zero_le _⟩ (fun r22 H locs hw hP hS => ?_)
        refine lv_ladd hx hb dX7_fights_25 ?_
        refine lv_lstore (lv' := [(5, .long (r15 + r22)), (3, .long r15), (0, .ref (h 0)), (1, .int v1), (2, .int v2)]) hx hb dX7_fights_26 hl (by decide) rfl (fun ls hl => ?_)
        refine lv_iload_n hx hb dX7_fights_28 rfl (lv_at hl 3 rfl) ?_
        refine lv_aload_n hx hb dX7_fights_29 rfl (lv_at hl 2 rfl) ?_
        refine va_get (D := D) (ci := 7) (v := .ref (h 13)) (C := RX7) (T := TX7) (N := 28) hx hb hts inX7 hown hK hP 0 wM_0 rfl 15 (by decide) f0 (fun _ h9 => h9) rfl dX7_fights_30 ?_
        refine lv_iload_n hx hb dX7_fights_33 rfl (lv_at hl 4 rfl) ?_
        obtain ⟨hi, hw⟩ := hw
        refine va_lald hx hb hK hP 13 1 wM_13 rfl hi dX7_fights_34 ?_
        refine lv_lconst (v := (0 : Int64)) hx hb dX7_fights_35 (by decide) ?_
        refine W.lcmp hx hb dX7_fights_36 ?_
        refine lv_if_lt (tgt := 69) hx hb dX7_fights_37 (by decide) (fun hc => ?_) (fun hc => ?_)
        · replace hw := And.left hw ((lg_cmp_lt _ _).mp hc)
          refine lv_iconst (v := (0 : Int32)) hx hb dX7_fights_69 (by decide) ?_
          refine lv_ior hx hb dX7_fights_70 ?_
          refine lv_istore_n (lv' := [(1, .int (v1 ||| (0 : Int32))), (5, .long (r15 + r22)), (3, .long r15), (0, .ref (h 0)), (2, .int v2)]) hx hb dX7_fights_71 rfl hl (by decide) rfl (fun ls hl => ?_)
          refine lv_iinc (v := v2 + (1 : Int32)) (lv' := [(2, .int (v2 + (1 : Int32))), (1, .int (v1 ||| (0 : Int32))), (5, .long (r15 + r22)), (3, .long r15), (0, .ref (h 0))]) hx hb dX7_fights_72 hl (k := 4) rfl rfl (by decide) rfl (fun ls hl => ?_)
          refine lv_goto (tgt := 4) hx hb dX7_fights_75 (by decide) ?_
          exact i4 (v1 ||| (0 : Int32)) (v2 + (1 : Int32)) _ _ _ (lv_sub hl [4, 1, 0] rfl) hP hS hw
        · replace hw := And.right hw (fun q => hc ((lg_cmp_lt _ _).mpr q))
          refine lv_aload_n hx hb dX7_fights_40 rfl (lv_at hl 2 rfl) ?_
          refine va_get (D := D) (ci := 7) (v := .ref (h 13)) (C := RX7) (T := TX7) (N := 28) hx hb hts inX7 hown hK hP 0 wM_0 rfl 15 (by decide) f0 (fun _ h9 => h9) rfl dX7_fights_41 ?_
          refine lv_iload_n hx hb dX7_fights_44 rfl (lv_at hl 4 rfl) ?_
          obtain ⟨hi, hw⟩ := hw
          refine va_lald hx hb hK hP 13 1 wM_13 rfl hi dX7_fights_45 ?_
          refine lv_lload_n hx hb dX7_fights_46 rfl (lv_at hl 1 rfl) ?_
          refine W.lcmp hx hb dX7_fights_47 ?_
          refine lv_if_lt (tgt := 63) hx hb dX7_fights_48 (by decide) (fun hc => ?_) (fun hc => ?_)
          · replace hw := And.left hw ((lg_cmp_lt _ _).mp hc)
            refine lv_iconst (v := (1 : Int32)) hx hb dX7_fights_63 (by decide) ?_
            refine lv_iload_n hx hb dX7_fights_64 rfl (lv_at hl 4 rfl) ?_
            refine lv_ishl hx hb dX7_fights_65 ?_
            refine lv_goto (tgt := 70) hx hb dX7_fights_66 (by decide) ?_
            refine lv_ior hx hb dX7_fights_70 ?_
            refine lv_istore_n (lv' := [(1, .int (v1 ||| ((1 : Int32) <<< (v2 &&& 31)))), (5, .long (r15 + r22)), (3, .long r15), (0, .ref (h 0)), (2, .int v2)]) hx hb dX7_fights_71 rfl hl (by decide) rfl (fun ls hl => ?_)
            refine lv_iinc (v := v2 + (1 : Int32)) (lv' := [(2, .int (v2 + (1 : Int32))), (1, .int (v1 ||| ((1 : Int32) <<< (v2 &&& 31)))), (5, .long (r15 + r22)), (3, .long r15), (0, .ref (h 0))]) hx hb dX7_fights_72 hl (k := 4) rfl rfl (by decide) rfl (fun ls hl => ?_)
            refine lv_goto (tgt := 4) hx hb dX7_fights_75 (by decide) ?_
            exact i4 (v1 ||| ((1 : Int32) <<< (v2 &&& 31))) (v2 + (1 : Int32)) _ _ _ (lv_sub hl [4, 1, 0] rfl) hP hS hw
          · replace hw := And.right hw (fun q => hc ((lg_cmp_lt _ _).mpr q))
            refine lv_aload_n hx hb dX7_fights_51 rfl (lv_at hl 2 rfl) ?_
            refine va_get (D := D) (ci := 7) (v := .ref (h 12)) (C := RX7) (T := TX7) (N := 28) hx hb hts inX7 hown hK hP 0 wM_0 rfl 14 (by decide) f2 (fun _ h9 => h9) rfl dX7_fights_52 ?_
            refine lv_iload_n hx hb dX7_fights_55 rfl (lv_at hl 4 rfl) ?_
            obtain ⟨hi, hw⟩ := hw
            refine va_lald hx hb hK hP 12 1 wM_12 rfl hi dX7_fights_56 ?_
            refine lv_lload hx hb dX7_fights_57 (lv_at hl 0 rfl) ?_
            refine W.lcmp hx hb dX7_fights_59 ?_
            refine lv_if_le (tgt := 69) hx hb dX7_fights_60 (by decide) (fun hc => ?_) (fun hc => ?_)
            · replace hw := And.left hw ((lg_cmp_le _ _).mp hc)
              refine lv_iconst (v := (0 : Int32)) hx hb dX7_fights_69 (by decide) ?_
              refine lv_ior hx hb dX7_fights_70 ?_
              refine lv_istore_n (lv' := [(1, .int (v1 ||| (0 : Int32))), (5, .long (r15 + r22)), (3, .long r15), (0, .ref (h 0)), (2, .int v2)]) hx hb dX7_fights_71 rfl hl (by decide) rfl (fun ls hl => ?_)
              refine lv_iinc (v := v2 + (1 : Int32)) (lv' := [(2, .int (v2 + (1 : Int32))), (1, .int (v1 ||| (0 : Int32))), (5, .long (r15 + r22)), (3, .long r15), (0, .ref (h 0))]) hx hb dX7_fights_72 hl (k := 4) rfl rfl (by decide) rfl (fun ls hl => ?_)
              refine lv_goto (tgt := 4) hx hb dX7_fights_75 (by decide) ?_
              exact i4 (v1 ||| (0 : Int32)) (v2 + (1 : Int32)) _ _ _ (lv_sub hl [4, 1, 0] rfl) hP hS hw
            · replace hw := And.right hw (fun q => hc ((lg_cmp_le _ _).mpr q))
              refine lv_iconst (v := (1 : Int32)) hx hb dX7_fights_63 (by decide) ?_
              refine lv_iload_n hx hb dX7_fights_64 rfl (lv_at hl 4 rfl) ?_
              refine lv_ishl hx hb dX7_fights_65 ?_
              refine lv_goto (tgt := 70) hx hb dX7_fights_66 (by decide) ?_
              refine lv_ior hx hb dX7_fights_70 ?_
              refine lv_istore_n (lv' := [(1, .int (v1 ||| ((1 : Int32) <<< (v2 &&& 31)))), (5, .long (r15 + r22)), (3, .long r15), (0, .ref (h 0)), (2, .int v2)]) hx hb dX7_fights_71 rfl hl (by decide) rfl (fun ls hl => ?_)
              refine lv_iinc (v := v2 + (1 : Int32)) (lv' := [(2, .int (v2 + (1 : Int32))), (1, .int (v1 ||| ((1 : Int32) <<< (v2 &&& 31)))), (5, .long (r15 + r22)), (3, .long r15), (0, .ref (h 0))]) hx hb dX7_fights_72 hl (k := 4) rfl rfl (by decide) rfl (fun ls hl => ?_)
              refine lv_goto (tgt := 4) hx hb dX7_fights_75 (by decide) ?_
              exact i4 (v1 ||| ((1 : Int32) <<< (v2 &&& 31))) (v2 + (1 : Int32)) _ _ _ (lv_sub hl [4, 1, 0] rfl) hP hS hw
  unfold kX7_fights at hw
  refine lv_iconst (v := (0 : Int32)) hx hb dX7_fights_0 (by decide) ?_
  refine lv_istore_n (lv' := [(1, .int (0 : Int32)), (0, .ref (h 0))]) hx hb dX7_fights_1 rfl hl (by decide) rfl (fun ls hl => ?_)
  refine lv_iconst (v := (0 : Int32)) hx hb dX7_fights_2 (by decide) ?_
  refine lv_istore_n (lv' := [(2, .int (0 : Int32)), (1, .int (0 : Int32)), (0, .ref (h 0))]) hx hb dX7_fights_3 rfl hl (by decide) rfl (fun ls hl => ?_)
  obtain ⟨n4, hw⟩ := hw
  exact b4  n4 (0 : Int32) (0 : Int32) _ _ _ (lv_sub hl [2, 1, 0] rfl) hP hS hw
abbrev rX7_fall : Room := { frames := 4, cells := 0, slots := 0, locals := 98 }
set_option maxHeartbeats 4000000 in
set_option maxRecDepth 100000 in
theorem mX7_fall (l : Launch) (D : va_G) (h : Nat → Nat) (cI cJ : ClassId) (hh : xdis 22 h) (S : SX) (L : LX) (v1 : Int32) (v2 : Int32) (v3 : Int32) (post : Int64 → Prop) (hw : kX7_fall S L v1 v2 v3 post) : Met l yX7_fall wsX7_fall rX7_fall (xPre D (wM h cI cJ) (mE D cI cJ) S L [.ref (h 0), .int v1, .int v2, .int v3]) (va_Ql (fun (r : Int64) (u : SX × LX) => post r ∧ u.1 = S ∧ u.2 = L) (xB D (wM h cI cJ)) (xA 22 h)) 0 0 (xA 22 h) := by
  refine Met.ofW (cc := cX7_fall) (maxL := 10) (ret := (some .long)) (by decide) rfl ?_
  intro p e s m args below meth c s₁ B hml hv
  obtain ⟨hargs, hP, hE⟩ := hv
  have hx := B.exec
  have hb := B.bytes
  have hr := B.returns
  have hlocks := B.notSynchronized
  have hts := atoms_spec (ws := wsX7_fall) B.pre
  have hown : s.vm.findClass RX7 = some m.cls := findClass_of_methodNamed B.named
  have hS : va_S (xA 22 h) s.heap s.heap [] := va_S.rf
  have hD : ∀ (S : SX) (L : LX), va_D (xA 22 h) (wM h cI cJ S L) := fun S L => wM_D hh cI cJ S L
  have hK := id hE
  have hst : xSt (xA 22 h) (mE D cI cJ) := mE_st D _ cI cJ
  have f0 := hts (.constantLong RX7 219 (-1000000000000000001)) (by decide +kernel)
  have f1 := hts (.constantLong RX7 211 (2)) (by decide +kernel)
  have f2 := hts (.fieldLink RX7 45 "BookOfWillsModel" "prices" "[I") (by decide +kernel)
  have inX7 : ∀ w ∈ u_ws RX7 TX7 28, w ∈ wsX7_fall := fun w hw9 => List.mem_cons_of_mem _ (List.mem_append_right _ hw9)
  have hl := lv_entry ([.ref (h 0), .int v1, .int v2, .int v3]) (n := 10) (Nat.le_of_ble_eq_true rfl)
  have hen : entryFrame m args 10 = F0 m 0 ((lg_sl ([.ref (h 0), .int v1, .int v2, .int v3]) ++ List.replicate (10 - (lg_sl ([.ref (h 0), .int v1, .int v2, .int v3])).length) Slot.unset).toArray) [] := by rw [hargs]; exact lg_entry_eq m _ _
  rw [hen]
  generalize (lg_sl ([.ref (h 0), .int v1, .int v2, .int v3]) ++ List.replicate (10 - (lg_sl ([.ref (h 0), .int v1, .int v2, .int v3])).length) Slot.unset).toArray = ls at hl ⊢
  have hl : lv_has ls 10 [(0, .ref (h 0)), (1, .int v1), (2, .int v2), (3, .int v3)] := hl
  change W p l e rX7_fall s m args below meth c s.heap [] 0 0 (MQ below (va_Ql (fun (r : Int64) (u : SX × LX) => post r ∧ u.1 = S ∧ u.2 = L) (xB D (wM h cI cJ)) (xA 22 h)) args s 0 0 (xA 22 h)) (F0 m 0 ls [])
  have hret : ∀ (r : Int64) (H : Heap) (locs : List Loc) (ls : Array Slot) (pc : Nat), va_P D vwCl (wM h cI cJ S L) H → va_S (xA 22 h) s.heap H locs → post r → decode cX7_fall pc = .ok (.lreturn, 1) → W p l e rX7_fall s m args below meth c H locs 0 0 (MQ below (va_Ql (fun (r : Int64) (u : SX × LX) => post r ∧ u.1 = S ∧ u.2 = L) (xB D (wM h cI cJ)) (xA 22 h)) args s 0 0 (xA 22 h)) (F0 m pc ls [.long r]) := fun r H locs ls pc hP hS hw hd => W.lret hx hb hr (fun t ht hW => ⟨⟨r, (S, L), rfl, ⟨hw, rfl, rfl⟩, show va_P D vwCl (wM h cI cJ S L) t.heap by rw [ht]; exact hP⟩, hS.F ht⟩) hS.2.2 hd
  generalize MQ below (va_Ql (fun (r : Int64) (u : SX × LX) => post r ∧ u.1 = S ∧ u.2 = L) (xB D (wM h cI cJ)) (xA 22 h)) args s 0 0 (xA 22 h) = Q at hret ⊢
  unfold kX7_fall at hw
  refine lv_iload_n hx hb dX7_fall_0 rfl (lv_at hl 1 rfl) ?_
  refine xSi0 (As := [.int v1]) (rest := []) hst hE hP hS ⟨hx, hb, hml, hown, hts⟩ (mX7_isYear l D h cI cJ hh S L v1 _ hw) (va_cwS 1 hts gX7_fall_X7_isYear rfl rfl rfl (by decide +kernel) ⟨Nat.le_of_ble_eq_true rfl, Nat.le_of_ble_eq_true rfl⟩) rfl hl.1 rfl (Nat.le_of_ble_eq_true rfl) dX7_fall_1 ⟨Nat.zero_le _, Nat.zero_le _⟩ (fun r1 H locs hw hP hS => ?_)
  refine lv_if_eq (tgt := 31) hx hb dX7_fall_4 (by decide) (fun hc => ?_) (fun hc => ?_)
  · replace hw := And.left hw hc
    refine lv_ldc2 (v := (-1000000000000000001 : Int64)) hx hb hown (f0) dX7_fall_31 ?_
    exact hret _ _ _ _ _ hP hS hw dX7_fall_34
  · replace hw := And.right hw hc
    refine lv_iload_n hx hb dX7_fall_7 rfl (lv_at hl 2 rfl) ?_
    refine xSi0 (As := [.int v2]) (rest := []) hst hE hP hS ⟨hx, hb, hml, hown, hts⟩ (mX7_isYear l D h cI cJ hh S L v2 _ hw) (va_cwS 1 hts gX7_fall_X7_isYear rfl rfl rfl (by decide +kernel) ⟨Nat.le_of_ble_eq_true rfl, Nat.le_of_ble_eq_true rfl⟩) rfl hl.1 rfl (Nat.le_of_ble_eq_true rfl) dX7_fall_8 ⟨Nat.zero_le _, Nat.zero_le _⟩ (fun r8 H locs hw hP hS => ?_)
    refine lv_if_eq (tgt := 31) hx hb dX7_fall_11 (by decide) (fun hc => ?_) (fun hc => ?_)
    · replace hw := And.left hw hc
      refine lv_ldc2 (v := (-1000000000000000001 : Int64)) hx hb hown (f0) dX7_fall_31 ?_
      exact hret _ _ _ _ _ hP hS hw dX7_fall_34
    · replace hw := And.right hw hc
      refine lv_iload_n hx hb dX7_fall_14 rfl (lv_at hl 1 rfl) ?_
      refine lv_iload_n hx hb dX7_fall_15 rfl (lv_at hl 2 rfl) ?_
      refine lv_icmp_eq (tgt := 31) hx hb dX7_fall_16 (by decide) (fun hc => ?_) (fun hc => ?_)
      · replace hw := And.left hw hc
        refine lv_ldc2 (v := (-1000000000000000001 : Int64)) hx hb hown (f0) dX7_fall_31 ?_
        exact hret _ _ _ _ _ hP hS hw dX7_fall_34
      · replace hw := And.right hw hc
        refine lv_iload_n hx hb dX7_fall_19 rfl (lv_at hl 3 rfl) ?_
        refine lv_i2l hx hb dX7_fall_20 rfl ?_
        refine lv_lconst (v := (0 : Int64)) hx hb dX7_fall_21 (by decide) ?_
        refine lv_ldc2 (v := (2 : Int64)) hx hb hown (f1) dX7_fall_22 ?_
        refine xSi0 (As := [.long v3.toInt64, .long (0 : Int64), .long (2 : Int64)]) (rest := []) hst hE hP hS ⟨hx, hb, hml, hown, hts⟩ (mX7_in l D h cI cJ hh S L v3.toInt64 (0 : Int64) (2 : Int64) _ hw) (va_cwS 3 hts gX7_fall_X7_in rfl rfl rfl (by decide +kernel) ⟨Nat.le_of_ble_eq_true rfl, Nat.le_of_ble_eq_true rfl⟩) rfl hl.1 rfl (Nat.le_of_ble_eq_true rfl) dX7_fall_25 ⟨Nat.zero_le _, Nat.zero_le _⟩ (fun r25 H locs hw hP hS => ?_)
        refine lv_if_ne (tgt := 35) hx hb dX7_fall_28 (by decide) (fun hc => ?_) (fun hc => ?_)
        · replace hw := And.right hw hc
          refine lv_aload_n hx hb dX7_fall_35 rfl (lv_at hl 0 rfl) ?_
          refine lv_iload_n hx hb dX7_fall_36 rfl (lv_at hl 1 rfl) ?_
          refine lv_iload_n hx hb dX7_fall_37 rfl (lv_at hl 1 rfl) ?_
          refine lv_bipush (v := (-4 : Int32)) hx hb dX7_fall_38 (by decide) ?_
          refine xVl0 (As := [.int v1, .int v1, .int (-4 : Int32)]) (rest := []) hst hE hP hS ⟨hx, hb, hml, hown, hts⟩ (va_recv hK hP (ci := 7) (q := (RX7, TX7, 28)) rfl wM_0) (mX7_totalOf l D h cI cJ hh S L v1 v1 (-4 : Int32) _ hw) (cwV 3 hts gX7_fall_X7_totalOf rfl rfl rfl (by decide +kernel) ⟨Nat.le_of_ble_eq_true rfl, Nat.le_of_ble_eq_true rfl⟩) rfl hl.1 rfl (Nat.le_of_ble_eq_true rfl) dX7_fall_40 ⟨Nat.zero_le _, Nat.zero_le _⟩ (fun r40 H locs hw hP hS => ?_)
          refine lv_lstore (lv' := [(4, .long r40), (0, .ref (h 0)), (1, .int v1), (2, .int v2), (3, .int v3)]) hx hb dX7_fall_43 hl (by decide) rfl (fun ls hl => ?_)
          refine lv_aload_n hx hb dX7_fall_45 rfl (lv_at hl 1 rfl) ?_
          refine lv_iload_n hx hb dX7_fall_46 rfl (lv_at hl 2 rfl) ?_
          refine lv_iload_n hx hb dX7_fall_47 rfl (lv_at hl 3 rfl) ?_
          refine lv_bipush (v := (-4 : Int32)) hx hb dX7_fall_48 (by decide) ?_
          refine xVl0 (As := [.int v1, .int v2, .int (-4 : Int32)]) (rest := []) hst hE hP hS ⟨hx, hb, hml, hown, hts⟩ (va_recv hK hP (ci := 7) (q := (RX7, TX7, 28)) rfl wM_0) (mX7_totalOf l D h cI cJ hh S L v1 v2 (-4 : Int32) _ hw) (cwV 3 hts gX7_fall_X7_totalOf rfl rfl rfl (by decide +kernel) ⟨Nat.le_of_ble_eq_true rfl, Nat.le_of_ble_eq_true rfl⟩) rfl hl.1 rfl (Nat.le_of_ble_eq_true rfl) dX7_fall_50 ⟨Nat.zero_le _, Nat.zero_le _⟩ (fun r50 H locs hw hP hS => ?_)
          refine lv_lstore (lv' := [(6, .long r50), (4, .long r40), (0, .ref (h 0)), (1, .int v1), (2, .int v2), (3, .int v3)]) hx hb dX7_fall_53 hl (by decide) rfl (fun ls hl => ?_)
          refine lv_lload hx hb dX7_fall_55 (lv_at hl 0 rfl) ?_
          refine lv_aload_n hx hb dX7_fall_57 rfl (lv_at hl 2 rfl) ?_
          refine va_get (D := D) (ci := 7) (v := .ref (h 11)) (C := RX7) (T := TX7) (N := 28) hx hb hts inX7 hown hK hP 0 wM_0 rfl 13 (by decide) f2 (fun _ h9 => h9) rfl dX7_fall_58 ?_
          refine lv_iload_n hx hb dX7_fall_61 rfl (lv_at hl 4 rfl) ?_
          obtain ⟨hi, hw⟩ := hw
          refine va_iald hx hb hK hP 11 0 wM_11 rfl hi dX7_fall_62 ?_
          refine lv_i2l hx hb dX7_fall_63 rfl ?_
          refine lv_lmul hx hb dX7_fall_64 ?_
          refine lv_aload_n hx hb dX7_fall_65 rfl (lv_at hl 2 rfl) ?_
          refine va_get (D := D) (ci := 7) (v := .ref (h 11)) (C := RX7) (T := TX7) (N := 28) hx hb hts inX7 hown hK hP 0 wM_0 rfl 13 (by decide) f2 (fun _ h9 => h9) rfl dX7_fall_66 ?_
          refine lv_iload_n hx hb dX7_fall_69 rfl (lv_at hl 3 rfl) ?_
          obtain ⟨hi, hw⟩ := hw
          refine va_iald hx hb hK hP 11 0 wM_11 rfl hi dX7_fall_70 ?_
          refine lv_i2l hx hb dX7_fall_71 rfl ?_
          obtain ⟨hi, hw⟩ := hw
          refine lv_ldiv hx hb dX7_fall_72 hi ?_
          refine lv_lstore (lv' := [(8, .long ((r50 * ((S 11 v2.toNatClampNeg).toInt64)) / ((S 11 v1.toNatClampNeg).toInt64))), (6, .long r50), (4, .long r40), (0, .ref (h 0)), (1, .int v1), (2, .int v2), (3, .int v3)]) hx hb dX7_fall_73 hl (by decide) rfl (fun ls hl => ?_)
          refine lv_iload_n hx hb dX7_fall_75 rfl (lv_at hl 6 rfl) ?_
          refine lv_if_ne (tgt := 87) hx hb dX7_fall_76 (by decide) (fun hc => ?_) (fun hc => ?_)
          · replace hw := And.right hw hc
            refine lv_iload_n hx hb dX7_fall_87 rfl (lv_at hl 6 rfl) ?_
            refine lv_iconst (v := (1 : Int32)) hx hb dX7_fall_88 (by decide) ?_
            refine lv_icmp_ne (tgt := 100) hx hb dX7_fall_89 (by decide) (fun hc => ?_) (fun hc => ?_)
            · replace hw := And.right hw hc
              refine lv_aload_n hx hb dX7_fall_100 rfl (lv_at hl 3 rfl) ?_
              refine lv_iload_n hx hb dX7_fall_101 rfl (lv_at hl 5 rfl) ?_
              refine lv_iload_n hx hb dX7_fall_102 rfl (lv_at hl 5 rfl) ?_
              refine lv_bipush (v := (-4 : Int32)) hx hb dX7_fall_103 (by decide) ?_
              refine xVl0 (As := [.int v2, .int v2, .int (-4 : Int32)]) (rest := []) hst hE hP hS ⟨hx, hb, hml, hown, hts⟩ (va_recv hK hP (ci := 7) (q := (RX7, TX7, 28)) rfl wM_0) (mX7_totalOf l D h cI cJ hh S L v2 v2 (-4 : Int32) _ hw) (cwV 3 hts gX7_fall_X7_totalOf rfl rfl rfl (by decide +kernel) ⟨Nat.le_of_ble_eq_true rfl, Nat.le_of_ble_eq_true rfl⟩) rfl hl.1 rfl (Nat.le_of_ble_eq_true rfl) dX7_fall_105 ⟨Nat.zero_le _, Nat.zero_le _⟩ (fun r105 H locs hw hP hS => ?_)
              refine lv_lload hx hb dX7_fall_108 (lv_at hl 0 rfl) ?_
              refine lv_lsub hx hb dX7_fall_110 ?_
              exact hret _ _ _ _ _ hP hS hw dX7_fall_111
            · replace hw := And.left hw hc
              refine lv_lload hx hb dX7_fall_92 (lv_at hl 0 rfl) ?_
              refine lv_lload hx hb dX7_fall_94 (lv_at hl 1 rfl) ?_
              refine lv_lsub hx hb dX7_fall_96 ?_
              refine lv_goto (tgt := 111) hx hb dX7_fall_97 (by decide) ?_
              exact hret _ _ _ _ _ hP hS hw dX7_fall_111
          · replace hw := And.left hw hc
            refine lv_lload hx hb dX7_fall_79 (lv_at hl 1 rfl) ?_
            refine lv_lload hx hb dX7_fall_81 (lv_at hl 2 rfl) ?_
            refine lv_lsub hx hb dX7_fall_83 ?_
            refine lv_goto (tgt := 111) hx hb dX7_fall_84 (by decide) ?_
            exact hret _ _ _ _ _ hP hS hw dX7_fall_111
        · replace hw := And.left hw hc
          refine lv_ldc2 (v := (-1000000000000000001 : Int64)) hx hb hown (f0) dX7_fall_31 ?_
          exact hret _ _ _ _ _ hP hS hw dX7_fall_34
abbrev rX7_saves_1 : Room := { frames := 0, cells := 0, slots := 0, locals := 0 }
set_option maxHeartbeats 4000000 in
set_option maxRecDepth 100000 in
theorem mX7_saves_1 (l : Launch) (D : va_G) (h : Nat → Nat) (cI cJ : ClassId) (hh : xdis 22 h) (S : SX) (L : LX) (v2 : Int32) (post : Int32 → SX → Prop) (hw : kX7_saves_1 S L v2 post) : Met l yX7_saves wsX7_saves rX7_saves_1 (xPre D (wM h cI cJ) (mE D cI cJ) S L [.ref (h 1), .ref (h 16), .int v2]) (va_Qi (fun (r : Int32) (u : SX × LX) => post r u.1 ∧ u.2 = L) (xB D (wM h cI cJ)) (xA 22 h)) 0 0 (xA 22 h) := by
  refine Met.ofW (cc := cX7_saves) (maxL := 4) (ret := (some .int)) (by decide) rfl ?_
  intro p e s m args below meth c s₁ B hml hv
  obtain ⟨hargs, hP, hE⟩ := hv
  have hx := B.exec
  have hb := B.bytes
  have hr := B.returns
  have hlocks := B.notSynchronized
  have hts := atoms_spec (ws := wsX7_saves) B.pre
  have hown : s.vm.findClass RX7 = some m.cls := findClass_of_methodNamed B.named
  have hS : va_S (xA 22 h) s.heap s.heap [] := va_S.rf
  have hD : ∀ (S : SX) (L : LX), va_D (xA 22 h) (wM h cI cJ S L) := fun S L => wM_D hh cI cJ S L
  have hK := id hE
  have hst : xSt (xA 22 h) (mE D cI cJ) := mE_st D _ cI cJ
  skip
  have hl := lv_entry ([.ref (h 1), .ref (h 16), .int v2]) (n := 4) (Nat.le_of_ble_eq_true rfl)
  have hen : entryFrame m args 4 = F0 m 0 ((lg_sl ([.ref (h 1), .ref (h 16), .int v2]) ++ List.replicate (4 - (lg_sl ([.ref (h 1), .ref (h 16), .int v2])).length) Slot.unset).toArray) [] := by rw [hargs]; exact lg_entry_eq m _ _
  rw [hen]
  generalize (lg_sl ([.ref (h 1), .ref (h 16), .int v2]) ++ List.replicate (4 - (lg_sl ([.ref (h 1), .ref (h 16), .int v2])).length) Slot.unset).toArray = ls at hl ⊢
  have hl : lv_has ls 4 [(0, .ref (h 1)), (1, .ref (h 16)), (2, .int v2)] := hl
  change W p l e rX7_saves_1 s m args below meth c s.heap [] 0 0 (MQ below (va_Qi (fun (r : Int32) (u : SX × LX) => post r u.1 ∧ u.2 = L) (xB D (wM h cI cJ)) (xA 22 h)) args s 0 0 (xA 22 h)) (F0 m 0 ls [])
  have hret : ∀ (r : Int32) (S1 : SX) (H : Heap) (locs : List Loc) (ls : Array Slot) (pc : Nat), va_P D vwCl (wM h cI cJ S1 L) H → va_S (xA 22 h) s.heap H locs → post r S1 → decode cX7_saves pc = .ok (.ireturn, 1) → W p l e rX7_saves_1 s m args below meth c H locs 0 0 (MQ below (va_Qi (fun (r : Int32) (u : SX × LX) => post r u.1 ∧ u.2 = L) (xB D (wM h cI cJ)) (xA 22 h)) args s 0 0 (xA 22 h)) (F0 m pc ls [.int r]) := fun r S1 H locs ls pc hP hS hw hd => W.iret hx hb hr (fun t ht hW => ⟨⟨r, (S1, L), rfl, ⟨hw, rfl⟩, show va_P D vwCl (wM h cI cJ S1 L) t.heap by rw [ht]; exact hP⟩, hS.F ht⟩) hS.2.2 hd
  generalize MQ below (va_Qi (fun (r : Int32) (u : SX × LX) => post r u.1 ∧ u.2 = L) (xB D (wM h cI cJ)) (xA 22 h)) args s 0 0 (xA 22 h) = Q at hret ⊢
  have b2 : ∀  (n2 : Nat) (v3 : Int32) (S : SX) (H : Heap) (locs : List Loc) (ls : Array Slot), lv_has ls 4 [(0, .ref (h 1)), (1, .ref (h 16)), (2, .int v2), (3, .int v3)] → va_P D vwCl (wM h cI cJ S L) H → va_S (xA 22 h) s.heap H locs → kX7_saves_1_b2 L v2 post n2 v3 S → W p l e rX7_saves_1 s m args below meth c H locs 0 0 Q (F0 m 2 ls []) := by
    intro n2
    induction n2 with
    | zero => intro v3 S H locs ls hl hP hS hw; exact absurd hw id
    | succ n2 i2 =>
      intro v3 S H locs ls hl hP hS hw
      unfold kX7_saves_1_b2 at hw
      refine lv_iload_n hx hb dX7_saves_2 rfl (lv_at hl 3 rfl) ?_
      refine lv_aload_n hx hb dX7_saves_3 rfl (lv_at hl 0 rfl) ?_
      refine va_alen (v := (6 : Int32)) hx hb hK hP 1 0 wM_1 rfl rfl dX7_saves_4 ?_
      refine lv_icmp_ge (tgt := 22) hx hb dX7_saves_5 (by decide) (fun hc => ?_) (fun hc => ?_)
      · replace hw := And.left hw hc
        refine lv_iload_n hx hb dX7_saves_22 rfl (lv_at hl 2 rfl) ?_
        refine lv_aload_n hx hb dX7_saves_23 rfl (lv_at hl 0 rfl) ?_
        refine va_alen (v := (6 : Int32)) hx hb hK hP 1 0 wM_1 rfl rfl dX7_saves_24 ?_
        refine lv_iadd hx hb dX7_saves_25 ?_
        exact hret _ _ _ _ _ _ hP hS hw dX7_saves_26
      · replace hw := And.right hw hc
        refine lv_aload_n hx hb dX7_saves_8 rfl (lv_at hl 1 rfl) ?_
        refine lv_iload_n hx hb dX7_saves_9 rfl (lv_at hl 2 rfl) ?_
        refine lv_iload_n hx hb dX7_saves_10 rfl (lv_at hl 3 rfl) ?_
        refine lv_iadd hx hb dX7_saves_11 ?_
        refine lv_aload_n hx hb dX7_saves_12 rfl (lv_at hl 0 rfl) ?_
        refine lv_iload_n hx hb dX7_saves_13 rfl (lv_at hl 3 rfl) ?_
        obtain ⟨hi, hw⟩ := hw
        refine va_iald hx hb hK hP 1 0 wM_1 rfl hi dX7_saves_14 ?_
        obtain ⟨hi, hw⟩ := hw
        refine x_iast (ws2 := wM h cI cJ (xu S 16 (v2 + v3).toNatClampNeg (S 1 v3.toNatClampNeg)) L) hx hb hK hP (hD _ _) hS 16 0 wM_16 rfl hi dX7_saves_15 (wM_u16 _ _) (fun H locs hP hS => ?_)
        refine lv_iinc (v := v3 + (1 : Int32)) (lv' := [(3, .int (v3 + (1 : Int32))), (0, .ref (h 1)), (1, .ref (h 16)), (2, .int v2)]) hx hb dX7_saves_16 hl (k := 3) rfl rfl (by decide) rfl (fun ls hl => ?_)
        refine lv_goto (tgt := 2) hx hb dX7_saves_19 (by decide) ?_
        exact i2 (v3 + (1 : Int32)) (xu S 16 (v2 + v3).toNatClampNeg (S 1 v3.toNatClampNeg)) _ _ _ (lv_sub hl [1, 2, 3, 0] rfl) hP hS hw
  unfold kX7_saves_1 at hw
  refine lv_iconst (v := (0 : Int32)) hx hb dX7_saves_0 (by decide) ?_
  refine lv_istore_n (lv' := [(3, .int (0 : Int32)), (0, .ref (h 1)), (1, .ref (h 16)), (2, .int v2)]) hx hb dX7_saves_1 rfl hl (by decide) rfl (fun ls hl => ?_)
  obtain ⟨n2, hw⟩ := hw
  exact b2  n2 (0 : Int32) S _ _ _ (lv_sub hl [1, 2, 3, 0] rfl) hP hS hw
abbrev rX7_saves_2 : Room := { frames := 0, cells := 0, slots := 0, locals := 0 }
set_option maxHeartbeats 4000000 in
set_option maxRecDepth 100000 in
theorem mX7_saves_2 (l : Launch) (D : va_G) (h : Nat → Nat) (cI cJ : ClassId) (hh : xdis 22 h) (S : SX) (L : LX) (v2 : Int32) (post : Int32 → SX → Prop) (hw : kX7_saves_2 S L v2 post) : Met l yX7_saves wsX7_saves rX7_saves_2 (xPre D (wM h cI cJ) (mE D cI cJ) S L [.ref (h 2), .ref (h 16), .int v2]) (va_Qi (fun (r : Int32) (u : SX × LX) => post r u.1 ∧ u.2 = L) (xB D (wM h cI cJ)) (xA 22 h)) 0 0 (xA 22 h) := by
  refine Met.ofW (cc := cX7_saves) (maxL := 4) (ret := (some .int)) (by decide) rfl ?_
  intro p e s m args below meth c s₁ B hml hv
  obtain ⟨hargs, hP, hE⟩ := hv
  have hx := B.exec
  have hb := B.bytes
  have hr := B.returns
  have hlocks := B.notSynchronized
  have hts := atoms_spec (ws := wsX7_saves) B.pre
  have hown : s.vm.findClass RX7 = some m.cls := findClass_of_methodNamed B.named
  have hS : va_S (xA 22 h) s.heap s.heap [] := va_S.rf
  have hD : ∀ (S : SX) (L : LX), va_D (xA 22 h) (wM h cI cJ S L) := fun S L => wM_D hh cI cJ S L
  have hK := id hE
  have hst : xSt (xA 22 h) (mE D cI cJ) := mE_st D _ cI cJ
  skip
  have hl := lv_entry ([.ref (h 2), .ref (h 16), .int v2]) (n := 4) (Nat.le_of_ble_eq_true rfl)
  have hen : entryFrame m args 4 = F0 m 0 ((lg_sl ([.ref (h 2), .ref (h 16), .int v2]) ++ List.replicate (4 - (lg_sl ([.ref (h 2), .ref (h 16), .int v2])).length) Slot.unset).toArray) [] := by rw [hargs]; exact lg_entry_eq m _ _
  rw [hen]
  generalize (lg_sl ([.ref (h 2), .ref (h 16), .int v2]) ++ List.replicate (4 - (lg_sl ([.ref (h 2), .ref (h 16), .int v2])).length) Slot.unset).toArray = ls at hl ⊢
  have hl : lv_has ls 4 [(0, .ref (h 2)), (1, .ref (h 16)), (2, .int v2)] := hl
  change W p l e rX7_saves_2 s m args below meth c s.heap [] 0 0 (MQ below (va_Qi (fun (r : Int32) (u : SX × LX) => post r u.1 ∧ u.2 = L) (xB D (wM h cI cJ)) (xA 22 h)) args s 0 0 (xA 22 h)) (F0 m 0 ls [])
  have hret : ∀ (r : Int32) (S1 : SX) (H : Heap) (locs : List Loc) (ls : Array Slot) (pc : Nat), va_P D vwCl (wM h cI cJ S1 L) H → va_S (xA 22 h) s.heap H locs → post r S1 → decode cX7_saves pc = .ok (.ireturn, 1) → W p l e rX7_saves_2 s m args below meth c H locs 0 0 (MQ below (va_Qi (fun (r : Int32) (u : SX × LX) => post r u.1 ∧ u.2 = L) (xB D (wM h cI cJ)) (xA 22 h)) args s 0 0 (xA 22 h)) (F0 m pc ls [.int r]) := fun r S1 H locs ls pc hP hS hw hd => W.iret hx hb hr (fun t ht hW => ⟨⟨r, (S1, L), rfl, ⟨hw, rfl⟩, show va_P D vwCl (wM h cI cJ S1 L) t.heap by rw [ht]; exact hP⟩, hS.F ht⟩) hS.2.2 hd
  generalize MQ below (va_Qi (fun (r : Int32) (u : SX × LX) => post r u.1 ∧ u.2 = L) (xB D (wM h cI cJ)) (xA 22 h)) args s 0 0 (xA 22 h) = Q at hret ⊢
  have b2 : ∀  (n2 : Nat) (v3 : Int32) (S : SX) (H : Heap) (locs : List Loc) (ls : Array Slot), lv_has ls 4 [(0, .ref (h 2)), (1, .ref (h 16)), (2, .int v2), (3, .int v3)] → va_P D vwCl (wM h cI cJ S L) H → va_S (xA 22 h) s.heap H locs → kX7_saves_2_b2 L v2 post n2 v3 S → W p l e rX7_saves_2 s m args below meth c H locs 0 0 Q (F0 m 2 ls []) := by
    intro n2
    induction n2 with
    | zero => intro v3 S H locs ls hl hP hS hw; exact absurd hw id
    | succ n2 i2 =>
      intro v3 S H locs ls hl hP hS hw
      unfold kX7_saves_2_b2 at hw
      refine lv_iload_n hx hb dX7_saves_2 rfl (lv_at hl 3 rfl) ?_
      refine lv_aload_n hx hb dX7_saves_3 rfl (lv_at hl 0 rfl) ?_
      refine va_alen (v := (24 : Int32)) hx hb hK hP 2 0 wM_2 rfl rfl dX7_saves_4 ?_
      refine lv_icmp_ge (tgt := 22) hx hb dX7_saves_5 (by decide) (fun hc => ?_) (fun hc => ?_)
      · replace hw := And.left hw hc
        refine lv_iload_n hx hb dX7_saves_22 rfl (lv_at hl 2 rfl) ?_
        refine lv_aload_n hx hb dX7_saves_23 rfl (lv_at hl 0 rfl) ?_
        refine va_alen (v := (24 : Int32)) hx hb hK hP 2 0 wM_2 rfl rfl dX7_saves_24 ?_
        refine lv_iadd hx hb dX7_saves_25 ?_
        exact hret _ _ _ _ _ _ hP hS hw dX7_saves_26
      · replace hw := And.right hw hc
        refine lv_aload_n hx hb dX7_saves_8 rfl (lv_at hl 1 rfl) ?_
        refine lv_iload_n hx hb dX7_saves_9 rfl (lv_at hl 2 rfl) ?_
        refine lv_iload_n hx hb dX7_saves_10 rfl (lv_at hl 3 rfl) ?_
        refine lv_iadd hx hb dX7_saves_11 ?_
        refine lv_aload_n hx hb dX7_saves_12 rfl (lv_at hl 0 rfl) ?_
        refine lv_iload_n hx hb dX7_saves_13 rfl (lv_at hl 3 rfl) ?_
        obtain ⟨hi, hw⟩ := hw
        refine va_iald hx hb hK hP 2 0 wM_2 rfl hi dX7_saves_14 ?_
        obtain ⟨hi, hw⟩ := hw
        refine x_iast (ws2 := wM h cI cJ (xu S 16 (v2 + v3).toNatClampNeg (S 2 v3.toNatClampNeg)) L) hx hb hK hP (hD _ _) hS 16 0 wM_16 rfl hi dX7_saves_15 (wM_u16 _ _) (fun H locs hP hS => ?_)
        refine lv_iinc (v := v3 + (1 : Int32)) (lv' := [(3, .int (v3 + (1 : Int32))), (0, .ref (h 2)), (1, .ref (h 16)), (2, .int v2)]) hx hb dX7_saves_16 hl (k := 3) rfl rfl (by decide) rfl (fun ls hl => ?_)
        refine lv_goto (tgt := 2) hx hb dX7_saves_19 (by decide) ?_
        exact i2 (v3 + (1 : Int32)) (xu S 16 (v2 + v3).toNatClampNeg (S 2 v3.toNatClampNeg)) _ _ _ (lv_sub hl [1, 2, 3, 0] rfl) hP hS hw
  unfold kX7_saves_2 at hw
  refine lv_iconst (v := (0 : Int32)) hx hb dX7_saves_0 (by decide) ?_
  refine lv_istore_n (lv' := [(3, .int (0 : Int32)), (0, .ref (h 2)), (1, .ref (h 16)), (2, .int v2)]) hx hb dX7_saves_1 rfl hl (by decide) rfl (fun ls hl => ?_)
  obtain ⟨n2, hw⟩ := hw
  exact b2  n2 (0 : Int32) S _ _ _ (lv_sub hl [1, 2, 3, 0] rfl) hP hS hw
abbrev rX7_saves_3 : Room := { frames := 0, cells := 0, slots := 0, locals := 0 }
set_option maxHeartbeats 4000000 in
set_option maxRecDepth 100000 in
theorem mX7_saves_3 (l : Launch) (D : va_G) (h : Nat → Nat) (cI cJ : ClassId) (hh : xdis 22 h) (S : SX) (L : LX) (v2 : Int32) (post : Int32 → SX → Prop) (hw : kX7_saves_3 S L v2 post) : Met l yX7_saves wsX7_saves rX7_saves_3 (xPre D (wM h cI cJ) (mE D cI cJ) S L [.ref (h 3), .ref (h 16), .int v2]) (va_Qi (fun (r : Int32) (u : SX × LX) => post r u.1 ∧ u.2 = L) (xB D (wM h cI cJ)) (xA 22 h)) 0 0 (xA 22 h) := by
  refine Met.ofW (cc := cX7_saves) (maxL := 4) (ret := (some .int)) (by decide) rfl ?_
  intro p e s m args below meth c s₁ B hml hv
  obtain ⟨hargs, hP, hE⟩ := hv
  have hx := B.exec
  have hb := B.bytes
  have hr := B.returns
  have hlocks := B.notSynchronized
  have hts := atoms_spec (ws := wsX7_saves) B.pre
  have hown : s.vm.findClass RX7 = some m.cls := findClass_of_methodNamed B.named
  have hS : va_S (xA 22 h) s.heap s.heap [] := va_S.rf
  have hD : ∀ (S : SX) (L : LX), va_D (xA 22 h) (wM h cI cJ S L) := fun S L => wM_D hh cI cJ S L
  have hK := id hE
  have hst : xSt (xA 22 h) (mE D cI cJ) := mE_st D _ cI cJ
  skip
  have hl := lv_entry ([.ref (h 3), .ref (h 16), .int v2]) (n := 4) (Nat.le_of_ble_eq_true rfl)
  have hen : entryFrame m args 4 = F0 m 0 ((lg_sl ([.ref (h 3), .ref (h 16), .int v2]) ++ List.replicate (4 - (lg_sl ([.ref (h 3), .ref (h 16), .int v2])).length) Slot.unset).toArray) [] := by rw [hargs]; exact lg_entry_eq m _ _
  rw [hen]
  generalize (lg_sl ([.ref (h 3), .ref (h 16), .int v2]) ++ List.replicate (4 - (lg_sl ([.ref (h 3), .ref (h 16), .int v2])).length) Slot.unset).toArray = ls at hl ⊢
  have hl : lv_has ls 4 [(0, .ref (h 3)), (1, .ref (h 16)), (2, .int v2)] := hl
  change W p l e rX7_saves_3 s m args below meth c s.heap [] 0 0 (MQ below (va_Qi (fun (r : Int32) (u : SX × LX) => post r u.1 ∧ u.2 = L) (xB D (wM h cI cJ)) (xA 22 h)) args s 0 0 (xA 22 h)) (F0 m 0 ls [])
  have hret : ∀ (r : Int32) (S1 : SX) (H : Heap) (locs : List Loc) (ls : Array Slot) (pc : Nat), va_P D vwCl (wM h cI cJ S1 L) H → va_S (xA 22 h) s.heap H locs → post r S1 → decode cX7_saves pc = .ok (.ireturn, 1) → W p l e rX7_saves_3 s m args below meth c H locs 0 0 (MQ below (va_Qi (fun (r : Int32) (u : SX × LX) => post r u.1 ∧ u.2 = L) (xB D (wM h cI cJ)) (xA 22 h)) args s 0 0 (xA 22 h)) (F0 m pc ls [.int r]) := fun r S1 H locs ls pc hP hS hw hd => W.iret hx hb hr (fun t ht hW => ⟨⟨r, (S1, L), rfl, ⟨hw, rfl⟩, show va_P D vwCl (wM h cI cJ S1 L) t.heap by rw [ht]; exact hP⟩, hS.F ht⟩) hS.2.2 hd
  generalize MQ below (va_Qi (fun (r : Int32) (u : SX × LX) => post r u.1 ∧ u.2 = L) (xB D (wM h cI cJ)) (xA 22 h)) args s 0 0 (xA 22 h) = Q at hret ⊢
  have b2 : ∀  (n2 : Nat) (v3 : Int32) (S : SX) (H : Heap) (locs : List Loc) (ls : Array Slot), lv_has ls 4 [(0, .ref (h 3)), (1, .ref (h 16)), (2, .int v2), (3, .int v3)] → va_P D vwCl (wM h cI cJ S L) H → va_S (xA 22 h) s.heap H locs → kX7_saves_3_b2 L v2 post n2 v3 S → W p l e rX7_saves_3 s m args below meth c H locs 0 0 Q (F0 m 2 ls []) := by
    intro n2
    induction n2 with
    | zero => intro v3 S H locs ls hl hP hS hw; exact absurd hw id
    | succ n2 i2 =>
      intro v3 S H locs ls hl hP hS hw
      unfold kX7_saves_3_b2 at hw
      refine lv_iload_n hx hb dX7_saves_2 rfl (lv_at hl 3 rfl) ?_
      refine lv_aload_n hx hb dX7_saves_3 rfl (lv_at hl 0 rfl) ?_
      refine va_alen (v := (24 : Int32)) hx hb hK hP 3 0 wM_3 rfl rfl dX7_saves_4 ?_
      refine lv_icmp_ge (tgt := 22) hx hb dX7_saves_5 (by decide) (fun hc => ?_) (fun hc => ?_)
      · replace hw := And.left hw hc
        refine lv_iload_n hx hb dX7_saves_22 rfl (lv_at hl 2 rfl) ?_
        refine lv_aload_n hx hb dX7_saves_23 rfl (lv_at hl 0 rfl) ?_
        refine va_alen (v := (24 : Int32)) hx hb hK hP 3 0 wM_3 rfl rfl dX7_saves_24 ?_
        refine lv_iadd hx hb dX7_saves_25 ?_
        exact hret _ _ _ _ _ _ hP hS hw dX7_saves_26
      · replace hw := And.right hw hc
        refine lv_aload_n hx hb dX7_saves_8 rfl (lv_at hl 1 rfl) ?_
        refine lv_iload_n hx hb dX7_saves_9 rfl (lv_at hl 2 rfl) ?_
        refine lv_iload_n hx hb dX7_saves_10 rfl (lv_at hl 3 rfl) ?_
        refine lv_iadd hx hb dX7_saves_11 ?_
        refine lv_aload_n hx hb dX7_saves_12 rfl (lv_at hl 0 rfl) ?_
        refine lv_iload_n hx hb dX7_saves_13 rfl (lv_at hl 3 rfl) ?_
        obtain ⟨hi, hw⟩ := hw
        refine va_iald hx hb hK hP 3 0 wM_3 rfl hi dX7_saves_14 ?_
        obtain ⟨hi, hw⟩ := hw
        refine x_iast (ws2 := wM h cI cJ (xu S 16 (v2 + v3).toNatClampNeg (S 3 v3.toNatClampNeg)) L) hx hb hK hP (hD _ _) hS 16 0 wM_16 rfl hi dX7_saves_15 (wM_u16 _ _) (fun H locs hP hS => ?_)
        refine lv_iinc (v := v3 + (1 : Int32)) (lv' := [(3, .int (v3 + (1 : Int32))), (0, .ref (h 3)), (1, .ref (h 16)), (2, .int v2)]) hx hb dX7_saves_16 hl (k := 3) rfl rfl (by decide) rfl (fun ls hl => ?_)
        refine lv_goto (tgt := 2) hx hb dX7_saves_19 (by decide) ?_
        exact i2 (v3 + (1 : Int32)) (xu S 16 (v2 + v3).toNatClampNeg (S 3 v3.toNatClampNeg)) _ _ _ (lv_sub hl [1, 2, 3, 0] rfl) hP hS hw
  unfold kX7_saves_3 at hw
  refine lv_iconst (v := (0 : Int32)) hx hb dX7_saves_0 (by decide) ?_
  refine lv_istore_n (lv' := [(3, .int (0 : Int32)), (0, .ref (h 3)), (1, .ref (h 16)), (2, .int v2)]) hx hb dX7_saves_1 rfl hl (by decide) rfl (fun ls hl => ?_)
  obtain ⟨n2, hw⟩ := hw
  exact b2  n2 (0 : Int32) S _ _ _ (lv_sub hl [1, 2, 3, 0] rfl) hP hS hw
abbrev rX7_saves_4 : Room := { frames := 0, cells := 0, slots := 0, locals := 0 }
set_option maxHeartbeats 4000000 in
set_option maxRecDepth 100000 in
theorem mX7_saves_4 (l : Launch) (D : va_G) (h : Nat → Nat) (cI cJ : ClassId) (hh : xdis 22 h) (S : SX) (L : LX) (v2 : Int32) (post : Int32 → SX → Prop) (hw : kX7_saves_4 S L v2 post) : Met l yX7_saves wsX7_saves rX7_saves_4 (xPre D (wM h cI cJ) (mE D cI cJ) S L [.ref (h 4), .ref (h 16), .int v2]) (va_Qi (fun (r : Int32) (u : SX × LX) => post r u.1 ∧ u.2 = L) (xB D (wM h cI cJ)) (xA 22 h)) 0 0 (xA 22 h) := by
  refine Met.ofW (cc := cX7_saves) (maxL := 4) (ret := (some .int)) (by decide) rfl ?_
  intro p e s m args below meth c s₁ B hml hv
  obtain ⟨hargs, hP, hE⟩ := hv
  have hx := B.exec
  have hb := B.bytes
  have hr := B.returns
  have hlocks := B.notSynchronized
  have hts := atoms_spec (ws := wsX7_saves) B.pre
  have hown : s.vm.findClass RX7 = some m.cls := findClass_of_methodNamed B.named
  have hS : va_S (xA 22 h) s.heap s.heap [] := va_S.rf
  have hD : ∀ (S : SX) (L : LX), va_D (xA 22 h) (wM h cI cJ S L) := fun S L => wM_D hh cI cJ S L
  have hK := id hE
  have hst : xSt (xA 22 h) (mE D cI cJ) := mE_st D _ cI cJ
  skip
  have hl := lv_entry ([.ref (h 4), .ref (h 16), .int v2]) (n := 4) (Nat.le_of_ble_eq_true rfl)
  have hen : entryFrame m args 4 = F0 m 0 ((lg_sl ([.ref (h 4), .ref (h 16), .int v2]) ++ List.replicate (4 - (lg_sl ([.ref (h 4), .ref (h 16), .int v2])).length) Slot.unset).toArray) [] := by rw [hargs]; exact lg_entry_eq m _ _
  rw [hen]
  generalize (lg_sl ([.ref (h 4), .ref (h 16), .int v2]) ++ List.replicate (4 - (lg_sl ([.ref (h 4), .ref (h 16), .int v2])).length) Slot.unset).toArray = ls at hl ⊢
  have hl : lv_has ls 4 [(0, .ref (h 4)), (1, .ref (h 16)), (2, .int v2)] := hl
  change W p l e rX7_saves_4 s m args below meth c s.heap [] 0 0 (MQ below (va_Qi (fun (r : Int32) (u : SX × LX) => post r u.1 ∧ u.2 = L) (xB D (wM h cI cJ)) (xA 22 h)) args s 0 0 (xA 22 h)) (F0 m 0 ls [])
  have hret : ∀ (r : Int32) (S1 : SX) (H : Heap) (locs : List Loc) (ls : Array Slot) (pc : Nat), va_P D vwCl (wM h cI cJ S1 L) H → va_S (xA 22 h) s.heap H locs → post r S1 → decode cX7_saves pc = .ok (.ireturn, 1) → W p l e rX7_saves_4 s m args below meth c H locs 0 0 (MQ below (va_Qi (fun (r : Int32) (u : SX × LX) => post r u.1 ∧ u.2 = L) (xB D (wM h cI cJ)) (xA 22 h)) args s 0 0 (xA 22 h)) (F0 m pc ls [.int r]) := fun r S1 H locs ls pc hP hS hw hd => W.iret hx hb hr (fun t ht hW => ⟨⟨r, (S1, L), rfl, ⟨hw, rfl⟩, show va_P D vwCl (wM h cI cJ S1 L) t.heap by rw [ht]; exact hP⟩, hS.F ht⟩) hS.2.2 hd
  generalize MQ below (va_Qi (fun (r : Int32) (u : SX × LX) => post r u.1 ∧ u.2 = L) (xB D (wM h cI cJ)) (xA 22 h)) args s 0 0 (xA 22 h) = Q at hret ⊢
  have b2 : ∀  (n2 : Nat) (v3 : Int32) (S : SX) (H : Heap) (locs : List Loc) (ls : Array Slot), lv_has ls 4 [(0, .ref (h 4)), (1, .ref (h 16)), (2, .int v2), (3, .int v3)] → va_P D vwCl (wM h cI cJ S L) H → va_S (xA 22 h) s.heap H locs → kX7_saves_4_b2 L v2 post n2 v3 S → W p l e rX7_saves_4 s m args below meth c H locs 0 0 Q (F0 m 2 ls []) := by
    intro n2
    induction n2 with
    | zero => intro v3 S H locs ls hl hP hS hw; exact absurd hw id
    | succ n2 i2 =>
      intro v3 S H locs ls hl hP hS hw
      unfold kX7_saves_4_b2 at hw
      refine lv_iload_n hx hb dX7_saves_2 rfl (lv_at hl 3 rfl) ?_
      refine lv_aload_n hx hb dX7_saves_3 rfl (lv_at hl 0 rfl) ?_
      refine va_alen (v := (24 : Int32)) hx hb hK hP 4 0 wM_4 rfl rfl dX7_saves_4 ?_
      refine lv_icmp_ge (tgt := 22) hx hb dX7_saves_5 (by decide) (fun hc => ?_) (fun hc => ?_)
      · replace hw := And.left hw hc
        refine lv_iload_n hx hb dX7_saves_22 rfl (lv_at hl 2 rfl) ?_
        refine lv_aload_n hx hb dX7_saves_23 rfl (lv_at hl 0 rfl) ?_
        refine va_alen (v := (24 : Int32)) hx hb hK hP 4 0 wM_4 rfl rfl dX7_saves_24 ?_
        refine lv_iadd hx hb dX7_saves_25 ?_
        exact hret _ _ _ _ _ _ hP hS hw dX7_saves_26
      · replace hw := And.right hw hc
        refine lv_aload_n hx hb dX7_saves_8 rfl (lv_at hl 1 rfl) ?_
        refine lv_iload_n hx hb dX7_saves_9 rfl (lv_at hl 2 rfl) ?_
        refine lv_iload_n hx hb dX7_saves_10 rfl (lv_at hl 3 rfl) ?_
        refine lv_iadd hx hb dX7_saves_11 ?_
        refine lv_aload_n hx hb dX7_saves_12 rfl (lv_at hl 0 rfl) ?_
        refine lv_iload_n hx hb dX7_saves_13 rfl (lv_at hl 3 rfl) ?_
        obtain ⟨hi, hw⟩ := hw
        refine va_iald hx hb hK hP 4 0 wM_4 rfl hi dX7_saves_14 ?_
        obtain ⟨hi, hw⟩ := hw
        refine x_iast (ws2 := wM h cI cJ (xu S 16 (v2 + v3).toNatClampNeg (S 4 v3.toNatClampNeg)) L) hx hb hK hP (hD _ _) hS 16 0 wM_16 rfl hi dX7_saves_15 (wM_u16 _ _) (fun H locs hP hS => ?_)
        refine lv_iinc (v := v3 + (1 : Int32)) (lv' := [(3, .int (v3 + (1 : Int32))), (0, .ref (h 4)), (1, .ref (h 16)), (2, .int v2)]) hx hb dX7_saves_16 hl (k := 3) rfl rfl (by decide) rfl (fun ls hl => ?_)
        refine lv_goto (tgt := 2) hx hb dX7_saves_19 (by decide) ?_
        exact i2 (v3 + (1 : Int32)) (xu S 16 (v2 + v3).toNatClampNeg (S 4 v3.toNatClampNeg)) _ _ _ (lv_sub hl [1, 2, 3, 0] rfl) hP hS hw
  unfold kX7_saves_4 at hw
  refine lv_iconst (v := (0 : Int32)) hx hb dX7_saves_0 (by decide) ?_
  refine lv_istore_n (lv' := [(3, .int (0 : Int32)), (0, .ref (h 4)), (1, .ref (h 16)), (2, .int v2)]) hx hb dX7_saves_1 rfl hl (by decide) rfl (fun ls hl => ?_)
  obtain ⟨n2, hw⟩ := hw
  exact b2  n2 (0 : Int32) S _ _ _ (lv_sub hl [1, 2, 3, 0] rfl) hP hS hw
abbrev rX7_saves_5 : Room := { frames := 0, cells := 0, slots := 0, locals := 0 }
set_option maxHeartbeats 4000000 in
set_option maxRecDepth 100000 in
theorem mX7_saves_5 (l : Launch) (D : va_G) (h : Nat → Nat) (cI cJ : ClassId) (hh : xdis 22 h) (S : SX) (L : LX) (v2 : Int32) (post : Int32 → SX → Prop) (hw : kX7_saves_5 S L v2 post) : Met l yX7_saves wsX7_saves rX7_saves_5 (xPre D (wM h cI cJ) (mE D cI cJ) S L [.ref (h 5), .ref (h 16), .int v2]) (va_Qi (fun (r : Int32) (u : SX × LX) => post r u.1 ∧ u.2 = L) (xB D (wM h cI cJ)) (xA 22 h)) 0 0 (xA 22 h) := by
  refine Met.ofW (cc := cX7_saves) (maxL := 4) (ret := (some .int)) (by decide) rfl ?_
  intro p e s m args below meth c s₁ B hml hv
  obtain ⟨hargs, hP, hE⟩ := hv
  have hx := B.exec
  have hb := B.bytes
  have hr := B.returns
  have hlocks := B.notSynchronized
  have hts := atoms_spec (ws := wsX7_saves) B.pre
  have hown : s.vm.findClass RX7 = some m.cls := findClass_of_methodNamed B.named
  have hS : va_S (xA 22 h) s.heap s.heap [] := va_S.rf
  have hD : ∀ (S : SX) (L : LX), va_D (xA 22 h) (wM h cI cJ S L) := fun S L => wM_D hh cI cJ S L
  have hK := id hE
  have hst : xSt (xA 22 h) (mE D cI cJ) := mE_st D _ cI cJ
  skip
  have hl := lv_entry ([.ref (h 5), .ref (h 16), .int v2]) (n := 4) (Nat.le_of_ble_eq_true rfl)
  have hen : entryFrame m args 4 = F0 m 0 ((lg_sl ([.ref (h 5), .ref (h 16), .int v2]) ++ List.replicate (4 - (lg_sl ([.ref (h 5), .ref (h 16), .int v2])).length) Slot.unset).toArray) [] := by rw [hargs]; exact lg_entry_eq m _ _
  rw [hen]
  generalize (lg_sl ([.ref (h 5), .ref (h 16), .int v2]) ++ List.replicate (4 - (lg_sl ([.ref (h 5), .ref (h 16), .int v2])).length) Slot.unset).toArray = ls at hl ⊢
  have hl : lv_has ls 4 [(0, .ref (h 5)), (1, .ref (h 16)), (2, .int v2)] := hl
  change W p l e rX7_saves_5 s m args below meth c s.heap [] 0 0 (MQ below (va_Qi (fun (r : Int32) (u : SX × LX) => post r u.1 ∧ u.2 = L) (xB D (wM h cI cJ)) (xA 22 h)) args s 0 0 (xA 22 h)) (F0 m 0 ls [])
  have hret : ∀ (r : Int32) (S1 : SX) (H : Heap) (locs : List Loc) (ls : Array Slot) (pc : Nat), va_P D vwCl (wM h cI cJ S1 L) H → va_S (xA 22 h) s.heap H locs → post r S1 → decode cX7_saves pc = .ok (.ireturn, 1) → W p l e rX7_saves_5 s m args below meth c H locs 0 0 (MQ below (va_Qi (fun (r : Int32) (u : SX × LX) => post r u.1 ∧ u.2 = L) (xB D (wM h cI cJ)) (xA 22 h)) args s 0 0 (xA 22 h)) (F0 m pc ls [.int r]) := fun r S1 H locs ls pc hP hS hw hd => W.iret hx hb hr (fun t ht hW => ⟨⟨r, (S1, L), rfl, ⟨hw, rfl⟩, show va_P D vwCl (wM h cI cJ S1 L) t.heap by rw [ht]; exact hP⟩, hS.F ht⟩) hS.2.2 hd
  generalize MQ below (va_Qi (fun (r : Int32) (u : SX × LX) => post r u.1 ∧ u.2 = L) (xB D (wM h cI cJ)) (xA 22 h)) args s 0 0 (xA 22 h) = Q at hret ⊢
  have b2 : ∀  (n2 : Nat) (v3 : Int32) (S : SX) (H : Heap) (locs : List Loc) (ls : Array Slot), lv_has ls 4 [(0, .ref (h 5)), (1, .ref (h 16)), (2, .int v2), (3, .int v3)] → va_P D vwCl (wM h cI cJ S L) H → va_S (xA 22 h) s.heap H locs → kX7_saves_5_b2 L v2 post n2 v3 S → W p l e rX7_saves_5 s m args below meth c H locs 0 0 Q (F0 m 2 ls []) := by
    intro n2
    induction n2 with
    | zero => intro v3 S H locs ls hl hP hS hw; exact absurd hw id
    | succ n2 i2 =>
      intro v3 S H locs ls hl hP hS hw
      unfold kX7_saves_5_b2 at hw
      refine lv_iload_n hx hb dX7_saves_2 rfl (lv_at hl 3 rfl) ?_
      refine lv_aload_n hx hb dX7_saves_3 rfl (lv_at hl 0 rfl) ?_
      refine va_alen (v := (96 : Int32)) hx hb hK hP 5 0 wM_5 rfl rfl dX7_saves_4 ?_
      refine lv_icmp_ge (tgt := 22) hx hb dX7_saves_5 (by decide) (fun hc => ?_) (fun hc => ?_)
      · replace hw := And.left hw hc
        refine lv_iload_n hx hb dX7_saves_22 rfl (lv_at hl 2 rfl) ?_
        refine lv_aload_n hx hb dX7_saves_23 rfl (lv_at hl 0 rfl) ?_
        refine va_alen (v := (96 : Int32)) hx hb hK hP 5 0 wM_5 rfl rfl dX7_saves_24 ?_
        refine lv_iadd hx hb dX7_saves_25 ?_
        exact hret _ _ _ _ _ _ hP hS hw dX7_saves_26
      · replace hw := And.right hw hc
        refine lv_aload_n hx hb dX7_saves_8 rfl (lv_at hl 1 rfl) ?_
        refine lv_iload_n hx hb dX7_saves_9 rfl (lv_at hl 2 rfl) ?_
        refine lv_iload_n hx hb dX7_saves_10 rfl (lv_at hl 3 rfl) ?_
        refine lv_iadd hx hb dX7_saves_11 ?_
        refine lv_aload_n hx hb dX7_saves_12 rfl (lv_at hl 0 rfl) ?_
        refine lv_iload_n hx hb dX7_saves_13 rfl (lv_at hl 3 rfl) ?_
        obtain ⟨hi, hw⟩ := hw
        refine va_iald hx hb hK hP 5 0 wM_5 rfl hi dX7_saves_14 ?_
        obtain ⟨hi, hw⟩ := hw
        refine x_iast (ws2 := wM h cI cJ (xu S 16 (v2 + v3).toNatClampNeg (S 5 v3.toNatClampNeg)) L) hx hb hK hP (hD _ _) hS 16 0 wM_16 rfl hi dX7_saves_15 (wM_u16 _ _) (fun H locs hP hS => ?_)
        refine lv_iinc (v := v3 + (1 : Int32)) (lv' := [(3, .int (v3 + (1 : Int32))), (0, .ref (h 5)), (1, .ref (h 16)), (2, .int v2)]) hx hb dX7_saves_16 hl (k := 3) rfl rfl (by decide) rfl (fun ls hl => ?_)
        refine lv_goto (tgt := 2) hx hb dX7_saves_19 (by decide) ?_
        exact i2 (v3 + (1 : Int32)) (xu S 16 (v2 + v3).toNatClampNeg (S 5 v3.toNatClampNeg)) _ _ _ (lv_sub hl [1, 2, 3, 0] rfl) hP hS hw
  unfold kX7_saves_5 at hw
  refine lv_iconst (v := (0 : Int32)) hx hb dX7_saves_0 (by decide) ?_
  refine lv_istore_n (lv' := [(3, .int (0 : Int32)), (0, .ref (h 5)), (1, .ref (h 16)), (2, .int v2)]) hx hb dX7_saves_1 rfl hl (by decide) rfl (fun ls hl => ?_)
  obtain ⟨n2, hw⟩ := hw
  exact b2  n2 (0 : Int32) S _ _ _ (lv_sub hl [1, 2, 3, 0] rfl) hP hS hw
abbrev rX7_saves_6 : Room := { frames := 0, cells := 0, slots := 0, locals := 0 }
set_option maxHeartbeats 4000000 in
set_option maxRecDepth 100000 in
theorem mX7_saves_6 (l : Launch) (D : va_G) (h : Nat → Nat) (cI cJ : ClassId) (hh : xdis 22 h) (S : SX) (L : LX) (v2 : Int32) (post : Int32 → SX → Prop) (hw : kX7_saves_6 S L v2 post) : Met l yX7_saves wsX7_saves rX7_saves_6 (xPre D (wM h cI cJ) (mE D cI cJ) S L [.ref (h 6), .ref (h 16), .int v2]) (va_Qi (fun (r : Int32) (u : SX × LX) => post r u.1 ∧ u.2 = L) (xB D (wM h cI cJ)) (xA 22 h)) 0 0 (xA 22 h) := by
  refine Met.ofW (cc := cX7_saves) (maxL := 4) (ret := (some .int)) (by decide) rfl ?_
  intro p e s m args below meth c s₁ B hml hv
  obtain ⟨hargs, hP, hE⟩ := hv
  have hx := B.exec
  have hb := B.bytes
  have hr := B.returns
  have hlocks := B.notSynchronized
  have hts := atoms_spec (ws := wsX7_saves) B.pre
  have hown : s.vm.findClass RX7 = some m.cls := findClass_of_methodNamed B.named
  have hS : va_S (xA 22 h) s.heap s.heap [] := va_S.rf
  have hD : ∀ (S : SX) (L : LX), va_D (xA 22 h) (wM h cI cJ S L) := fun S L => wM_D hh cI cJ S L
  have hK := id hE
  have hst : xSt (xA 22 h) (mE D cI cJ) := mE_st D _ cI cJ
  skip
  have hl := lv_entry ([.ref (h 6), .ref (h 16), .int v2]) (n := 4) (Nat.le_of_ble_eq_true rfl)
  have hen : entryFrame m args 4 = F0 m 0 ((lg_sl ([.ref (h 6), .ref (h 16), .int v2]) ++ List.replicate (4 - (lg_sl ([.ref (h 6), .ref (h 16), .int v2])).length) Slot.unset).toArray) [] := by rw [hargs]; exact lg_entry_eq m _ _
  rw [hen]
  generalize (lg_sl ([.ref (h 6), .ref (h 16), .int v2]) ++ List.replicate (4 - (lg_sl ([.ref (h 6), .ref (h 16), .int v2])).length) Slot.unset).toArray = ls at hl ⊢
  have hl : lv_has ls 4 [(0, .ref (h 6)), (1, .ref (h 16)), (2, .int v2)] := hl
  change W p l e rX7_saves_6 s m args below meth c s.heap [] 0 0 (MQ below (va_Qi (fun (r : Int32) (u : SX × LX) => post r u.1 ∧ u.2 = L) (xB D (wM h cI cJ)) (xA 22 h)) args s 0 0 (xA 22 h)) (F0 m 0 ls [])
  have hret : ∀ (r : Int32) (S1 : SX) (H : Heap) (locs : List Loc) (ls : Array Slot) (pc : Nat), va_P D vwCl (wM h cI cJ S1 L) H → va_S (xA 22 h) s.heap H locs → post r S1 → decode cX7_saves pc = .ok (.ireturn, 1) → W p l e rX7_saves_6 s m args below meth c H locs 0 0 (MQ below (va_Qi (fun (r : Int32) (u : SX × LX) => post r u.1 ∧ u.2 = L) (xB D (wM h cI cJ)) (xA 22 h)) args s 0 0 (xA 22 h)) (F0 m pc ls [.int r]) := fun r S1 H locs ls pc hP hS hw hd => W.iret hx hb hr (fun t ht hW => ⟨⟨r, (S1, L), rfl, ⟨hw, rfl⟩, show va_P D vwCl (wM h cI cJ S1 L) t.heap by rw [ht]; exact hP⟩, hS.F ht⟩) hS.2.2 hd
  generalize MQ below (va_Qi (fun (r : Int32) (u : SX × LX) => post r u.1 ∧ u.2 = L) (xB D (wM h cI cJ)) (xA 22 h)) args s 0 0 (xA 22 h) = Q at hret ⊢
  have b2 : ∀  (n2 : Nat) (v3 : Int32) (S : SX) (H : Heap) (locs : List Loc) (ls : Array Slot), lv_has ls 4 [(0, .ref (h 6)), (1, .ref (h 16)), (2, .int v2), (3, .int v3)] → va_P D vwCl (wM h cI cJ S L) H → va_S (xA 22 h) s.heap H locs → kX7_saves_6_b2 L v2 post n2 v3 S → W p l e rX7_saves_6 s m args below meth c H locs 0 0 Q (F0 m 2 ls []) := by
    intro n2
    induction n2 with
    | zero => intro v3 S H locs ls hl hP hS hw; exact absurd hw id
    | succ n2 i2 =>
      intro v3 S H locs ls hl hP hS hw
      unfold kX7_saves_6_b2 at hw
      refine lv_iload_n hx hb dX7_saves_2 rfl (lv_at hl 3 rfl) ?_
      refine lv_aload_n hx hb dX7_saves_3 rfl (lv_at hl 0 rfl) ?_
      refine va_alen (v := (8 : Int32)) hx hb hK hP 6 0 wM_6 rfl rfl dX7_saves_4 ?_
      refine lv_icmp_ge (tgt := 22) hx hb dX7_saves_5 (by decide) (fun hc => ?_) (fun hc => ?_)
      · replace hw := And.left hw hc
        refine lv_iload_n hx hb dX7_saves_22 rfl (lv_at hl 2 rfl) ?_
        refine lv_aload_n hx hb dX7_saves_23 rfl (lv_at hl 0 rfl) ?_
        refine va_alen (v := (8 : Int32)) hx hb hK hP 6 0 wM_6 rfl rfl dX7_saves_24 ?_
        refine lv_iadd hx hb dX7_saves_25 ?_
        exact hret _ _ _ _ _ _ hP hS hw dX7_saves_26
      · replace hw := And.right hw hc
        refine lv_aload_n hx hb dX7_saves_8 rfl (lv_at hl 1 rfl) ?_
        refine lv_iload_n hx hb dX7_saves_9 rfl (lv_at hl 2 rfl) ?_
        refine lv_iload_n hx hb dX7_saves_10 rfl (lv_at hl 3 rfl) ?_
        refine lv_iadd hx hb dX7_saves_11 ?_
        refine lv_aload_n hx hb dX7_saves_12 rfl (lv_at hl 0 rfl) ?_
        refine lv_iload_n hx hb dX7_saves_13 rfl (lv_at hl 3 rfl) ?_
        obtain ⟨hi, hw⟩ := hw
        refine va_iald hx hb hK hP 6 0 wM_6 rfl hi dX7_saves_14 ?_
        obtain ⟨hi, hw⟩ := hw
        refine x_iast (ws2 := wM h cI cJ (xu S 16 (v2 + v3).toNatClampNeg (S 6 v3.toNatClampNeg)) L) hx hb hK hP (hD _ _) hS 16 0 wM_16 rfl hi dX7_saves_15 (wM_u16 _ _) (fun H locs hP hS => ?_)
        refine lv_iinc (v := v3 + (1 : Int32)) (lv' := [(3, .int (v3 + (1 : Int32))), (0, .ref (h 6)), (1, .ref (h 16)), (2, .int v2)]) hx hb dX7_saves_16 hl (k := 3) rfl rfl (by decide) rfl (fun ls hl => ?_)
        refine lv_goto (tgt := 2) hx hb dX7_saves_19 (by decide) ?_
        exact i2 (v3 + (1 : Int32)) (xu S 16 (v2 + v3).toNatClampNeg (S 6 v3.toNatClampNeg)) _ _ _ (lv_sub hl [1, 2, 3, 0] rfl) hP hS hw
  unfold kX7_saves_6 at hw
  refine lv_iconst (v := (0 : Int32)) hx hb dX7_saves_0 (by decide) ?_
  refine lv_istore_n (lv' := [(3, .int (0 : Int32)), (0, .ref (h 6)), (1, .ref (h 16)), (2, .int v2)]) hx hb dX7_saves_1 rfl hl (by decide) rfl (fun ls hl => ?_)
  obtain ⟨n2, hw⟩ := hw
  exact b2  n2 (0 : Int32) S _ _ _ (lv_sub hl [1, 2, 3, 0] rfl) hP hS hw
abbrev rX7_saves_7 : Room := { frames := 0, cells := 0, slots := 0, locals := 0 }
set_option maxHeartbeats 4000000 in
set_option maxRecDepth 100000 in
theorem mX7_saves_7 (l : Launch) (D : va_G) (h : Nat → Nat) (cI cJ : ClassId) (hh : xdis 22 h) (S : SX) (L : LX) (v2 : Int32) (post : Int32 → SX → Prop) (hw : kX7_saves_7 S L v2 post) : Met l yX7_saves wsX7_saves rX7_saves_7 (xPre D (wM h cI cJ) (mE D cI cJ) S L [.ref (h 7), .ref (h 16), .int v2]) (va_Qi (fun (r : Int32) (u : SX × LX) => post r u.1 ∧ u.2 = L) (xB D (wM h cI cJ)) (xA 22 h)) 0 0 (xA 22 h) := by
  refine Met.ofW (cc := cX7_saves) (maxL := 4) (ret := (some .int)) (by decide) rfl ?_
  intro p e s m args below meth c s₁ B hml hv
  obtain ⟨hargs, hP, hE⟩ := hv
  have hx := B.exec
  have hb := B.bytes
  have hr := B.returns
  have hlocks := B.notSynchronized
  have hts := atoms_spec (ws := wsX7_saves) B.pre
  have hown : s.vm.findClass RX7 = some m.cls := findClass_of_methodNamed B.named
  have hS : va_S (xA 22 h) s.heap s.heap [] := va_S.rf
  have hD : ∀ (S : SX) (L : LX), va_D (xA 22 h) (wM h cI cJ S L) := fun S L => wM_D hh cI cJ S L
  have hK := id hE
  have hst : xSt (xA 22 h) (mE D cI cJ) := mE_st D _ cI cJ
  skip
  have hl := lv_entry ([.ref (h 7), .ref (h 16), .int v2]) (n := 4) (Nat.le_of_ble_eq_true rfl)
  have hen : entryFrame m args 4 = F0 m 0 ((lg_sl ([.ref (h 7), .ref (h 16), .int v2]) ++ List.replicate (4 - (lg_sl ([.ref (h 7), .ref (h 16), .int v2])).length) Slot.unset).toArray) [] := by rw [hargs]; exact lg_entry_eq m _ _
  rw [hen]
  generalize (lg_sl ([.ref (h 7), .ref (h 16), .int v2]) ++ List.replicate (4 - (lg_sl ([.ref (h 7), .ref (h 16), .int v2])).length) Slot.unset).toArray = ls at hl ⊢
  have hl : lv_has ls 4 [(0, .ref (h 7)), (1, .ref (h 16)), (2, .int v2)] := hl
  change W p l e rX7_saves_7 s m args below meth c s.heap [] 0 0 (MQ below (va_Qi (fun (r : Int32) (u : SX × LX) => post r u.1 ∧ u.2 = L) (xB D (wM h cI cJ)) (xA 22 h)) args s 0 0 (xA 22 h)) (F0 m 0 ls [])
  have hret : ∀ (r : Int32) (S1 : SX) (H : Heap) (locs : List Loc) (ls : Array Slot) (pc : Nat), va_P D vwCl (wM h cI cJ S1 L) H → va_S (xA 22 h) s.heap H locs → post r S1 → decode cX7_saves pc = .ok (.ireturn, 1) → W p l e rX7_saves_7 s m args below meth c H locs 0 0 (MQ below (va_Qi (fun (r : Int32) (u : SX × LX) => post r u.1 ∧ u.2 = L) (xB D (wM h cI cJ)) (xA 22 h)) args s 0 0 (xA 22 h)) (F0 m pc ls [.int r]) := fun r S1 H locs ls pc hP hS hw hd => W.iret hx hb hr (fun t ht hW => ⟨⟨r, (S1, L), rfl, ⟨hw, rfl⟩, show va_P D vwCl (wM h cI cJ S1 L) t.heap by rw [ht]; exact hP⟩, hS.F ht⟩) hS.2.2 hd
  generalize MQ below (va_Qi (fun (r : Int32) (u : SX × LX) => post r u.1 ∧ u.2 = L) (xB D (wM h cI cJ)) (xA 22 h)) args s 0 0 (xA 22 h) = Q at hret ⊢
  have b2 : ∀  (n2 : Nat) (v3 : Int32) (S : SX) (H : Heap) (locs : List Loc) (ls : Array Slot), lv_has ls 4 [(0, .ref (h 7)), (1, .ref (h 16)), (2, .int v2), (3, .int v3)] → va_P D vwCl (wM h cI cJ S L) H → va_S (xA 22 h) s.heap H locs → kX7_saves_7_b2 L v2 post n2 v3 S → W p l e rX7_saves_7 s m args below meth c H locs 0 0 Q (F0 m 2 ls []) := by
    intro n2
    induction n2 with
    | zero => intro v3 S H locs ls hl hP hS hw; exact absurd hw id
    | succ n2 i2 =>
      intro v3 S H locs ls hl hP hS hw
      unfold kX7_saves_7_b2 at hw
      refine lv_iload_n hx hb dX7_saves_2 rfl (lv_at hl 3 rfl) ?_
      refine lv_aload_n hx hb dX7_saves_3 rfl (lv_at hl 0 rfl) ?_
      refine va_alen (v := (8 : Int32)) hx hb hK hP 7 0 wM_7 rfl rfl dX7_saves_4 ?_
      refine lv_icmp_ge (tgt := 22) hx hb dX7_saves_5 (by decide) (fun hc => ?_) (fun hc => ?_)
      · replace hw := And.left hw hc
        refine lv_iload_n hx hb dX7_saves_22 rfl (lv_at hl 2 rfl) ?_
        refine lv_aload_n hx hb dX7_saves_23 rfl (lv_at hl 0 rfl) ?_
        refine va_alen (v := (8 : Int32)) hx hb hK hP 7 0 wM_7 rfl rfl dX7_saves_24 ?_
        refine lv_iadd hx hb dX7_saves_25 ?_
        exact hret _ _ _ _ _ _ hP hS hw dX7_saves_26
      · replace hw := And.right hw hc
        refine lv_aload_n hx hb dX7_saves_8 rfl (lv_at hl 1 rfl) ?_
        refine lv_iload_n hx hb dX7_saves_9 rfl (lv_at hl 2 rfl) ?_
        refine lv_iload_n hx hb dX7_saves_10 rfl (lv_at hl 3 rfl) ?_
        refine lv_iadd hx hb dX7_saves_11 ?_
        refine lv_aload_n hx hb dX7_saves_12 rfl (lv_at hl 0 rfl) ?_
        refine lv_iload_n hx hb dX7_saves_13 rfl (lv_at hl 3 rfl) ?_
        obtain ⟨hi, hw⟩ := hw
        refine va_iald hx hb hK hP 7 0 wM_7 rfl hi dX7_saves_14 ?_
        obtain ⟨hi, hw⟩ := hw
        refine x_iast (ws2 := wM h cI cJ (xu S 16 (v2 + v3).toNatClampNeg (S 7 v3.toNatClampNeg)) L) hx hb hK hP (hD _ _) hS 16 0 wM_16 rfl hi dX7_saves_15 (wM_u16 _ _) (fun H locs hP hS => ?_)
        refine lv_iinc (v := v3 + (1 : Int32)) (lv' := [(3, .int (v3 + (1 : Int32))), (0, .ref (h 7)), (1, .ref (h 16)), (2, .int v2)]) hx hb dX7_saves_16 hl (k := 3) rfl rfl (by decide) rfl (fun ls hl => ?_)
        refine lv_goto (tgt := 2) hx hb dX7_saves_19 (by decide) ?_
        exact i2 (v3 + (1 : Int32)) (xu S 16 (v2 + v3).toNatClampNeg (S 7 v3.toNatClampNeg)) _ _ _ (lv_sub hl [1, 2, 3, 0] rfl) hP hS hw
  unfold kX7_saves_7 at hw
  refine lv_iconst (v := (0 : Int32)) hx hb dX7_saves_0 (by decide) ?_
  refine lv_istore_n (lv' := [(3, .int (0 : Int32)), (0, .ref (h 7)), (1, .ref (h 16)), (2, .int v2)]) hx hb dX7_saves_1 rfl hl (by decide) rfl (fun ls hl => ?_)
  obtain ⟨n2, hw⟩ := hw
  exact b2  n2 (0 : Int32) S _ _ _ (lv_sub hl [1, 2, 3, 0] rfl) hP hS hw
abbrev rX7_saves_8 : Room := { frames := 0, cells := 0, slots := 0, locals := 0 }
set_option maxHeartbeats 4000000 in
set_option maxRecDepth 100000 in
theorem mX7_saves_8 (l : Launch) (D : va_G) (h : Nat → Nat) (cI cJ : ClassId) (hh : xdis 22 h) (S : SX) (L : LX) (v2 : Int32) (post : Int32 → SX → Prop) (hw : kX7_saves_8 S L v2 post) : Met l yX7_saves wsX7_saves rX7_saves_8 (xPre D (wM h cI cJ) (mE D cI cJ) S L [.ref (h 8), .ref (h 16), .int v2]) (va_Qi (fun (r : Int32) (u : SX × LX) => post r u.1 ∧ u.2 = L) (xB D (wM h cI cJ)) (xA 22 h)) 0 0 (xA 22 h) := by
  refine Met.ofW (cc := cX7_saves) (maxL := 4) (ret := (some .int)) (by decide) rfl ?_
  intro p e s m args below meth c s₁ B hml hv
  obtain ⟨hargs, hP, hE⟩ := hv
  have hx := B.exec
  have hb := B.bytes
  have hr := B.returns
  have hlocks := B.notSynchronized
  have hts := atoms_spec (ws := wsX7_saves) B.pre
  have hown : s.vm.findClass RX7 = some m.cls := findClass_of_methodNamed B.named
  have hS : va_S (xA 22 h) s.heap s.heap [] := va_S.rf
  have hD : ∀ (S : SX) (L : LX), va_D (xA 22 h) (wM h cI cJ S L) := fun S L => wM_D hh cI cJ S L
  have hK := id hE
  have hst : xSt (xA 22 h) (mE D cI cJ) := mE_st D _ cI cJ
  skip
  have hl := lv_entry ([.ref (h 8), .ref (h 16), .int v2]) (n := 4) (Nat.le_of_ble_eq_true rfl)
  have hen : entryFrame m args 4 = F0 m 0 ((lg_sl ([.ref (h 8), .ref (h 16), .int v2]) ++ List.replicate (4 - (lg_sl ([.ref (h 8), .ref (h 16), .int v2])).length) Slot.unset).toArray) [] := by rw [hargs]; exact lg_entry_eq m _ _
  rw [hen]
  generalize (lg_sl ([.ref (h 8), .ref (h 16), .int v2]) ++ List.replicate (4 - (lg_sl ([.ref (h 8), .ref (h 16), .int v2])).length) Slot.unset).toArray = ls at hl ⊢
  have hl : lv_has ls 4 [(0, .ref (h 8)), (1, .ref (h 16)), (2, .int v2)] := hl
  change W p l e rX7_saves_8 s m args below meth c s.heap [] 0 0 (MQ below (va_Qi (fun (r : Int32) (u : SX × LX) => post r u.1 ∧ u.2 = L) (xB D (wM h cI cJ)) (xA 22 h)) args s 0 0 (xA 22 h)) (F0 m 0 ls [])
  have hret : ∀ (r : Int32) (S1 : SX) (H : Heap) (locs : List Loc) (ls : Array Slot) (pc : Nat), va_P D vwCl (wM h cI cJ S1 L) H → va_S (xA 22 h) s.heap H locs → post r S1 → decode cX7_saves pc = .ok (.ireturn, 1) → W p l e rX7_saves_8 s m args below meth c H locs 0 0 (MQ below (va_Qi (fun (r : Int32) (u : SX × LX) => post r u.1 ∧ u.2 = L) (xB D (wM h cI cJ)) (xA 22 h)) args s 0 0 (xA 22 h)) (F0 m pc ls [.int r]) := fun r S1 H locs ls pc hP hS hw hd => W.iret hx hb hr (fun t ht hW => ⟨⟨r, (S1, L), rfl, ⟨hw, rfl⟩, show va_P D vwCl (wM h cI cJ S1 L) t.heap by rw [ht]; exact hP⟩, hS.F ht⟩) hS.2.2 hd
  generalize MQ below (va_Qi (fun (r : Int32) (u : SX × LX) => post r u.1 ∧ u.2 = L) (xB D (wM h cI cJ)) (xA 22 h)) args s 0 0 (xA 22 h) = Q at hret ⊢
  have b2 : ∀  (n2 : Nat) (v3 : Int32) (S : SX) (H : Heap) (locs : List Loc) (ls : Array Slot), lv_has ls 4 [(0, .ref (h 8)), (1, .ref (h 16)), (2, .int v2), (3, .int v3)] → va_P D vwCl (wM h cI cJ S L) H → va_S (xA 22 h) s.heap H locs → kX7_saves_8_b2 L v2 post n2 v3 S → W p l e rX7_saves_8 s m args below meth c H locs 0 0 Q (F0 m 2 ls []) := by
    intro n2
    induction n2 with
    | zero => intro v3 S H locs ls hl hP hS hw; exact absurd hw id
    | succ n2 i2 =>
      intro v3 S H locs ls hl hP hS hw
      unfold kX7_saves_8_b2 at hw
      refine lv_iload_n hx hb dX7_saves_2 rfl (lv_at hl 3 rfl) ?_
      refine lv_aload_n hx hb dX7_saves_3 rfl (lv_at hl 0 rfl) ?_
      refine va_alen (v := (8 : Int32)) hx hb hK hP 8 0 wM_8 rfl rfl dX7_saves_4 ?_
      refine lv_icmp_ge (tgt := 22) hx hb dX7_saves_5 (by decide) (fun hc => ?_) (fun hc => ?_)
      · replace hw := And.left hw hc
        refine lv_iload_n hx hb dX7_saves_22 rfl (lv_at hl 2 rfl) ?_
        refine lv_aload_n hx hb dX7_saves_23 rfl (lv_at hl 0 rfl) ?_
        refine va_alen (v := (8 : Int32)) hx hb hK hP 8 0 wM_8 rfl rfl dX7_saves_24 ?_
        refine lv_iadd hx hb dX7_saves_25 ?_
        exact hret _ _ _ _ _ _ hP hS hw dX7_saves_26
      · replace hw := And.right hw hc
        refine lv_aload_n hx hb dX7_saves_8 rfl (lv_at hl 1 rfl) ?_
        refine lv_iload_n hx hb dX7_saves_9 rfl (lv_at hl 2 rfl) ?_
        refine lv_iload_n hx hb dX7_saves_10 rfl (lv_at hl 3 rfl) ?_
        refine lv_iadd hx hb dX7_saves_11 ?_
        refine lv_aload_n hx hb dX7_saves_12 rfl (lv_at hl 0 rfl) ?_
        refine lv_iload_n hx hb dX7_saves_13 rfl (lv_at hl 3 rfl) ?_
        obtain ⟨hi, hw⟩ := hw
        refine va_iald hx hb hK hP 8 0 wM_8 rfl hi dX7_saves_14 ?_
        obtain ⟨hi, hw⟩ := hw
        refine x_iast (ws2 := wM h cI cJ (xu S 16 (v2 + v3).toNatClampNeg (S 8 v3.toNatClampNeg)) L) hx hb hK hP (hD _ _) hS 16 0 wM_16 rfl hi dX7_saves_15 (wM_u16 _ _) (fun H locs hP hS => ?_)
        refine lv_iinc (v := v3 + (1 : Int32)) (lv' := [(3, .int (v3 + (1 : Int32))), (0, .ref (h 8)), (1, .ref (h 16)), (2, .int v2)]) hx hb dX7_saves_16 hl (k := 3) rfl rfl (by decide) rfl (fun ls hl => ?_)
        refine lv_goto (tgt := 2) hx hb dX7_saves_19 (by decide) ?_
        exact i2 (v3 + (1 : Int32)) (xu S 16 (v2 + v3).toNatClampNeg (S 8 v3.toNatClampNeg)) _ _ _ (lv_sub hl [1, 2, 3, 0] rfl) hP hS hw
  unfold kX7_saves_8 at hw
  refine lv_iconst (v := (0 : Int32)) hx hb dX7_saves_0 (by decide) ?_
  refine lv_istore_n (lv' := [(3, .int (0 : Int32)), (0, .ref (h 8)), (1, .ref (h 16)), (2, .int v2)]) hx hb dX7_saves_1 rfl hl (by decide) rfl (fun ls hl => ?_)
  obtain ⟨n2, hw⟩ := hw
  exact b2  n2 (0 : Int32) S _ _ _ (lv_sub hl [1, 2, 3, 0] rfl) hP hS hw
abbrev rX7_saves_9 : Room := { frames := 0, cells := 0, slots := 0, locals := 0 }
set_option maxHeartbeats 4000000 in
set_option maxRecDepth 100000 in
theorem mX7_saves_9 (l : Launch) (D : va_G) (h : Nat → Nat) (cI cJ : ClassId) (hh : xdis 22 h) (S : SX) (L : LX) (v2 : Int32) (post : Int32 → SX → Prop) (hw : kX7_saves_9 S L v2 post) : Met l yX7_saves wsX7_saves rX7_saves_9 (xPre D (wM h cI cJ) (mE D cI cJ) S L [.ref (h 9), .ref (h 16), .int v2]) (va_Qi (fun (r : Int32) (u : SX × LX) => post r u.1 ∧ u.2 = L) (xB D (wM h cI cJ)) (xA 22 h)) 0 0 (xA 22 h) := by
  refine Met.ofW (cc := cX7_saves) (maxL := 4) (ret := (some .int)) (by decide) rfl ?_
  intro p e s m args below meth c s₁ B hml hv
  obtain ⟨hargs, hP, hE⟩ := hv
  have hx := B.exec
  have hb := B.bytes
  have hr := B.returns
  have hlocks := B.notSynchronized
  have hts := atoms_spec (ws := wsX7_saves) B.pre
  have hown : s.vm.findClass RX7 = some m.cls := findClass_of_methodNamed B.named
  have hS : va_S (xA 22 h) s.heap s.heap [] := va_S.rf
  have hD : ∀ (S : SX) (L : LX), va_D (xA 22 h) (wM h cI cJ S L) := fun S L => wM_D hh cI cJ S L
  have hK := id hE
  have hst : xSt (xA 22 h) (mE D cI cJ) := mE_st D _ cI cJ
  skip
  have hl := lv_entry ([.ref (h 9), .ref (h 16), .int v2]) (n := 4) (Nat.le_of_ble_eq_true rfl)
  have hen : entryFrame m args 4 = F0 m 0 ((lg_sl ([.ref (h 9), .ref (h 16), .int v2]) ++ List.replicate (4 - (lg_sl ([.ref (h 9), .ref (h 16), .int v2])).length) Slot.unset).toArray) [] := by rw [hargs]; exact lg_entry_eq m _ _
  rw [hen]
  generalize (lg_sl ([.ref (h 9), .ref (h 16), .int v2]) ++ List.replicate (4 - (lg_sl ([.ref (h 9), .ref (h 16), .int v2])).length) Slot.unset).toArray = ls at hl ⊢
  have hl : lv_has ls 4 [(0, .ref (h 9)), (1, .ref (h 16)), (2, .int v2)] := hl
  change W p l e rX7_saves_9 s m args below meth c s.heap [] 0 0 (MQ below (va_Qi (fun (r : Int32) (u : SX × LX) => post r u.1 ∧ u.2 = L) (xB D (wM h cI cJ)) (xA 22 h)) args s 0 0 (xA 22 h)) (F0 m 0 ls [])
  have hret : ∀ (r : Int32) (S1 : SX) (H : Heap) (locs : List Loc) (ls : Array Slot) (pc : Nat), va_P D vwCl (wM h cI cJ S1 L) H → va_S (xA 22 h) s.heap H locs → post r S1 → decode cX7_saves pc = .ok (.ireturn, 1) → W p l e rX7_saves_9 s m args below meth c H locs 0 0 (MQ below (va_Qi (fun (r : Int32) (u : SX × LX) => post r u.1 ∧ u.2 = L) (xB D (wM h cI cJ)) (xA 22 h)) args s 0 0 (xA 22 h)) (F0 m pc ls [.int r]) := fun r S1 H locs ls pc hP hS hw hd => W.iret hx hb hr (fun t ht hW => ⟨⟨r, (S1, L), rfl, ⟨hw, rfl⟩, show va_P D vwCl (wM h cI cJ S1 L) t.heap by rw [ht]; exact hP⟩, hS.F ht⟩) hS.2.2 hd
  generalize MQ below (va_Qi (fun (r : Int32) (u : SX × LX) => post r u.1 ∧ u.2 = L) (xB D (wM h cI cJ)) (xA 22 h)) args s 0 0 (xA 22 h) = Q at hret ⊢
  have b2 : ∀  (n2 : Nat) (v3 : Int32) (S : SX) (H : Heap) (locs : List Loc) (ls : Array Slot), lv_has ls 4 [(0, .ref (h 9)), (1, .ref (h 16)), (2, .int v2), (3, .int v3)] → va_P D vwCl (wM h cI cJ S L) H → va_S (xA 22 h) s.heap H locs → kX7_saves_9_b2 L v2 post n2 v3 S → W p l e rX7_saves_9 s m args below meth c H locs 0 0 Q (F0 m 2 ls []) := by
    intro n2
    induction n2 with
    | zero => intro v3 S H locs ls hl hP hS hw; exact absurd hw id
    | succ n2 i2 =>
      intro v3 S H locs ls hl hP hS hw
      unfold kX7_saves_9_b2 at hw
      refine lv_iload_n hx hb dX7_saves_2 rfl (lv_at hl 3 rfl) ?_
      refine lv_aload_n hx hb dX7_saves_3 rfl (lv_at hl 0 rfl) ?_
      refine va_alen (v := (8 : Int32)) hx hb hK hP 9 0 wM_9 rfl rfl dX7_saves_4 ?_
      refine lv_icmp_ge (tgt := 22) hx hb dX7_saves_5 (by decide) (fun hc => ?_) (fun hc => ?_)
      · replace hw := And.left hw hc
        refine lv_iload_n hx hb dX7_saves_22 rfl (lv_at hl 2 rfl) ?_
        refine lv_aload_n hx hb dX7_saves_23 rfl (lv_at hl 0 rfl) ?_
        refine va_alen (v := (8 : Int32)) hx hb hK hP 9 0 wM_9 rfl rfl dX7_saves_24 ?_
        refine lv_iadd hx hb dX7_saves_25 ?_
        exact hret _ _ _ _ _ _ hP hS hw dX7_saves_26
      · replace hw := And.right hw hc
        refine lv_aload_n hx hb dX7_saves_8 rfl (lv_at hl 1 rfl) ?_
        refine lv_iload_n hx hb dX7_saves_9 rfl (lv_at hl 2 rfl) ?_
        refine lv_iload_n hx hb dX7_saves_10 rfl (lv_at hl 3 rfl) ?_
        refine lv_iadd hx hb dX7_saves_11 ?_
        refine lv_aload_n hx hb dX7_saves_12 rfl (lv_at hl 0 rfl) ?_
        refine lv_iload_n hx hb dX7_saves_13 rfl (lv_at hl 3 rfl) ?_
        obtain ⟨hi, hw⟩ := hw
        refine va_iald hx hb hK hP 9 0 wM_9 rfl hi dX7_saves_14 ?_
        obtain ⟨hi, hw⟩ := hw
        refine x_iast (ws2 := wM h cI cJ (xu S 16 (v2 + v3).toNatClampNeg (S 9 v3.toNatClampNeg)) L) hx hb hK hP (hD _ _) hS 16 0 wM_16 rfl hi dX7_saves_15 (wM_u16 _ _) (fun H locs hP hS => ?_)
        refine lv_iinc (v := v3 + (1 : Int32)) (lv' := [(3, .int (v3 + (1 : Int32))), (0, .ref (h 9)), (1, .ref (h 16)), (2, .int v2)]) hx hb dX7_saves_16 hl (k := 3) rfl rfl (by decide) rfl (fun ls hl => ?_)
        refine lv_goto (tgt := 2) hx hb dX7_saves_19 (by decide) ?_
        exact i2 (v3 + (1 : Int32)) (xu S 16 (v2 + v3).toNatClampNeg (S 9 v3.toNatClampNeg)) _ _ _ (lv_sub hl [1, 2, 3, 0] rfl) hP hS hw
  unfold kX7_saves_9 at hw
  refine lv_iconst (v := (0 : Int32)) hx hb dX7_saves_0 (by decide) ?_
  refine lv_istore_n (lv' := [(3, .int (0 : Int32)), (0, .ref (h 9)), (1, .ref (h 16)), (2, .int v2)]) hx hb dX7_saves_1 rfl hl (by decide) rfl (fun ls hl => ?_)
  obtain ⟨n2, hw⟩ := hw
  exact b2  n2 (0 : Int32) S _ _ _ (lv_sub hl [1, 2, 3, 0] rfl) hP hS hw
abbrev rX7_saves_10 : Room := { frames := 0, cells := 0, slots := 0, locals := 0 }
set_option maxHeartbeats 4000000 in
set_option maxRecDepth 100000 in
theorem mX7_saves_10 (l : Launch) (D : va_G) (h : Nat → Nat) (cI cJ : ClassId) (hh : xdis 22 h) (S : SX) (L : LX) (v2 : Int32) (post : Int32 → SX → Prop) (hw : kX7_saves_10 S L v2 post) : Met l yX7_saves wsX7_saves rX7_saves_10 (xPre D (wM h cI cJ) (mE D cI cJ) S L [.ref (h 10), .ref (h 16), .int v2]) (va_Qi (fun (r : Int32) (u : SX × LX) => post r u.1 ∧ u.2 = L) (xB D (wM h cI cJ)) (xA 22 h)) 0 0 (xA 22 h) := by
  refine Met.ofW (cc := cX7_saves) (maxL := 4) (ret := (some .int)) (by decide) rfl ?_
  intro p e s m args below meth c s₁ B hml hv
  obtain ⟨hargs, hP, hE⟩ := hv
  have hx := B.exec
  have hb := B.bytes
  have hr := B.returns
  have hlocks := B.notSynchronized
  have hts := atoms_spec (ws := wsX7_saves) B.pre
  have hown : s.vm.findClass RX7 = some m.cls := findClass_of_methodNamed B.named
  have hS : va_S (xA 22 h) s.heap s.heap [] := va_S.rf
  have hD : ∀ (S : SX) (L : LX), va_D (xA 22 h) (wM h cI cJ S L) := fun S L => wM_D hh cI cJ S L
  have hK := id hE
  have hst : xSt (xA 22 h) (mE D cI cJ) := mE_st D _ cI cJ
  skip
  have hl := lv_entry ([.ref (h 10), .ref (h 16), .int v2]) (n := 4) (Nat.le_of_ble_eq_true rfl)
  have hen : entryFrame m args 4 = F0 m 0 ((lg_sl ([.ref (h 10), .ref (h 16), .int v2]) ++ List.replicate (4 - (lg_sl ([.ref (h 10), .ref (h 16), .int v2])).length) Slot.unset).toArray) [] := by rw [hargs]; exact lg_entry_eq m _ _
  rw [hen]
  generalize (lg_sl ([.ref (h 10), .ref (h 16), .int v2]) ++ List.replicate (4 - (lg_sl ([.ref (h 10), .ref (h 16), .int v2])).length) Slot.unset).toArray = ls at hl ⊢
  have hl : lv_has ls 4 [(0, .ref (h 10)), (1, .ref (h 16)), (2, .int v2)] := hl
  change W p l e rX7_saves_10 s m args below meth c s.heap [] 0 0 (MQ below (va_Qi (fun (r : Int32) (u : SX × LX) => post r u.1 ∧ u.2 = L) (xB D (wM h cI cJ)) (xA 22 h)) args s 0 0 (xA 22 h)) (F0 m 0 ls [])
  have hret : ∀ (r : Int32) (S1 : SX) (H : Heap) (locs : List Loc) (ls : Array Slot) (pc : Nat), va_P D vwCl (wM h cI cJ S1 L) H → va_S (xA 22 h) s.heap H locs → post r S1 → decode cX7_saves pc = .ok (.ireturn, 1) → W p l e rX7_saves_10 s m args below meth c H locs 0 0 (MQ below (va_Qi (fun (r : Int32) (u : SX × LX) => post r u.1 ∧ u.2 = L) (xB D (wM h cI cJ)) (xA 22 h)) args s 0 0 (xA 22 h)) (F0 m pc ls [.int r]) := fun r S1 H locs ls pc hP hS hw hd => W.iret hx hb hr (fun t ht hW => ⟨⟨r, (S1, L), rfl, ⟨hw, rfl⟩, show va_P D vwCl (wM h cI cJ S1 L) t.heap by rw [ht]; exact hP⟩, hS.F ht⟩) hS.2.2 hd
  generalize MQ below (va_Qi (fun (r : Int32) (u : SX × LX) => post r u.1 ∧ u.2 = L) (xB D (wM h cI cJ)) (xA 22 h)) args s 0 0 (xA 22 h) = Q at hret ⊢
  have b2 : ∀  (n2 : Nat) (v3 : Int32) (S : SX) (H : Heap) (locs : List Loc) (ls : Array Slot), lv_has ls 4 [(0, .ref (h 10)), (1, .ref (h 16)), (2, .int v2), (3, .int v3)] → va_P D vwCl (wM h cI cJ S L) H → va_S (xA 22 h) s.heap H locs → kX7_saves_10_b2 L v2 post n2 v3 S → W p l e rX7_saves_10 s m args below meth c H locs 0 0 Q (F0 m 2 ls []) := by
    intro n2
    induction n2 with
    | zero => intro v3 S H locs ls hl hP hS hw; exact absurd hw id
    | succ n2 i2 =>
      intro v3 S H locs ls hl hP hS hw
      unfold kX7_saves_10_b2 at hw
      refine lv_iload_n hx hb dX7_saves_2 rfl (lv_at hl 3 rfl) ?_
      refine lv_aload_n hx hb dX7_saves_3 rfl (lv_at hl 0 rfl) ?_
      refine va_alen (v := (8 : Int32)) hx hb hK hP 10 0 wM_10 rfl rfl dX7_saves_4 ?_
      refine lv_icmp_ge (tgt := 22) hx hb dX7_saves_5 (by decide) (fun hc => ?_) (fun hc => ?_)
      · replace hw := And.left hw hc
        refine lv_iload_n hx hb dX7_saves_22 rfl (lv_at hl 2 rfl) ?_
        refine lv_aload_n hx hb dX7_saves_23 rfl (lv_at hl 0 rfl) ?_
        refine va_alen (v := (8 : Int32)) hx hb hK hP 10 0 wM_10 rfl rfl dX7_saves_24 ?_
        refine lv_iadd hx hb dX7_saves_25 ?_
        exact hret _ _ _ _ _ _ hP hS hw dX7_saves_26
      · replace hw := And.right hw hc
        refine lv_aload_n hx hb dX7_saves_8 rfl (lv_at hl 1 rfl) ?_
        refine lv_iload_n hx hb dX7_saves_9 rfl (lv_at hl 2 rfl) ?_
        refine lv_iload_n hx hb dX7_saves_10 rfl (lv_at hl 3 rfl) ?_
        refine lv_iadd hx hb dX7_saves_11 ?_
        refine lv_aload_n hx hb dX7_saves_12 rfl (lv_at hl 0 rfl) ?_
        refine lv_iload_n hx hb dX7_saves_13 rfl (lv_at hl 3 rfl) ?_
        obtain ⟨hi, hw⟩ := hw
        refine va_iald hx hb hK hP 10 0 wM_10 rfl hi dX7_saves_14 ?_
        obtain ⟨hi, hw⟩ := hw
        refine x_iast (ws2 := wM h cI cJ (xu S 16 (v2 + v3).toNatClampNeg (S 10 v3.toNatClampNeg)) L) hx hb hK hP (hD _ _) hS 16 0 wM_16 rfl hi dX7_saves_15 (wM_u16 _ _) (fun H locs hP hS => ?_)
        refine lv_iinc (v := v3 + (1 : Int32)) (lv' := [(3, .int (v3 + (1 : Int32))), (0, .ref (h 10)), (1, .ref (h 16)), (2, .int v2)]) hx hb dX7_saves_16 hl (k := 3) rfl rfl (by decide) rfl (fun ls hl => ?_)
        refine lv_goto (tgt := 2) hx hb dX7_saves_19 (by decide) ?_
        exact i2 (v3 + (1 : Int32)) (xu S 16 (v2 + v3).toNatClampNeg (S 10 v3.toNatClampNeg)) _ _ _ (lv_sub hl [1, 2, 3, 0] rfl) hP hS hw
  unfold kX7_saves_10 at hw
  refine lv_iconst (v := (0 : Int32)) hx hb dX7_saves_0 (by decide) ?_
  refine lv_istore_n (lv' := [(3, .int (0 : Int32)), (0, .ref (h 10)), (1, .ref (h 16)), (2, .int v2)]) hx hb dX7_saves_1 rfl hl (by decide) rfl (fun ls hl => ?_)
  obtain ⟨n2, hw⟩ := hw
  exact b2  n2 (0 : Int32) S _ _ _ (lv_sub hl [1, 2, 3, 0] rfl) hP hS hw
abbrev rX7_saves_11 : Room := { frames := 0, cells := 0, slots := 0, locals := 0 }
set_option maxHeartbeats 4000000 in
set_option maxRecDepth 100000 in
theorem mX7_saves_11 (l : Launch) (D : va_G) (h : Nat → Nat) (cI cJ : ClassId) (hh : xdis 22 h) (S : SX) (L : LX) (v2 : Int32) (post : Int32 → SX → Prop) (hw : kX7_saves_11 S L v2 post) : Met l yX7_saves wsX7_saves rX7_saves_11 (xPre D (wM h cI cJ) (mE D cI cJ) S L [.ref (h 11), .ref (h 16), .int v2]) (va_Qi (fun (r : Int32) (u : SX × LX) => post r u.1 ∧ u.2 = L) (xB D (wM h cI cJ)) (xA 22 h)) 0 0 (xA 22 h) := by
  refine Met.ofW (cc := cX7_saves) (maxL := 4) (ret := (some .int)) (by decide) rfl ?_
  intro p e s m args below meth c s₁ B hml hv
  obtain ⟨hargs, hP, hE⟩ := hv
  have hx := B.exec
  have hb := B.bytes
  have hr := B.returns
  have hlocks := B.notSynchronized
  have hts := atoms_spec (ws := wsX7_saves) B.pre
  have hown : s.vm.findClass RX7 = some m.cls := findClass_of_methodNamed B.named
  have hS : va_S (xA 22 h) s.heap s.heap [] := va_S.rf
  have hD : ∀ (S : SX) (L : LX), va_D (xA 22 h) (wM h cI cJ S L) := fun S L => wM_D hh cI cJ S L
  have hK := id hE
  have hst : xSt (xA 22 h) (mE D cI cJ) := mE_st D _ cI cJ
  skip
  have hl := lv_entry ([.ref (h 11), .ref (h 16), .int v2]) (n := 4) (Nat.le_of_ble_eq_true rfl)
  have hen : entryFrame m args 4 = F0 m 0 ((lg_sl ([.ref (h 11), .ref (h 16), .int v2]) ++ List.replicate (4 - (lg_sl ([.ref (h 11), .ref (h 16), .int v2])).length) Slot.unset).toArray) [] := by rw [hargs]; exact lg_entry_eq m _ _
  rw [hen]
  generalize (lg_sl ([.ref (h 11), .ref (h 16), .int v2]) ++ List.replicate (4 - (lg_sl ([.ref (h 11), .ref (h 16), .int v2])).length) Slot.unset).toArray = ls at hl ⊢
  have hl : lv_has ls 4 [(0, .ref (h 11)), (1, .ref (h 16)), (2, .int v2)] := hl
  change W p l e rX7_saves_11 s m args below meth c s.heap [] 0 0 (MQ below (va_Qi (fun (r : Int32) (u : SX × LX) => post r u.1 ∧ u.2 = L) (xB D (wM h cI cJ)) (xA 22 h)) args s 0 0 (xA 22 h)) (F0 m 0 ls [])
  have hret : ∀ (r : Int32) (S1 : SX) (H : Heap) (locs : List Loc) (ls : Array Slot) (pc : Nat), va_P D vwCl (wM h cI cJ S1 L) H → va_S (xA 22 h) s.heap H locs → post r S1 → decode cX7_saves pc = .ok (.ireturn, 1) → W p l e rX7_saves_11 s m args below meth c H locs 0 0 (MQ below (va_Qi (fun (r : Int32) (u : SX × LX) => post r u.1 ∧ u.2 = L) (xB D (wM h cI cJ)) (xA 22 h)) args s 0 0 (xA 22 h)) (F0 m pc ls [.int r]) := fun r S1 H locs ls pc hP hS hw hd => W.iret hx hb hr (fun t ht hW => ⟨⟨r, (S1, L), rfl, ⟨hw, rfl⟩, show va_P D vwCl (wM h cI cJ S1 L) t.heap by rw [ht]; exact hP⟩, hS.F ht⟩) hS.2.2 hd
  generalize MQ below (va_Qi (fun (r : Int32) (u : SX × LX) => post r u.1 ∧ u.2 = L) (xB D (wM h cI cJ)) (xA 22 h)) args s 0 0 (xA 22 h) = Q at hret ⊢
  have b2 : ∀  (n2 : Nat) (v3 : Int32) (S : SX) (H : Heap) (locs : List Loc) (ls : Array Slot), lv_has ls 4 [(0, .ref (h 11)), (1, .ref (h 16)), (2, .int v2), (3, .int v3)] → va_P D vwCl (wM h cI cJ S L) H → va_S (xA 22 h) s.heap H locs → kX7_saves_11_b2 L v2 post n2 v3 S → W p l e rX7_saves_11 s m args below meth c H locs 0 0 Q (F0 m 2 ls []) := by
    intro n2
    induction n2 with
    | zero => intro v3 S H locs ls hl hP hS hw; exact absurd hw id
    | succ n2 i2 =>
      intro v3 S H locs ls hl hP hS hw
      unfold kX7_saves_11_b2 at hw
      refine lv_iload_n hx hb dX7_saves_2 rfl (lv_at hl 3 rfl) ?_
      refine lv_aload_n hx hb dX7_saves_3 rfl (lv_at hl 0 rfl) ?_
      refine va_alen (v := (8 : Int32)) hx hb hK hP 11 0 wM_11 rfl rfl dX7_saves_4 ?_
      refine lv_icmp_ge (tgt := 22) hx hb dX7_saves_5 (by decide) (fun hc => ?_) (fun hc => ?_)
      · replace hw := And.left hw hc
        refine lv_iload_n hx hb dX7_saves_22 rfl (lv_at hl 2 rfl) ?_
        refine lv_aload_n hx hb dX7_saves_23 rfl (lv_at hl 0 rfl) ?_
        refine va_alen (v := (8 : Int32)) hx hb hK hP 11 0 wM_11 rfl rfl dX7_saves_24 ?_
        refine lv_iadd hx hb dX7_saves_25 ?_
        exact hret _ _ _ _ _ _ hP hS hw dX7_saves_26
      · replace hw := And.right hw hc
        refine lv_aload_n hx hb dX7_saves_8 rfl (lv_at hl 1 rfl) ?_
        refine lv_iload_n hx hb dX7_saves_9 rfl (lv_at hl 2 rfl) ?_
        refine lv_iload_n hx hb dX7_saves_10 rfl (lv_at hl 3 rfl) ?_
        refine lv_iadd hx hb dX7_saves_11 ?_
        refine lv_aload_n hx hb dX7_saves_12 rfl (lv_at hl 0 rfl) ?_
        refine lv_iload_n hx hb dX7_saves_13 rfl (lv_at hl 3 rfl) ?_
        obtain ⟨hi, hw⟩ := hw
        refine va_iald hx hb hK hP 11 0 wM_11 rfl hi dX7_saves_14 ?_
        obtain ⟨hi, hw⟩ := hw
        refine x_iast (ws2 := wM h cI cJ (xu S 16 (v2 + v3).toNatClampNeg (S 11 v3.toNatClampNeg)) L) hx hb hK hP (hD _ _) hS 16 0 wM_16 rfl hi dX7_saves_15 (wM_u16 _ _) (fun H locs hP hS => ?_)
        refine lv_iinc (v := v3 + (1 : Int32)) (lv' := [(3, .int (v3 + (1 : Int32))), (0, .ref (h 11)), (1, .ref (h 16)), (2, .int v2)]) hx hb dX7_saves_16 hl (k := 3) rfl rfl (by decide) rfl (fun ls hl => ?_)
        refine lv_goto (tgt := 2) hx hb dX7_saves_19 (by decide) ?_
        exact i2 (v3 + (1 : Int32)) (xu S 16 (v2 + v3).toNatClampNeg (S 11 v3.toNatClampNeg)) _ _ _ (lv_sub hl [1, 2, 3, 0] rfl) hP hS hw
  unfold kX7_saves_11 at hw
  refine lv_iconst (v := (0 : Int32)) hx hb dX7_saves_0 (by decide) ?_
  refine lv_istore_n (lv' := [(3, .int (0 : Int32)), (0, .ref (h 11)), (1, .ref (h 16)), (2, .int v2)]) hx hb dX7_saves_1 rfl hl (by decide) rfl (fun ls hl => ?_)
  obtain ⟨n2, hw⟩ := hw
  exact b2  n2 (0 : Int32) S _ _ _ (lv_sub hl [1, 2, 3, 0] rfl) hP hS hw
abbrev rX7_image : Room := { frames := 1, cells := 0, slots := 0, locals := 23 }
set_option maxHeartbeats 4000000 in
set_option maxRecDepth 100000 in
theorem mX7_image (l : Launch) (D : va_G) (h : Nat → Nat) (cI cJ : ClassId) (hh : xdis 22 h) (S : SX) (L : LX) (post : Int32 → SX → LX → Prop) (hw : kX7_image S L  post) : Met l yX7_image wsX7_image rX7_image (xPre D (wM h cI cJ) (mE D cI cJ) S L [.ref (h 0)]) (va_Qi (fun (r : Int32) (u : SX × LX) => post r u.1 u.2) (xB D (wM h cI cJ)) (xA 22 h)) 0 0 (xA 22 h) := by
  refine Met.ofW (cc := cX7_image) (maxL := 3) (ret := (some .int)) (by decide) rfl ?_
  intro p e s m args below meth c s₁ B hml hv
  obtain ⟨hargs, hP, hE⟩ := hv
  have hx := B.exec
  have hb := B.bytes
  have hr := B.returns
  have hlocks := B.notSynchronized
  have hts := atoms_spec (ws := wsX7_image) B.pre
  have hown : s.vm.findClass RX7 = some m.cls := findClass_of_methodNamed B.named
  have hS : va_S (xA 22 h) s.heap s.heap [] := va_S.rf
  have hD : ∀ (S : SX) (L : LX), va_D (xA 22 h) (wM h cI cJ S L) := fun S L => wM_D hh cI cJ S L
  have hK := id hE
  have hst : xSt (xA 22 h) (mE D cI cJ) := mE_st D _ cI cJ
  have f0 := hts (.fieldLink RX7 227 "BookOfWillsModel" "kept" "Z") (by decide +kernel)
  have inX7 : ∀ w ∈ u_ws RX7 TX7 28, w ∈ wsX7_image := fun w hw9 => List.mem_cons_of_mem _ (List.mem_append_right _ hw9)
  have f2 := hts (.fieldLink RX7 64 "BookOfWillsModel" "imageCounts" "[J") (by decide +kernel)
  have f3 := hts (.fieldLink RX7 48 "BookOfWillsModel" "countLeast" "[J") (by decide +kernel)
  have f4 := hts (.fieldLink RX7 52 "BookOfWillsModel" "counted" "[J") (by decide +kernel)
  have f5 := hts (.fieldLink RX7 7 "BookOfWillsModel" "lives" "[I") (by decide +kernel)
  have f6 := hts (.fieldLink RX7 61 "BookOfWillsModel" "image" "[I") (by decide +kernel)
  have f7 := hts (.fieldLink RX7 18 "BookOfWillsModel" "yearOf" "[I") (by decide +kernel)
  have f8 := hts (.fieldLink RX7 21 "BookOfWillsModel" "ageOf" "[I") (by decide +kernel)
  have f9 := hts (.fieldLink RX7 24 "BookOfWillsModel" "sexOf" "[I") (by decide +kernel)
  have f10 := hts (.fieldLink RX7 27 "BookOfWillsModel" "own" "[I") (by decide +kernel)
  have f11 := hts (.fieldLink RX7 30 "BookOfWillsModel" "floors" "[I") (by decide +kernel)
  have f12 := hts (.fieldLink RX7 33 "BookOfWillsModel" "lines" "[I") (by decide +kernel)
  have f13 := hts (.fieldLink RX7 36 "BookOfWillsModel" "keens" "[I") (by decide +kernel)
  have f14 := hts (.fieldLink RX7 39 "BookOfWillsModel" "marks" "[I") (by decide +kernel)
  have f15 := hts (.fieldLink RX7 42 "BookOfWillsModel" "crowd" "[I") (by decide +kernel)
  have f16 := hts (.fieldLink RX7 45 "BookOfWillsModel" "prices" "[I") (by decide +kernel)
  have f17 := hts (.fieldLink RX7 14 "BookOfWillsModel" "riches" "I") (by decide +kernel)
  have f18 := hts (.fieldLink RX7 98 "BookOfWillsModel" "more" "I") (by decide +kernel)
  have f19 := hts (.fieldLink RX7 87 "BookOfWillsModel" "wills" "I") (by decide +kernel)
  have hl := lv_entry ([.ref (h 0)]) (n := 3) (Nat.le_of_ble_eq_true rfl)
  have hen : entryFrame m args 3 = F0 m 0 ((lg_sl ([.ref (h 0)]) ++ List.replicate (3 - (lg_sl ([.ref (h 0)])).length) Slot.unset).toArray) [] := by rw [hargs]; exact lg_entry_eq m _ _
  rw [hen]
  generalize (lg_sl ([.ref (h 0)]) ++ List.replicate (3 - (lg_sl ([.ref (h 0)])).length) Slot.unset).toArray = ls at hl ⊢
  have hl : lv_has ls 3 [(0, .ref (h 0))] := hl
  change W p l e rX7_image s m args below meth c s.heap [] 0 0 (MQ below (va_Qi (fun (r : Int32) (u : SX × LX) => post r u.1 u.2) (xB D (wM h cI cJ)) (xA 22 h)) args s 0 0 (xA 22 h)) (F0 m 0 ls [])
  have hret : ∀ (r : Int32) (S1 : SX) (L1 : LX) (H : Heap) (locs : List Loc) (ls : Array Slot) (pc : Nat), va_P D vwCl (wM h cI cJ S1 L1) H → va_S (xA 22 h) s.heap H locs → post r S1 L1 → decode cX7_image pc = .ok (.ireturn, 1) → W p l e rX7_image s m args below meth c H locs 0 0 (MQ below (va_Qi (fun (r : Int32) (u : SX × LX) => post r u.1 u.2) (xB D (wM h cI cJ)) (xA 22 h)) args s 0 0 (xA 22 h)) (F0 m pc ls [.int r]) := fun r S1 L1 H locs ls pc hP hS hw hd => W.iret hx hb hr (fun t ht hW => ⟨⟨r, (S1, L1), rfl, hw, show va_P D vwCl (wM h cI cJ S1 L1) t.heap by rw [ht]; exact hP⟩, hS.F ht⟩) hS.2.2 hd
  generalize MQ below (va_Qi (fun (r : Int32) (u : SX × LX) => post r u.1 u.2) (xB D (wM h cI cJ)) (xA 22 h)) args s 0 0 (xA 22 h) = Q at hret ⊢
  have b179 : ∀  (n179 : Nat) (v2 : Int32) (S : SX) (L : LX) (H : Heap) (locs : List Loc) (ls : Array Slot), lv_has ls 3 [(0, .ref (h 0)), (2, .int v2)] → va_P D vwCl (wM h cI cJ S L) H → va_S (xA 22 h) s.heap H locs → kX7_image_b179 post n179 v2 S L → W p l e rX7_image s m args below meth c H locs 0 0 Q (F0 m 179 ls []) := by
    intro n179
    induction n179 with
    | zero => intro v2 S L H locs ls hl hP hS hw; exact absurd hw id
    | succ n179 i179 =>
      intro v2 S L H locs ls hl hP hS hw
      unfold kX7_image_b179 at hw
      refine lv_iload_n hx hb dX7_image_179 rfl (lv_at hl 1 rfl) ?_
      refine lv_bipush (v := (8 : Int32)) hx hb dX7_image_180 (by decide) ?_
      refine lv_icmp_ge (tgt := 218) hx hb dX7_image_182 (by decide) (fun hc => ?_) (fun hc => ?_)
      · replace hw := And.left hw hc
        refine lv_aload_n hx hb dX7_image_218 rfl (lv_at hl 0 rfl) ?_
        refine lv_iconst (v := (1 : Int32)) hx hb dX7_image_219 (by decide) ?_
        refine x_put (D := D) (ci := 7) (v := .int (1 : Int32)) (ty := .boolean) (C := RX7) (T := TX7) (N := 28) (ws2 := wM h cI cJ (xu S 0 6 (1 : Int32)) L) hx hb hts inX7 tyX7 tyX7_ok nmX7 hown hK hP (hD _ _) hS 0 wM_0 rfl 23 (by decide) f0 (fun _ h9 => h9) rfl (by decide +kernel) rfl rfl (Nat.le_of_ble_eq_true rfl) dX7_image_220 (wM_p0_6 _) (fun H locs hP hS => ?_)
        refine lv_iconst (v := (1 : Int32)) hx hb dX7_image_223 (by decide) ?_
        exact hret _ _ _ _ _ _ _ hP hS hw dX7_image_224
      · replace hw := And.right hw hc
        refine lv_aload_n hx hb dX7_image_185 rfl (lv_at hl 0 rfl) ?_
        refine va_get (D := D) (ci := 7) (v := .ref (h 17)) (C := RX7) (T := TX7) (N := 28) hx hb hts inX7 hown hK hP 0 wM_0 rfl 22 (by decide) f2 (fun _ h9 => h9) rfl dX7_image_186 ?_
        refine lv_iload_n hx hb dX7_image_189 rfl (lv_at hl 1 rfl) ?_
        refine lv_aload_n hx hb dX7_image_190 rfl (lv_at hl 0 rfl) ?_
        refine va_get (D := D) (ci := 7) (v := .ref (h 12)) (C := RX7) (T := TX7) (N := 28) hx hb hts inX7 hown hK hP 0 wM_0 rfl 14 (by decide) f3 (fun _ h9 => h9) rfl dX7_image_191 ?_
        refine lv_iload_n hx hb dX7_image_194 rfl (lv_at hl 1 rfl) ?_
        obtain ⟨hi, hw⟩ := hw
        refine va_lald hx hb hK hP 12 1 wM_12 rfl hi dX7_image_195 ?_
        obtain ⟨hi, hw⟩ := hw
        refine x_last (ws2 := wM h cI cJ S (xuL L 17 v2.toNatClampNeg (L 12 v2.toNatClampNeg))) hx hb hK hP (hD _ _) hS 17 1 wM_17 rfl hi dX7_image_196 (wM_u17 _ _) (fun H locs hP hS => ?_)
        refine lv_aload_n hx hb dX7_image_197 rfl (lv_at hl 0 rfl) ?_
        refine va_get (D := D) (ci := 7) (v := .ref (h 17)) (C := RX7) (T := TX7) (N := 28) hx hb hts inX7 hown hK hP 0 wM_0 rfl 22 (by decide) f2 (fun _ h9 => h9) rfl dX7_image_198 ?_
        refine lv_bipush (v := (8 : Int32)) hx hb dX7_image_201 (by decide) ?_
        refine lv_iload_n hx hb dX7_image_203 rfl (lv_at hl 1 rfl) ?_
        refine lv_iadd hx hb dX7_image_204 ?_
        refine lv_aload_n hx hb dX7_image_205 rfl (lv_at hl 0 rfl) ?_
        refine va_get (D := D) (ci := 7) (v := .ref (h 13)) (C := RX7) (T := TX7) (N := 28) hx hb hts inX7 hown hK hP 0 wM_0 rfl 15 (by decide) f4 (fun _ h9 => h9) rfl dX7_image_206 ?_
        refine lv_iload_n hx hb dX7_image_209 rfl (lv_at hl 1 rfl) ?_
        obtain ⟨hi, hw⟩ := hw
        refine va_lald hx hb hK hP 13 1 wM_13 rfl hi dX7_image_210 ?_
        obtain ⟨hi, hw⟩ := hw
        refine x_last (ws2 := wM h cI cJ S (xuL (xuL L 17 v2.toNatClampNeg (L 12 v2.toNatClampNeg)) 17 ((8 : Int32) + v2).toNatClampNeg ((xuL L 17 v2.toNatClampNeg (L 12 v2.toNatClampNeg)) 13 v2.toNatClampNeg))) hx hb hK hP (hD _ _) hS 17 1 wM_17 rfl hi dX7_image_211 (wM_u17 _ _) (fun H locs hP hS => ?_)
        refine lv_iinc (v := v2 + (1 : Int32)) (lv' := [(2, .int (v2 + (1 : Int32))), (0, .ref (h 0))]) hx hb dX7_image_212 hl (k := 1) rfl rfl (by decide) rfl (fun ls hl => ?_)
        refine lv_goto (tgt := 179) hx hb dX7_image_215 (by decide) ?_
        exact i179 (v2 + (1 : Int32)) S (xuL (xuL L 17 v2.toNatClampNeg (L 12 v2.toNatClampNeg)) 17 ((8 : Int32) + v2).toNatClampNeg ((xuL L 17 v2.toNatClampNeg (L 12 v2.toNatClampNeg)) 13 v2.toNatClampNeg)) _ _ _ (lv_sub hl [1, 0] rfl) hP hS hw
  unfold kX7_image at hw
  refine lv_aload_n hx hb dX7_image_0 rfl (lv_at hl 0 rfl) ?_
  refine va_get (D := D) (ci := 7) (v := .ref (h 1)) (C := RX7) (T := TX7) (N := 28) hx hb hts inX7 hown hK hP 0 wM_0 rfl 0 (by decide) f5 (fun _ h9 => h9) rfl dX7_image_1 ?_
  refine lv_aload_n hx hb dX7_image_4 rfl (lv_at hl 0 rfl) ?_
  refine va_get (D := D) (ci := 7) (v := .ref (h 16)) (C := RX7) (T := TX7) (N := 28) hx hb hts inX7 hown hK hP 0 wM_0 rfl 21 (by decide) f6 (fun _ h9 => h9) rfl dX7_image_5 ?_
  refine lv_iconst (v := (0 : Int32)) hx hb dX7_image_8 (by decide) ?_
  refine xSi1 (As := [.ref (h 1), .ref (h 16), .int (0 : Int32)]) (rest := []) hst hE hP hS ⟨hx, hb, hml, hown, hts⟩ (mX7_saves_1 l D h cI cJ hh S L (0 : Int32) _ hw) (va_cwS 3 hts gX7_image_X7_saves rfl rfl rfl (by decide +kernel) ⟨Nat.le_of_ble_eq_true rfl, Nat.le_of_ble_eq_true rfl⟩) rfl hl.1 rfl (Nat.le_of_ble_eq_true rfl) dX7_image_9 ⟨Nat.zero_le _, Nat.zero_le _⟩ (fun r9 S9 H locs hw hP hS => ?_)
  refine lv_istore_n (lv' := [(1, .int r9), (0, .ref (h 0))]) hx hb dX7_image_12 rfl hl (by decide) rfl (fun ls hl => ?_)
  refine lv_aload_n hx hb dX7_image_13 rfl (lv_at hl 1 rfl) ?_
  refine va_get (D := D) (ci := 7) (v := .ref (h 2)) (C := RX7) (T := TX7) (N := 28) hx hb hts inX7 hown hK hP 0 wM_0 rfl 4 (by decide) f7 (fun _ h9 => h9) rfl dX7_image_14 ?_
  refine lv_aload_n hx hb dX7_image_17 rfl (lv_at hl 1 rfl) ?_
  refine va_get (D := D) (ci := 7) (v := .ref (h 16)) (C := RX7) (T := TX7) (N := 28) hx hb hts inX7 hown hK hP 0 wM_0 rfl 21 (by decide) f6 (fun _ h9 => h9) rfl dX7_image_18 ?_
  refine lv_iload_n hx hb dX7_image_21 rfl (lv_at hl 0 rfl) ?_
  refine xSi1 (As := [.ref (h 2), .ref (h 16), .int r9]) (rest := []) hst hE hP hS ⟨hx, hb, hml, hown, hts⟩ (mX7_saves_2 l D h cI cJ hh S9 L r9 _ hw) (va_cwS 3 hts gX7_image_X7_saves rfl rfl rfl (by decide +kernel) ⟨Nat.le_of_ble_eq_true rfl, Nat.le_of_ble_eq_true rfl⟩) rfl hl.1 rfl (Nat.le_of_ble_eq_true rfl) dX7_image_22 ⟨Nat.zero_le _, Nat.zero_le _⟩ (fun r22 S22 H locs hw hP hS => ?_)
  refine lv_istore_n (lv' := [(1, .int r22), (0, .ref (h 0))]) hx hb dX7_image_25 rfl hl (by decide) rfl (fun ls hl => ?_)
  refine lv_aload_n hx hb dX7_image_26 rfl (lv_at hl 1 rfl) ?_
  refine va_get (D := D) (ci := 7) (v := .ref (h 3)) (C := RX7) (T := TX7) (N := 28) hx hb hts inX7 hown hK hP 0 wM_0 rfl 5 (by decide) f8 (fun _ h9 => h9) rfl dX7_image_27 ?_
  refine lv_aload_n hx hb dX7_image_30 rfl (lv_at hl 1 rfl) ?_
  refine va_get (D := D) (ci := 7) (v := .ref (h 16)) (C := RX7) (T := TX7) (N := 28) hx hb hts inX7 hown hK hP 0 wM_0 rfl 21 (by decide) f6 (fun _ h9 => h9) rfl dX7_image_31 ?_
  refine lv_iload_n hx hb dX7_image_34 rfl (lv_at hl 0 rfl) ?_
  refine xSi1 (As := [.ref (h 3), .ref (h 16), .int r22]) (rest := []) hst hE hP hS ⟨hx, hb, hml, hown, hts⟩ (mX7_saves_3 l D h cI cJ hh S22 L r22 _ hw) (va_cwS 3 hts gX7_image_X7_saves rfl rfl rfl (by decide +kernel) ⟨Nat.le_of_ble_eq_true rfl, Nat.le_of_ble_eq_true rfl⟩) rfl hl.1 rfl (Nat.le_of_ble_eq_true rfl) dX7_image_35 ⟨Nat.zero_le _, Nat.zero_le _⟩ (fun r35 S35 H locs hw hP hS => ?_)
  refine lv_istore_n (lv' := [(1, .int r35), (0, .ref (h 0))]) hx hb dX7_image_38 rfl hl (by decide) rfl (fun ls hl => ?_)
  refine lv_aload_n hx hb dX7_image_39 rfl (lv_at hl 1 rfl) ?_
  refine va_get (D := D) (ci := 7) (v := .ref (h 4)) (C := RX7) (T := TX7) (N := 28) hx hb hts inX7 hown hK hP 0 wM_0 rfl 6 (by decide) f9 (fun _ h9 => h9) rfl dX7_image_40 ?_
  refine lv_aload_n hx hb dX7_image_43 rfl (lv_at hl 1 rfl) ?_
  refine va_get (D := D) (ci := 7) (v := .ref (h 16)) (C := RX7) (T := TX7) (N := 28) hx hb hts inX7 hown hK hP 0 wM_0 rfl 21 (by decide) f6 (fun _ h9 => h9) rfl dX7_image_44 ?_
  refine lv_iload_n hx hb dX7_image_47 rfl (lv_at hl 0 rfl) ?_
  refine xSi1 (As := [.ref (h 4), .ref (h 16), .int r35]) (rest := []) hst hE hP hS ⟨hx, hb, hml, hown, hts⟩ (mX7_saves_4 l D h cI cJ hh S35 L r35 _ hw) (va_cwS 3 hts gX7_image_X7_saves rfl rfl rfl (by decide +kernel) ⟨Nat.le_of_ble_eq_true rfl, Nat.le_of_ble_eq_true rfl⟩) rfl hl.1 rfl (Nat.le_of_ble_eq_true rfl) dX7_image_48 ⟨Nat.zero_le _, Nat.zero_le _⟩ (fun r48 S48 H locs hw hP hS => ?_)
  refine lv_istore_n (lv' := [(1, .int r48), (0, .ref (h 0))]) hx hb dX7_image_51 rfl hl (by decide) rfl (fun ls hl => ?_)
  refine lv_aload_n hx hb dX7_image_52 rfl (lv_at hl 1 rfl) ?_
  refine va_get (D := D) (ci := 7) (v := .ref (h 5)) (C := RX7) (T := TX7) (N := 28) hx hb hts inX7 hown hK hP 0 wM_0 rfl 7 (by decide) f10 (fun _ h9 => h9) rfl dX7_image_53 ?_
  refine lv_aload_n hx hb dX7_image_56 rfl (lv_at hl 1 rfl) ?_
  refine va_get (D := D) (ci := 7) (v := .ref (h 16)) (C := RX7) (T := TX7) (N := 28) hx hb hts inX7 hown hK hP 0 wM_0 rfl 21 (by decide) f6 (fun _ h9 => h9) rfl dX7_image_57 ?_
  refine lv_iload_n hx hb dX7_image_60 rfl (lv_at hl 0 rfl) ?_
  refine xSi1 (As := [.ref (h 5), .ref (h 16), .int r48]) (rest := []) hst hE hP hS ⟨hx, hb, hml, hown, hts⟩ (mX7_saves_5 l D h cI cJ hh S48 L r48 _ hw) (va_cwS 3 hts gX7_image_X7_saves rfl rfl rfl (by decide +kernel) ⟨Nat.le_of_ble_eq_true rfl, Nat.le_of_ble_eq_true rfl⟩) rfl hl.1 rfl (Nat.le_of_ble_eq_true rfl) dX7_image_61 ⟨Nat.zero_le _, Nat.zero_le _⟩ (fun r61 S61 H locs hw hP hS => ?_)
  refine lv_istore_n (lv' := [(1, .int r61), (0, .ref (h 0))]) hx hb dX7_image_64 rfl hl (by decide) rfl (fun ls hl => ?_)
  refine lv_aload_n hx hb dX7_image_65 rfl (lv_at hl 1 rfl) ?_
  refine va_get (D := D) (ci := 7) (v := .ref (h 6)) (C := RX7) (T := TX7) (N := 28) hx hb hts inX7 hown hK hP 0 wM_0 rfl 8 (by decide) f11 (fun _ h9 => h9) rfl dX7_image_66 ?_
  refine lv_aload_n hx hb dX7_image_69 rfl (lv_at hl 1 rfl) ?_
  refine va_get (D := D) (ci := 7) (v := .ref (h 16)) (C := RX7) (T := TX7) (N := 28) hx hb hts inX7 hown hK hP 0 wM_0 rfl 21 (by decide) f6 (fun _ h9 => h9) rfl dX7_image_70 ?_
  refine lv_iload_n hx hb dX7_image_73 rfl (lv_at hl 0 rfl) ?_
  refine xSi1 (As := [.ref (h 6), .ref (h 16), .int r61]) (rest := []) hst hE hP hS ⟨hx, hb, hml, hown, hts⟩ (mX7_saves_6 l D h cI cJ hh S61 L r61 _ hw) (va_cwS 3 hts gX7_image_X7_saves rfl rfl rfl (by decide +kernel) ⟨Nat.le_of_ble_eq_true rfl, Nat.le_of_ble_eq_true rfl⟩) rfl hl.1 rfl (Nat.le_of_ble_eq_true rfl) dX7_image_74 ⟨Nat.zero_le _, Nat.zero_le _⟩ (fun r74 S74 H locs hw hP hS => ?_)
  refine lv_istore_n (lv' := [(1, .int r74), (0, .ref (h 0))]) hx hb dX7_image_77 rfl hl (by decide) rfl (fun ls hl => ?_)
  refine lv_aload_n hx hb dX7_image_78 rfl (lv_at hl 1 rfl) ?_
  refine va_get (D := D) (ci := 7) (v := .ref (h 7)) (C := RX7) (T := TX7) (N := 28) hx hb hts inX7 hown hK hP 0 wM_0 rfl 9 (by decide) f12 (fun _ h9 => h9) rfl dX7_image_79 ?_
  refine lv_aload_n hx hb dX7_image_82 rfl (lv_at hl 1 rfl) ?_
  refine va_get (D := D) (ci := 7) (v := .ref (h 16)) (C := RX7) (T := TX7) (N := 28) hx hb hts inX7 hown hK hP 0 wM_0 rfl 21 (by decide) f6 (fun _ h9 => h9) rfl dX7_image_83 ?_
  refine lv_iload_n hx hb dX7_image_86 rfl (lv_at hl 0 rfl) ?_
  refine xSi1 (As := [.ref (h 7), .ref (h 16), .int r74]) (rest := []) hst hE hP hS ⟨hx, hb, hml, hown, hts⟩ (mX7_saves_7 l D h cI cJ hh S74 L r74 _ hw) (va_cwS 3 hts gX7_image_X7_saves rfl rfl rfl (by decide +kernel) ⟨Nat.le_of_ble_eq_true rfl, Nat.le_of_ble_eq_true rfl⟩) rfl hl.1 rfl (Nat.le_of_ble_eq_true rfl) dX7_image_87 ⟨Nat.zero_le _, Nat.zero_le _⟩ (fun r87 S87 H locs hw hP hS => ?_)
  refine lv_istore_n (lv' := [(1, .int r87), (0, .ref (h 0))]) hx hb dX7_image_90 rfl hl (by decide) rfl (fun ls hl => ?_)
  refine lv_aload_n hx hb dX7_image_91 rfl (lv_at hl 1 rfl) ?_
  refine va_get (D := D) (ci := 7) (v := .ref (h 8)) (C := RX7) (T := TX7) (N := 28) hx hb hts inX7 hown hK hP 0 wM_0 rfl 10 (by decide) f13 (fun _ h9 => h9) rfl dX7_image_92 ?_
  refine lv_aload_n hx hb dX7_image_95 rfl (lv_at hl 1 rfl) ?_
  refine va_get (D := D) (ci := 7) (v := .ref (h 16)) (C := RX7) (T := TX7) (N := 28) hx hb hts inX7 hown hK hP 0 wM_0 rfl 21 (by decide) f6 (fun _ h9 => h9) rfl dX7_image_96 ?_
  refine lv_iload_n hx hb dX7_image_99 rfl (lv_at hl 0 rfl) ?_
  refine xSi1 (As := [.ref (h 8), .ref (h 16), .int r87]) (rest := []) hst hE hP hS ⟨hx, hb, hml, hown, hts⟩ (mX7_saves_8 l D h cI cJ hh S87 L r87 _ hw) (va_cwS 3 hts gX7_image_X7_saves rfl rfl rfl (by decide +kernel) ⟨Nat.le_of_ble_eq_true rfl, Nat.le_of_ble_eq_true rfl⟩) rfl hl.1 rfl (Nat.le_of_ble_eq_true rfl) dX7_image_100 ⟨Nat.zero_le _, Nat.zero_le _⟩ (fun r100 S100 H locs hw hP hS => ?_)
  refine lv_istore_n (lv' := [(1, .int r100), (0, .ref (h 0))]) hx hb dX7_image_103 rfl hl (by decide) rfl (fun ls hl => ?_)
  refine lv_aload_n hx hb dX7_image_104 rfl (lv_at hl 1 rfl) ?_
  refine va_get (D := D) (ci := 7) (v := .ref (h 9)) (C := RX7) (T := TX7) (N := 28) hx hb hts inX7 hown hK hP 0 wM_0 rfl 11 (by decide) f14 (fun _ h9 => h9) rfl dX7_image_105 ?_
  refine lv_aload_n hx hb dX7_image_108 rfl (lv_at hl 1 rfl) ?_
  refine va_get (D := D) (ci := 7) (v := .ref (h 16)) (C := RX7) (T := TX7) (N := 28) hx hb hts inX7 hown hK hP 0 wM_0 rfl 21 (by decide) f6 (fun _ h9 => h9) rfl dX7_image_109 ?_
  refine lv_iload_n hx hb dX7_image_112 rfl (lv_at hl 0 rfl) ?_
  refine xSi1 (As := [.ref (h 9), .ref (h 16), .int r100]) (rest := []) hst hE hP hS ⟨hx, hb, hml, hown, hts⟩ (mX7_saves_9 l D h cI cJ hh S100 L r100 _ hw) (va_cwS 3 hts gX7_image_X7_saves rfl rfl rfl (by decide +kernel) ⟨Nat.le_of_ble_eq_true rfl, Nat.le_of_ble_eq_true rfl⟩) rfl hl.1 rfl (Nat.le_of_ble_eq_true rfl) dX7_image_113 ⟨Nat.zero_le _, Nat.zero_le _⟩ (fun r113 S113 H locs hw hP hS => ?_)
  refine lv_istore_n (lv' := [(1, .int r113), (0, .ref (h 0))]) hx hb dX7_image_116 rfl hl (by decide) rfl (fun ls hl => ?_)
  refine lv_aload_n hx hb dX7_image_117 rfl (lv_at hl 1 rfl) ?_
  refine va_get (D := D) (ci := 7) (v := .ref (h 10)) (C := RX7) (T := TX7) (N := 28) hx hb hts inX7 hown hK hP 0 wM_0 rfl 12 (by decide) f15 (fun _ h9 => h9) rfl dX7_image_118 ?_
  refine lv_aload_n hx hb dX7_image_121 rfl (lv_at hl 1 rfl) ?_
  refine va_get (D := D) (ci := 7) (v := .ref (h 16)) (C := RX7) (T := TX7) (N := 28) hx hb hts inX7 hown hK hP 0 wM_0 rfl 21 (by decide) f6 (fun _ h9 => h9) rfl dX7_image_122 ?_
  refine lv_iload_n hx hb dX7_image_125 rfl (lv_at hl 0 rfl) ?_
  refine xSi1 (As := [.ref (h 10), .ref (h 16), .int r113]) (rest := []) hst hE hP hS ⟨hx, hb, hml, hown, hts⟩ (mX7_saves_10 l D h cI cJ hh S113 L r113 _ hw) (va_cwS 3 hts gX7_image_X7_saves rfl rfl rfl (by decide +kernel) ⟨Nat.le_of_ble_eq_true rfl, Nat.le_of_ble_eq_true rfl⟩) rfl hl.1 rfl (Nat.le_of_ble_eq_true rfl) dX7_image_126 ⟨Nat.zero_le _, Nat.zero_le _⟩ (fun r126 S126 H locs hw hP hS => ?_)
  refine lv_istore_n (lv' := [(1, .int r126), (0, .ref (h 0))]) hx hb dX7_image_129 rfl hl (by decide) rfl (fun ls hl => ?_)
  refine lv_aload_n hx hb dX7_image_130 rfl (lv_at hl 1 rfl) ?_
  refine va_get (D := D) (ci := 7) (v := .ref (h 11)) (C := RX7) (T := TX7) (N := 28) hx hb hts inX7 hown hK hP 0 wM_0 rfl 13 (by decide) f16 (fun _ h9 => h9) rfl dX7_image_131 ?_
  refine lv_aload_n hx hb dX7_image_134 rfl (lv_at hl 1 rfl) ?_
  refine va_get (D := D) (ci := 7) (v := .ref (h 16)) (C := RX7) (T := TX7) (N := 28) hx hb hts inX7 hown hK hP 0 wM_0 rfl 21 (by decide) f6 (fun _ h9 => h9) rfl dX7_image_135 ?_
  refine lv_iload_n hx hb dX7_image_138 rfl (lv_at hl 0 rfl) ?_
  refine xSi1 (As := [.ref (h 11), .ref (h 16), .int r126]) (rest := []) hst hE hP hS ⟨hx, hb, hml, hown, hts⟩ (mX7_saves_11 l D h cI cJ hh S126 L r126 _ hw) (va_cwS 3 hts gX7_image_X7_saves rfl rfl rfl (by decide +kernel) ⟨Nat.le_of_ble_eq_true rfl, Nat.le_of_ble_eq_true rfl⟩) rfl hl.1 rfl (Nat.le_of_ble_eq_true rfl) dX7_image_139 ⟨Nat.zero_le _, Nat.zero_le _⟩ (fun r139 S139 H locs hw hP hS => ?_)
  refine lv_istore_n (lv' := [(1, .int r139), (0, .ref (h 0))]) hx hb dX7_image_142 rfl hl (by decide) rfl (fun ls hl => ?_)
  refine lv_aload_n hx hb dX7_image_143 rfl (lv_at hl 1 rfl) ?_
  refine va_get (D := D) (ci := 7) (v := .ref (h 16)) (C := RX7) (T := TX7) (N := 28) hx hb hts inX7 hown hK hP 0 wM_0 rfl 21 (by decide) f6 (fun _ h9 => h9) rfl dX7_image_144 ?_
  refine lv_iload_n hx hb dX7_image_147 rfl (lv_at hl 0 rfl) ?_
  refine lv_aload_n hx hb dX7_image_148 rfl (lv_at hl 1 rfl) ?_
  refine va_get (D := D) (ci := 7) (v := .int (S139 0 0)) (C := RX7) (T := TX7) (N := 28) hx hb hts inX7 hown hK hP 0 wM_0 rfl 1 (by decide) f17 (fun _ h9 => h9) rfl dX7_image_149 ?_
  obtain ⟨hi, hw⟩ := hw
  refine x_iast (ws2 := wM h cI cJ (xu S139 16 r139.toNatClampNeg (S139 0 0)) L) hx hb hK hP (hD _ _) hS 16 0 wM_16 rfl hi dX7_image_152 (wM_u16 _ _) (fun H locs hP hS => ?_)
  refine lv_aload_n hx hb dX7_image_153 rfl (lv_at hl 1 rfl) ?_
  refine va_get (D := D) (ci := 7) (v := .ref (h 16)) (C := RX7) (T := TX7) (N := 28) hx hb hts inX7 hown hK hP 0 wM_0 rfl 21 (by decide) f6 (fun _ h9 => h9) rfl dX7_image_154 ?_
  refine lv_iload_n hx hb dX7_image_157 rfl (lv_at hl 0 rfl) ?_
  refine lv_iconst (v := (1 : Int32)) hx hb dX7_image_158 (by decide) ?_
  refine lv_iadd hx hb dX7_image_159 ?_
  refine lv_aload_n hx hb dX7_image_160 rfl (lv_at hl 1 rfl) ?_
  refine va_get (D := D) (ci := 7) (v := .int ((xu S139 16 r139.toNatClampNeg (S139 0 0)) 0 1)) (C := RX7) (T := TX7) (N := 28) hx hb hts inX7 hown hK hP 0 wM_0 rfl 2 (by decide) f18 (fun _ h9 => h9) rfl dX7_image_161 ?_
  obtain ⟨hi, hw⟩ := hw
  refine x_iast (ws2 := wM h cI cJ (xu (xu S139 16 r139.toNatClampNeg (S139 0 0)) 16 (r139 + (1 : Int32)).toNatClampNeg ((xu S139 16 r139.toNatClampNeg (S139 0 0)) 0 1)) L) hx hb hK hP (hD _ _) hS 16 0 wM_16 rfl hi dX7_image_164 (wM_u16 _ _) (fun H locs hP hS => ?_)
  refine lv_aload_n hx hb dX7_image_165 rfl (lv_at hl 1 rfl) ?_
  refine va_get (D := D) (ci := 7) (v := .ref (h 16)) (C := RX7) (T := TX7) (N := 28) hx hb hts inX7 hown hK hP 0 wM_0 rfl 21 (by decide) f6 (fun _ h9 => h9) rfl dX7_image_166 ?_
  refine lv_iload_n hx hb dX7_image_169 rfl (lv_at hl 0 rfl) ?_
  refine lv_iconst (v := (2 : Int32)) hx hb dX7_image_170 (by decide) ?_
  refine lv_iadd hx hb dX7_image_171 ?_
  refine lv_aload_n hx hb dX7_image_172 rfl (lv_at hl 1 rfl) ?_
  refine va_get (D := D) (ci := 7) (v := .int ((xu (xu S139 16 r139.toNatClampNeg (S139 0 0)) 16 (r139 + (1 : Int32)).toNatClampNeg ((xu S139 16 r139.toNatClampNeg (S139 0 0)) 0 1)) 0 2)) (C := RX7) (T := TX7) (N := 28) hx hb hts inX7 hown hK hP 0 wM_0 rfl 3 (by decide) f19 (fun _ h9 => h9) rfl dX7_image_173 ?_
  obtain ⟨hi, hw⟩ := hw
  refine x_iast (ws2 := wM h cI cJ (xu (xu (xu S139 16 r139.toNatClampNeg (S139 0 0)) 16 (r139 + (1 : Int32)).toNatClampNeg ((xu S139 16 r139.toNatClampNeg (S139 0 0)) 0 1)) 16 (r139 + (2 : Int32)).toNatClampNeg ((xu (xu S139 16 r139.toNatClampNeg (S139 0 0)) 16 (r139 + (1 : Int32)).toNatClampNeg ((xu S139 16 r139.toNatClampNeg (S139 0 0)) 0 1)) 0 2)) L) hx hb hK hP (hD _ _) hS 16 0 wM_16 rfl hi dX7_image_176 (wM_u16 _ _) (fun H locs hP hS => ?_)
  refine lv_iconst (v := (0 : Int32)) hx hb dX7_image_177 (by decide) ?_
  refine lv_istore_n (lv' := [(2, .int (0 : Int32)), (1, .int r139), (0, .ref (h 0))]) hx hb dX7_image_178 rfl hl (by decide) rfl (fun ls hl => ?_)
  obtain ⟨n179, hw⟩ := hw
  exact b179  n179 (0 : Int32) (xu (xu (xu S139 16 r139.toNatClampNeg (S139 0 0)) 16 (r139 + (1 : Int32)).toNatClampNeg ((xu S139 16 r139.toNatClampNeg (S139 0 0)) 0 1)) 16 (r139 + (2 : Int32)).toNatClampNeg ((xu (xu S139 16 r139.toNatClampNeg (S139 0 0)) 16 (r139 + (1 : Int32)).toNatClampNeg ((xu S139 16 r139.toNatClampNeg (S139 0 0)) 0 1)) 0 2)) L _ _ _ (lv_sub hl [2, 0] rfl) hP hS hw
abbrev rX7_gives_1 : Room := { frames := 0, cells := 0, slots := 0, locals := 0 }
set_option maxHeartbeats 4000000 in
set_option maxRecDepth 100000 in
theorem mX7_gives_1 (l : Launch) (D : va_G) (h : Nat → Nat) (cI cJ : ClassId) (hh : xdis 22 h) (S : SX) (L : LX) (v1 : Int32) (post : Int32 → SX → Prop) (hw : kX7_gives_1 S L v1 post) : Met l yX7_gives wsX7_gives rX7_gives_1 (xPre D (wM h cI cJ) (mE D cI cJ) S L [.ref (h 16), .int v1, .ref (h 1)]) (va_Qi (fun (r : Int32) (u : SX × LX) => post r u.1 ∧ u.2 = L) (xB D (wM h cI cJ)) (xA 22 h)) 0 0 (xA 22 h) := by
  refine Met.ofW (cc := cX7_gives) (maxL := 4) (ret := (some .int)) (by decide) rfl ?_
  intro p e s m args below meth c s₁ B hml hv
  obtain ⟨hargs, hP, hE⟩ := hv
  have hx := B.exec
  have hb := B.bytes
  have hr := B.returns
  have hlocks := B.notSynchronized
  have hts := atoms_spec (ws := wsX7_gives) B.pre
  have hown : s.vm.findClass RX7 = some m.cls := findClass_of_methodNamed B.named
  have hS : va_S (xA 22 h) s.heap s.heap [] := va_S.rf
  have hD : ∀ (S : SX) (L : LX), va_D (xA 22 h) (wM h cI cJ S L) := fun S L => wM_D hh cI cJ S L
  have hK := id hE
  have hst : xSt (xA 22 h) (mE D cI cJ) := mE_st D _ cI cJ
  skip
  have hl := lv_entry ([.ref (h 16), .int v1, .ref (h 1)]) (n := 4) (Nat.le_of_ble_eq_true rfl)
  have hen : entryFrame m args 4 = F0 m 0 ((lg_sl ([.ref (h 16), .int v1, .ref (h 1)]) ++ List.replicate (4 - (lg_sl ([.ref (h 16), .int v1, .ref (h 1)])).length) Slot.unset).toArray) [] := by rw [hargs]; exact lg_entry_eq m _ _
  rw [hen]
  generalize (lg_sl ([.ref (h 16), .int v1, .ref (h 1)]) ++ List.replicate (4 - (lg_sl ([.ref (h 16), .int v1, .ref (h 1)])).length) Slot.unset).toArray = ls at hl ⊢
  have hl : lv_has ls 4 [(0, .ref (h 16)), (1, .int v1), (2, .ref (h 1))] := hl
  change W p l e rX7_gives_1 s m args below meth c s.heap [] 0 0 (MQ below (va_Qi (fun (r : Int32) (u : SX × LX) => post r u.1 ∧ u.2 = L) (xB D (wM h cI cJ)) (xA 22 h)) args s 0 0 (xA 22 h)) (F0 m 0 ls [])
  have hret : ∀ (r : Int32) (S1 : SX) (H : Heap) (locs : List Loc) (ls : Array Slot) (pc : Nat), va_P D vwCl (wM h cI cJ S1 L) H → va_S (xA 22 h) s.heap H locs → post r S1 → decode cX7_gives pc = .ok (.ireturn, 1) → W p l e rX7_gives_1 s m args below meth c H locs 0 0 (MQ below (va_Qi (fun (r : Int32) (u : SX × LX) => post r u.1 ∧ u.2 = L) (xB D (wM h cI cJ)) (xA 22 h)) args s 0 0 (xA 22 h)) (F0 m pc ls [.int r]) := fun r S1 H locs ls pc hP hS hw hd => W.iret hx hb hr (fun t ht hW => ⟨⟨r, (S1, L), rfl, ⟨hw, rfl⟩, show va_P D vwCl (wM h cI cJ S1 L) t.heap by rw [ht]; exact hP⟩, hS.F ht⟩) hS.2.2 hd
  generalize MQ below (va_Qi (fun (r : Int32) (u : SX × LX) => post r u.1 ∧ u.2 = L) (xB D (wM h cI cJ)) (xA 22 h)) args s 0 0 (xA 22 h) = Q at hret ⊢
  have b2 : ∀  (n2 : Nat) (v3 : Int32) (S : SX) (H : Heap) (locs : List Loc) (ls : Array Slot), lv_has ls 4 [(0, .ref (h 16)), (1, .int v1), (2, .ref (h 1)), (3, .int v3)] → va_P D vwCl (wM h cI cJ S L) H → va_S (xA 22 h) s.heap H locs → kX7_gives_1_b2 L v1 post n2 v3 S → W p l e rX7_gives_1 s m args below meth c H locs 0 0 Q (F0 m 2 ls []) := by
    intro n2
    induction n2 with
    | zero => intro v3 S H locs ls hl hP hS hw; exact absurd hw id
    | succ n2 i2 =>
      intro v3 S H locs ls hl hP hS hw
      unfold kX7_gives_1_b2 at hw
      refine lv_iload_n hx hb dX7_gives_2 rfl (lv_at hl 3 rfl) ?_
      refine lv_aload_n hx hb dX7_gives_3 rfl (lv_at hl 2 rfl) ?_
      refine va_alen (v := (6 : Int32)) hx hb hK hP 1 0 wM_1 rfl rfl dX7_gives_4 ?_
      refine lv_icmp_ge (tgt := 22) hx hb dX7_gives_5 (by decide) (fun hc => ?_) (fun hc => ?_)
      · replace hw := And.left hw hc
        refine lv_iload_n hx hb dX7_gives_22 rfl (lv_at hl 1 rfl) ?_
        refine lv_aload_n hx hb dX7_gives_23 rfl (lv_at hl 2 rfl) ?_
        refine va_alen (v := (6 : Int32)) hx hb hK hP 1 0 wM_1 rfl rfl dX7_gives_24 ?_
        refine lv_iadd hx hb dX7_gives_25 ?_
        exact hret _ _ _ _ _ _ hP hS hw dX7_gives_26
      · replace hw := And.right hw hc
        refine lv_aload_n hx hb dX7_gives_8 rfl (lv_at hl 2 rfl) ?_
        refine lv_iload_n hx hb dX7_gives_9 rfl (lv_at hl 3 rfl) ?_
        refine lv_aload_n hx hb dX7_gives_10 rfl (lv_at hl 0 rfl) ?_
        refine lv_iload_n hx hb dX7_gives_11 rfl (lv_at hl 1 rfl) ?_
        refine lv_iload_n hx hb dX7_gives_12 rfl (lv_at hl 3 rfl) ?_
        refine lv_iadd hx hb dX7_gives_13 ?_
        obtain ⟨hi, hw⟩ := hw
        refine va_iald hx hb hK hP 16 0 wM_16 rfl hi dX7_gives_14 ?_
        obtain ⟨hi, hw⟩ := hw
        refine x_iast (ws2 := wM h cI cJ (xu S 1 v3.toNatClampNeg (S 16 (v1 + v3).toNatClampNeg)) L) hx hb hK hP (hD _ _) hS 1 0 wM_1 rfl hi dX7_gives_15 (wM_u1 _ _) (fun H locs hP hS => ?_)
        refine lv_iinc (v := v3 + (1 : Int32)) (lv' := [(3, .int (v3 + (1 : Int32))), (0, .ref (h 16)), (1, .int v1), (2, .ref (h 1))]) hx hb dX7_gives_16 hl (k := 3) rfl rfl (by decide) rfl (fun ls hl => ?_)
        refine lv_goto (tgt := 2) hx hb dX7_gives_19 (by decide) ?_
        exact i2 (v3 + (1 : Int32)) (xu S 1 v3.toNatClampNeg (S 16 (v1 + v3).toNatClampNeg)) _ _ _ (lv_sub hl [1, 2, 3, 0] rfl) hP hS hw
  unfold kX7_gives_1 at hw
  refine lv_iconst (v := (0 : Int32)) hx hb dX7_gives_0 (by decide) ?_
  refine lv_istore_n (lv' := [(3, .int (0 : Int32)), (0, .ref (h 16)), (1, .int v1), (2, .ref (h 1))]) hx hb dX7_gives_1 rfl hl (by decide) rfl (fun ls hl => ?_)
  obtain ⟨n2, hw⟩ := hw
  exact b2  n2 (0 : Int32) S _ _ _ (lv_sub hl [1, 2, 3, 0] rfl) hP hS hw
abbrev rX7_gives_2 : Room := { frames := 0, cells := 0, slots := 0, locals := 0 }
set_option maxHeartbeats 4000000 in
set_option maxRecDepth 100000 in
theorem mX7_gives_2 (l : Launch) (D : va_G) (h : Nat → Nat) (cI cJ : ClassId) (hh : xdis 22 h) (S : SX) (L : LX) (v1 : Int32) (post : Int32 → SX → Prop) (hw : kX7_gives_2 S L v1 post) : Met l yX7_gives wsX7_gives rX7_gives_2 (xPre D (wM h cI cJ) (mE D cI cJ) S L [.ref (h 16), .int v1, .ref (h 2)]) (va_Qi (fun (r : Int32) (u : SX × LX) => post r u.1 ∧ u.2 = L) (xB D (wM h cI cJ)) (xA 22 h)) 0 0 (xA 22 h) := by
  refine Met.ofW (cc := cX7_gives) (maxL := 4) (ret := (some .int)) (by decide) rfl ?_
  intro p e s m args below meth c s₁ B hml hv
  obtain ⟨hargs, hP, hE⟩ := hv
  have hx := B.exec
  have hb := B.bytes
  have hr := B.returns
  have hlocks := B.notSynchronized
  have hts := atoms_spec (ws := wsX7_gives) B.pre
  have hown : s.vm.findClass RX7 = some m.cls := findClass_of_methodNamed B.named
  have hS : va_S (xA 22 h) s.heap s.heap [] := va_S.rf
  have hD : ∀ (S : SX) (L : LX), va_D (xA 22 h) (wM h cI cJ S L) := fun S L => wM_D hh cI cJ S L
  have hK := id hE
  have hst : xSt (xA 22 h) (mE D cI cJ) := mE_st D _ cI cJ
  skip
  have hl := lv_entry ([.ref (h 16), .int v1, .ref (h 2)]) (n := 4) (Nat.le_of_ble_eq_true rfl)
  have hen : entryFrame m args 4 = F0 m 0 ((lg_sl ([.ref (h 16), .int v1, .ref (h 2)]) ++ List.replicate (4 - (lg_sl ([.ref (h 16), .int v1, .ref (h 2)])).length) Slot.unset).toArray) [] := by rw [hargs]; exact lg_entry_eq m _ _
  rw [hen]
  generalize (lg_sl ([.ref (h 16), .int v1, .ref (h 2)]) ++ List.replicate (4 - (lg_sl ([.ref (h 16), .int v1, .ref (h 2)])).length) Slot.unset).toArray = ls at hl ⊢
  have hl : lv_has ls 4 [(0, .ref (h 16)), (1, .int v1), (2, .ref (h 2))] := hl
  change W p l e rX7_gives_2 s m args below meth c s.heap [] 0 0 (MQ below (va_Qi (fun (r : Int32) (u : SX × LX) => post r u.1 ∧ u.2 = L) (xB D (wM h cI cJ)) (xA 22 h)) args s 0 0 (xA 22 h)) (F0 m 0 ls [])
  have hret : ∀ (r : Int32) (S1 : SX) (H : Heap) (locs : List Loc) (ls : Array Slot) (pc : Nat), va_P D vwCl (wM h cI cJ S1 L) H → va_S (xA 22 h) s.heap H locs → post r S1 → decode cX7_gives pc = .ok (.ireturn, 1) → W p l e rX7_gives_2 s m args below meth c H locs 0 0 (MQ below (va_Qi (fun (r : Int32) (u : SX × LX) => post r u.1 ∧ u.2 = L) (xB D (wM h cI cJ)) (xA 22 h)) args s 0 0 (xA 22 h)) (F0 m pc ls [.int r]) := fun r S1 H locs ls pc hP hS hw hd => W.iret hx hb hr (fun t ht hW => ⟨⟨r, (S1, L), rfl, ⟨hw, rfl⟩, show va_P D vwCl (wM h cI cJ S1 L) t.heap by rw [ht]; exact hP⟩, hS.F ht⟩) hS.2.2 hd
  generalize MQ below (va_Qi (fun (r : Int32) (u : SX × LX) => post r u.1 ∧ u.2 = L) (xB D (wM h cI cJ)) (xA 22 h)) args s 0 0 (xA 22 h) = Q at hret ⊢
  have b2 : ∀  (n2 : Nat) (v3 : Int32) (S : SX) (H : Heap) (locs : List Loc) (ls : Array Slot), lv_has ls 4 [(0, .ref (h 16)), (1, .int v1), (2, .ref (h 2)), (3, .int v3)] → va_P D vwCl (wM h cI cJ S L) H → va_S (xA 22 h) s.heap H locs → kX7_gives_2_b2 L v1 post n2 v3 S → W p l e rX7_gives_2 s m args below meth c H locs 0 0 Q (F0 m 2 ls []) := by
    intro n2
    induction n2 with
    | zero => intro v3 S H locs ls hl hP hS hw; exact absurd hw id
    | succ n2 i2 =>
      intro v3 S H locs ls hl hP hS hw
      unfold kX7_gives_2_b2 at hw
      refine lv_iload_n hx hb dX7_gives_2 rfl (lv_at hl 3 rfl) ?_
      refine lv_aload_n hx hb dX7_gives_3 rfl (lv_at hl 2 rfl) ?_
      refine va_alen (v := (24 : Int32)) hx hb hK hP 2 0 wM_2 rfl rfl dX7_gives_4 ?_
      refine lv_icmp_ge (tgt := 22) hx hb dX7_gives_5 (by decide) (fun hc => ?_) (fun hc => ?_)
      · replace hw := And.left hw hc
        refine lv_iload_n hx hb dX7_gives_22 rfl (lv_at hl 1 rfl) ?_
        refine lv_aload_n hx hb dX7_gives_23 rfl (lv_at hl 2 rfl) ?_
        refine va_alen (v := (24 : Int32)) hx hb hK hP 2 0 wM_2 rfl rfl dX7_gives_24 ?_
        refine lv_iadd hx hb dX7_gives_25 ?_
        exact hret _ _ _ _ _ _ hP hS hw dX7_gives_26
      · replace hw := And.right hw hc
        refine lv_aload_n hx hb dX7_gives_8 rfl (lv_at hl 2 rfl) ?_
        refine lv_iload_n hx hb dX7_gives_9 rfl (lv_at hl 3 rfl) ?_
        refine lv_aload_n hx hb dX7_gives_10 rfl (lv_at hl 0 rfl) ?_
        refine lv_iload_n hx hb dX7_gives_11 rfl (lv_at hl 1 rfl) ?_
        refine lv_iload_n hx hb dX7_gives_12 rfl (lv_at hl 3 rfl) ?_
        refine lv_iadd hx hb dX7_gives_13 ?_
        obtain ⟨hi, hw⟩ := hw
        refine va_iald hx hb hK hP 16 0 wM_16 rfl hi dX7_gives_14 ?_
        obtain ⟨hi, hw⟩ := hw
        refine x_iast (ws2 := wM h cI cJ (xu S 2 v3.toNatClampNeg (S 16 (v1 + v3).toNatClampNeg)) L) hx hb hK hP (hD _ _) hS 2 0 wM_2 rfl hi dX7_gives_15 (wM_u2 _ _) (fun H locs hP hS => ?_)
        refine lv_iinc (v := v3 + (1 : Int32)) (lv' := [(3, .int (v3 + (1 : Int32))), (0, .ref (h 16)), (1, .int v1), (2, .ref (h 2))]) hx hb dX7_gives_16 hl (k := 3) rfl rfl (by decide) rfl (fun ls hl => ?_)
        refine lv_goto (tgt := 2) hx hb dX7_gives_19 (by decide) ?_
        exact i2 (v3 + (1 : Int32)) (xu S 2 v3.toNatClampNeg (S 16 (v1 + v3).toNatClampNeg)) _ _ _ (lv_sub hl [1, 2, 3, 0] rfl) hP hS hw
  unfold kX7_gives_2 at hw
  refine lv_iconst (v := (0 : Int32)) hx hb dX7_gives_0 (by decide) ?_
  refine lv_istore_n (lv' := [(3, .int (0 : Int32)), (0, .ref (h 16)), (1, .int v1), (2, .ref (h 2))]) hx hb dX7_gives_1 rfl hl (by decide) rfl (fun ls hl => ?_)
  obtain ⟨n2, hw⟩ := hw
  exact b2  n2 (0 : Int32) S _ _ _ (lv_sub hl [1, 2, 3, 0] rfl) hP hS hw
abbrev rX7_gives_3 : Room := { frames := 0, cells := 0, slots := 0, locals := 0 }
set_option maxHeartbeats 4000000 in
set_option maxRecDepth 100000 in
theorem mX7_gives_3 (l : Launch) (D : va_G) (h : Nat → Nat) (cI cJ : ClassId) (hh : xdis 22 h) (S : SX) (L : LX) (v1 : Int32) (post : Int32 → SX → Prop) (hw : kX7_gives_3 S L v1 post) : Met l yX7_gives wsX7_gives rX7_gives_3 (xPre D (wM h cI cJ) (mE D cI cJ) S L [.ref (h 16), .int v1, .ref (h 3)]) (va_Qi (fun (r : Int32) (u : SX × LX) => post r u.1 ∧ u.2 = L) (xB D (wM h cI cJ)) (xA 22 h)) 0 0 (xA 22 h) := by
  refine Met.ofW (cc := cX7_gives) (maxL := 4) (ret := (some .int)) (by decide) rfl ?_
  intro p e s m args below meth c s₁ B hml hv
  obtain ⟨hargs, hP, hE⟩ := hv
  have hx := B.exec
  have hb := B.bytes
  have hr := B.returns
  have hlocks := B.notSynchronized
  have hts := atoms_spec (ws := wsX7_gives) B.pre
  have hown : s.vm.findClass RX7 = some m.cls := findClass_of_methodNamed B.named
  have hS : va_S (xA 22 h) s.heap s.heap [] := va_S.rf
  have hD : ∀ (S : SX) (L : LX), va_D (xA 22 h) (wM h cI cJ S L) := fun S L => wM_D hh cI cJ S L
  have hK := id hE
  have hst : xSt (xA 22 h) (mE D cI cJ) := mE_st D _ cI cJ
  skip
  have hl := lv_entry ([.ref (h 16), .int v1, .ref (h 3)]) (n := 4) (Nat.le_of_ble_eq_true rfl)
  have hen : entryFrame m args 4 = F0 m 0 ((lg_sl ([.ref (h 16), .int v1, .ref (h 3)]) ++ List.replicate (4 - (lg_sl ([.ref (h 16), .int v1, .ref (h 3)])).length) Slot.unset).toArray) [] := by rw [hargs]; exact lg_entry_eq m _ _
  rw [hen]
  generalize (lg_sl ([.ref (h 16), .int v1, .ref (h 3)]) ++ List.replicate (4 - (lg_sl ([.ref (h 16), .int v1, .ref (h 3)])).length) Slot.unset).toArray = ls at hl ⊢
  have hl : lv_has ls 4 [(0, .ref (h 16)), (1, .int v1), (2, .ref (h 3))] := hl
  change W p l e rX7_gives_3 s m args below meth c s.heap [] 0 0 (MQ below (va_Qi (fun (r : Int32) (u : SX × LX) => post r u.1 ∧ u.2 = L) (xB D (wM h cI cJ)) (xA 22 h)) args s 0 0 (xA 22 h)) (F0 m 0 ls [])
  have hret : ∀ (r : Int32) (S1 : SX) (H : Heap) (locs : List Loc) (ls : Array Slot) (pc : Nat), va_P D vwCl (wM h cI cJ S1 L) H → va_S (xA 22 h) s.heap H locs → post r S1 → decode cX7_gives pc = .ok (.ireturn, 1) → W p l e rX7_gives_3 s m args below meth c H locs 0 0 (MQ below (va_Qi (fun (r : Int32) (u : SX × LX) => post r u.1 ∧ u.2 = L) (xB D (wM h cI cJ)) (xA 22 h)) args s 0 0 (xA 22 h)) (F0 m pc ls [.int r]) := fun r S1 H locs ls pc hP hS hw hd => W.iret hx hb hr (fun t ht hW => ⟨⟨r, (S1, L), rfl, ⟨hw, rfl⟩, show va_P D vwCl (wM h cI cJ S1 L) t.heap by rw [ht]; exact hP⟩, hS.F ht⟩) hS.2.2 hd
  generalize MQ below (va_Qi (fun (r : Int32) (u : SX × LX) => post r u.1 ∧ u.2 = L) (xB D (wM h cI cJ)) (xA 22 h)) args s 0 0 (xA 22 h) = Q at hret ⊢
  have b2 : ∀  (n2 : Nat) (v3 : Int32) (S : SX) (H : Heap) (locs : List Loc) (ls : Array Slot), lv_has ls 4 [(0, .ref (h 16)), (1, .int v1), (2, .ref (h 3)), (3, .int v3)] → va_P D vwCl (wM h cI cJ S L) H → va_S (xA 22 h) s.heap H locs → kX7_gives_3_b2 L v1 post n2 v3 S → W p l e rX7_gives_3 s m args below meth c H locs 0 0 Q (F0 m 2 ls []) := by
    intro n2
    induction n2 with
    | zero => intro v3 S H locs ls hl hP hS hw; exact absurd hw id
    | succ n2 i2 =>
      intro v3 S H locs ls hl hP hS hw
      unfold kX7_gives_3_b2 at hw
      refine lv_iload_n hx hb dX7_gives_2 rfl (lv_at hl 3 rfl) ?_
      refine lv_aload_n hx hb dX7_gives_3 rfl (lv_at hl 2 rfl) ?_
      refine va_alen (v := (24 : Int32)) hx hb hK hP 3 0 wM_3 rfl rfl dX7_gives_4 ?_
      refine lv_icmp_ge (tgt := 22) hx hb dX7_gives_5 (by decide) (fun hc => ?_) (fun hc => ?_)
      · replace hw := And.left hw hc
        refine lv_iload_n hx hb dX7_gives_22 rfl (lv_at hl 1 rfl) ?_
        refine lv_aload_n hx hb dX7_gives_23 rfl (lv_at hl 2 rfl) ?_
        refine va_alen (v := (24 : Int32)) hx hb hK hP 3 0 wM_3 rfl rfl dX7_gives_24 ?_
        refine lv_iadd hx hb dX7_gives_25 ?_
        exact hret _ _ _ _ _ _ hP hS hw dX7_gives_26
      · replace hw := And.right hw hc
        refine lv_aload_n hx hb dX7_gives_8 rfl (lv_at hl 2 rfl) ?_
        refine lv_iload_n hx hb dX7_gives_9 rfl (lv_at hl 3 rfl) ?_
        refine lv_aload_n hx hb dX7_gives_10 rfl (lv_at hl 0 rfl) ?_
        refine lv_iload_n hx hb dX7_gives_11 rfl (lv_at hl 1 rfl) ?_
        refine lv_iload_n hx hb dX7_gives_12 rfl (lv_at hl 3 rfl) ?_
        refine lv_iadd hx hb dX7_gives_13 ?_
        obtain ⟨hi, hw⟩ := hw
        refine va_iald hx hb hK hP 16 0 wM_16 rfl hi dX7_gives_14 ?_
        obtain ⟨hi, hw⟩ := hw
        refine x_iast (ws2 := wM h cI cJ (xu S 3 v3.toNatClampNeg (S 16 (v1 + v3).toNatClampNeg)) L) hx hb hK hP (hD _ _) hS 3 0 wM_3 rfl hi dX7_gives_15 (wM_u3 _ _) (fun H locs hP hS => ?_)
        refine lv_iinc (v := v3 + (1 : Int32)) (lv' := [(3, .int (v3 + (1 : Int32))), (0, .ref (h 16)), (1, .int v1), (2, .ref (h 3))]) hx hb dX7_gives_16 hl (k := 3) rfl rfl (by decide) rfl (fun ls hl => ?_)
        refine lv_goto (tgt := 2) hx hb dX7_gives_19 (by decide) ?_
        exact i2 (v3 + (1 : Int32)) (xu S 3 v3.toNatClampNeg (S 16 (v1 + v3).toNatClampNeg)) _ _ _ (lv_sub hl [1, 2, 3, 0] rfl) hP hS hw
  unfold kX7_gives_3 at hw
  refine lv_iconst (v := (0 : Int32)) hx hb dX7_gives_0 (by decide) ?_
  refine lv_istore_n (lv' := [(3, .int (0 : Int32)), (0, .ref (h 16)), (1, .int v1), (2, .ref (h 3))]) hx hb dX7_gives_1 rfl hl (by decide) rfl (fun ls hl => ?_)
  obtain ⟨n2, hw⟩ := hw
  exact b2  n2 (0 : Int32) S _ _ _ (lv_sub hl [1, 2, 3, 0] rfl) hP hS hw
abbrev rX7_gives_4 : Room := { frames := 0, cells := 0, slots := 0, locals := 0 }
set_option maxHeartbeats 4000000 in
set_option maxRecDepth 100000 in
theorem mX7_gives_4 (l : Launch) (D : va_G) (h : Nat → Nat) (cI cJ : ClassId) (hh : xdis 22 h) (S : SX) (L : LX) (v1 : Int32) (post : Int32 → SX → Prop) (hw : kX7_gives_4 S L v1 post) : Met l yX7_gives wsX7_gives rX7_gives_4 (xPre D (wM h cI cJ) (mE D cI cJ) S L [.ref (h 16), .int v1, .ref (h 4)]) (va_Qi (fun (r : Int32) (u : SX × LX) => post r u.1 ∧ u.2 = L) (xB D (wM h cI cJ)) (xA 22 h)) 0 0 (xA 22 h) := by
  refine Met.ofW (cc := cX7_gives) (maxL := 4) (ret := (some .int)) (by decide) rfl ?_
  intro p e s m args below meth c s₁ B hml hv
  obtain ⟨hargs, hP, hE⟩ := hv
  have hx := B.exec
  have hb := B.bytes
  have hr := B.returns
  have hlocks := B.notSynchronized
  have hts := atoms_spec (ws := wsX7_gives) B.pre
  have hown : s.vm.findClass RX7 = some m.cls := findClass_of_methodNamed B.named
  have hS : va_S (xA 22 h) s.heap s.heap [] := va_S.rf
  have hD : ∀ (S : SX) (L : LX), va_D (xA 22 h) (wM h cI cJ S L) := fun S L => wM_D hh cI cJ S L
  have hK := id hE
  have hst : xSt (xA 22 h) (mE D cI cJ) := mE_st D _ cI cJ
  skip
  have hl := lv_entry ([.ref (h 16), .int v1, .ref (h 4)]) (n := 4) (Nat.le_of_ble_eq_true rfl)
  have hen : entryFrame m args 4 = F0 m 0 ((lg_sl ([.ref (h 16), .int v1, .ref (h 4)]) ++ List.replicate (4 - (lg_sl ([.ref (h 16), .int v1, .ref (h 4)])).length) Slot.unset).toArray) [] := by rw [hargs]; exact lg_entry_eq m _ _
  rw [hen]
  generalize (lg_sl ([.ref (h 16), .int v1, .ref (h 4)]) ++ List.replicate (4 - (lg_sl ([.ref (h 16), .int v1, .ref (h 4)])).length) Slot.unset).toArray = ls at hl ⊢
  have hl : lv_has ls 4 [(0, .ref (h 16)), (1, .int v1), (2, .ref (h 4))] := hl
  change W p l e rX7_gives_4 s m args below meth c s.heap [] 0 0 (MQ below (va_Qi (fun (r : Int32) (u : SX × LX) => post r u.1 ∧ u.2 = L) (xB D (wM h cI cJ)) (xA 22 h)) args s 0 0 (xA 22 h)) (F0 m 0 ls [])
  have hret : ∀ (r : Int32) (S1 : SX) (H : Heap) (locs : List Loc) (ls : Array Slot) (pc : Nat), va_P D vwCl (wM h cI cJ S1 L) H → va_S (xA 22 h) s.heap H locs → post r S1 → decode cX7_gives pc = .ok (.ireturn, 1) → W p l e rX7_gives_4 s m args below meth c H locs 0 0 (MQ below (va_Qi (fun (r : Int32) (u : SX × LX) => post r u.1 ∧ u.2 = L) (xB D (wM h cI cJ)) (xA 22 h)) args s 0 0 (xA 22 h)) (F0 m pc ls [.int r]) := fun r S1 H locs ls pc hP hS hw hd => W.iret hx hb hr (fun t ht hW => ⟨⟨r, (S1, L), rfl, ⟨hw, rfl⟩, show va_P D vwCl (wM h cI cJ S1 L) t.heap by rw [ht]; exact hP⟩, hS.F ht⟩) hS.2.2 hd
  generalize MQ below (va_Qi (fun (r : Int32) (u : SX × LX) => post r u.1 ∧ u.2 = L) (xB D (wM h cI cJ)) (xA 22 h)) args s 0 0 (xA 22 h) = Q at hret ⊢
  have b2 : ∀  (n2 : Nat) (v3 : Int32) (S : SX) (H : Heap) (locs : List Loc) (ls : Array Slot), lv_has ls 4 [(0, .ref (h 16)), (1, .int v1), (2, .ref (h 4)), (3, .int v3)] → va_P D vwCl (wM h cI cJ S L) H → va_S (xA 22 h) s.heap H locs → kX7_gives_4_b2 L v1 post n2 v3 S → W p l e rX7_gives_4 s m args below meth c H locs 0 0 Q (F0 m 2 ls []) := by
    intro n2
    induction n2 with
    | zero => intro v3 S H locs ls hl hP hS hw; exact absurd hw id
    | succ n2 i2 =>
      intro v3 S H locs ls hl hP hS hw
      unfold kX7_gives_4_b2 at hw
      refine lv_iload_n hx hb dX7_gives_2 rfl (lv_at hl 3 rfl) ?_
      refine lv_aload_n hx hb dX7_gives_3 rfl (lv_at hl 2 rfl) ?_
      refine va_alen (v := (24 : Int32)) hx hb hK hP 4 0 wM_4 rfl rfl dX7_gives_4 ?_
      refine lv_icmp_ge (tgt := 22) hx hb dX7_gives_5 (by decide) (fun hc => ?_) (fun hc => ?_)
      · replace hw := And.left hw hc
        refine lv_iload_n hx hb dX7_gives_22 rfl (lv_at hl 1 rfl) ?_
        refine lv_aload_n hx hb dX7_gives_23 rfl (lv_at hl 2 rfl) ?_
        refine va_alen (v := (24 : Int32)) hx hb hK hP 4 0 wM_4 rfl rfl dX7_gives_24 ?_
        refine lv_iadd hx hb dX7_gives_25 ?_
        exact hret _ _ _ _ _ _ hP hS hw dX7_gives_26
      · replace hw := And.right hw hc
        refine lv_aload_n hx hb dX7_gives_8 rfl (lv_at hl 2 rfl) ?_
        refine lv_iload_n hx hb dX7_gives_9 rfl (lv_at hl 3 rfl) ?_
        refine lv_aload_n hx hb dX7_gives_10 rfl (lv_at hl 0 rfl) ?_
        refine lv_iload_n hx hb dX7_gives_11 rfl (lv_at hl 1 rfl) ?_
        refine lv_iload_n hx hb dX7_gives_12 rfl (lv_at hl 3 rfl) ?_
        refine lv_iadd hx hb dX7_gives_13 ?_
        obtain ⟨hi, hw⟩ := hw
        refine va_iald hx hb hK hP 16 0 wM_16 rfl hi dX7_gives_14 ?_
        obtain ⟨hi, hw⟩ := hw
        refine x_iast (ws2 := wM h cI cJ (xu S 4 v3.toNatClampNeg (S 16 (v1 + v3).toNatClampNeg)) L) hx hb hK hP (hD _ _) hS 4 0 wM_4 rfl hi dX7_gives_15 (wM_u4 _ _) (fun H locs hP hS => ?_)
        refine lv_iinc (v := v3 + (1 : Int32)) (lv' := [(3, .int (v3 + (1 : Int32))), (0, .ref (h 16)), (1, .int v1), (2, .ref (h 4))]) hx hb dX7_gives_16 hl (k := 3) rfl rfl (by decide) rfl (fun ls hl => ?_)
        refine lv_goto (tgt := 2) hx hb dX7_gives_19 (by decide) ?_
        exact i2 (v3 + (1 : Int32)) (xu S 4 v3.toNatClampNeg (S 16 (v1 + v3).toNatClampNeg)) _ _ _ (lv_sub hl [1, 2, 3, 0] rfl) hP hS hw
  unfold kX7_gives_4 at hw
  refine lv_iconst (v := (0 : Int32)) hx hb dX7_gives_0 (by decide) ?_
  refine lv_istore_n (lv' := [(3, .int (0 : Int32)), (0, .ref (h 16)), (1, .int v1), (2, .ref (h 4))]) hx hb dX7_gives_1 rfl hl (by decide) rfl (fun ls hl => ?_)
  obtain ⟨n2, hw⟩ := hw
  exact b2  n2 (0 : Int32) S _ _ _ (lv_sub hl [1, 2, 3, 0] rfl) hP hS hw
abbrev rX7_gives_5 : Room := { frames := 0, cells := 0, slots := 0, locals := 0 }
set_option maxHeartbeats 4000000 in
set_option maxRecDepth 100000 in
theorem mX7_gives_5 (l : Launch) (D : va_G) (h : Nat → Nat) (cI cJ : ClassId) (hh : xdis 22 h) (S : SX) (L : LX) (v1 : Int32) (post : Int32 → SX → Prop) (hw : kX7_gives_5 S L v1 post) : Met l yX7_gives wsX7_gives rX7_gives_5 (xPre D (wM h cI cJ) (mE D cI cJ) S L [.ref (h 16), .int v1, .ref (h 5)]) (va_Qi (fun (r : Int32) (u : SX × LX) => post r u.1 ∧ u.2 = L) (xB D (wM h cI cJ)) (xA 22 h)) 0 0 (xA 22 h) := by
  refine Met.ofW (cc := cX7_gives) (maxL := 4) (ret := (some .int)) (by decide) rfl ?_
  intro p e s m args below meth c s₁ B hml hv
  obtain ⟨hargs, hP, hE⟩ := hv
  have hx := B.exec
  have hb := B.bytes
  have hr := B.returns
  have hlocks := B.notSynchronized
  have hts := atoms_spec (ws := wsX7_gives) B.pre
  have hown : s.vm.findClass RX7 = some m.cls := findClass_of_methodNamed B.named
  have hS : va_S (xA 22 h) s.heap s.heap [] := va_S.rf
  have hD : ∀ (S : SX) (L : LX), va_D (xA 22 h) (wM h cI cJ S L) := fun S L => wM_D hh cI cJ S L
  have hK := id hE
  have hst : xSt (xA 22 h) (mE D cI cJ) := mE_st D _ cI cJ
  skip
  have hl := lv_entry ([.ref (h 16), .int v1, .ref (h 5)]) (n := 4) (Nat.le_of_ble_eq_true rfl)
  have hen : entryFrame m args 4 = F0 m 0 ((lg_sl ([.ref (h 16), .int v1, .ref (h 5)]) ++ List.replicate (4 - (lg_sl ([.ref (h 16), .int v1, .ref (h 5)])).length) Slot.unset).toArray) [] := by rw [hargs]; exact lg_entry_eq m _ _
  rw [hen]
  generalize (lg_sl ([.ref (h 16), .int v1, .ref (h 5)]) ++ List.replicate (4 - (lg_sl ([.ref (h 16), .int v1, .ref (h 5)])).length) Slot.unset).toArray = ls at hl ⊢
  have hl : lv_has ls 4 [(0, .ref (h 16)), (1, .int v1), (2, .ref (h 5))] := hl
  change W p l e rX7_gives_5 s m args below meth c s.heap [] 0 0 (MQ below (va_Qi (fun (r : Int32) (u : SX × LX) => post r u.1 ∧ u.2 = L) (xB D (wM h cI cJ)) (xA 22 h)) args s 0 0 (xA 22 h)) (F0 m 0 ls [])
  have hret : ∀ (r : Int32) (S1 : SX) (H : Heap) (locs : List Loc) (ls : Array Slot) (pc : Nat), va_P D vwCl (wM h cI cJ S1 L) H → va_S (xA 22 h) s.heap H locs → post r S1 → decode cX7_gives pc = .ok (.ireturn, 1) → W p l e rX7_gives_5 s m args below meth c H locs 0 0 (MQ below (va_Qi (fun (r : Int32) (u : SX × LX) => post r u.1 ∧ u.2 = L) (xB D (wM h cI cJ)) (xA 22 h)) args s 0 0 (xA 22 h)) (F0 m pc ls [.int r]) := fun r S1 H locs ls pc hP hS hw hd => W.iret hx hb hr (fun t ht hW => ⟨⟨r, (S1, L), rfl, ⟨hw, rfl⟩, show va_P D vwCl (wM h cI cJ S1 L) t.heap by rw [ht]; exact hP⟩, hS.F ht⟩) hS.2.2 hd
  generalize MQ below (va_Qi (fun (r : Int32) (u : SX × LX) => post r u.1 ∧ u.2 = L) (xB D (wM h cI cJ)) (xA 22 h)) args s 0 0 (xA 22 h) = Q at hret ⊢
  have b2 : ∀  (n2 : Nat) (v3 : Int32) (S : SX) (H : Heap) (locs : List Loc) (ls : Array Slot), lv_has ls 4 [(0, .ref (h 16)), (1, .int v1), (2, .ref (h 5)), (3, .int v3)] → va_P D vwCl (wM h cI cJ S L) H → va_S (xA 22 h) s.heap H locs → kX7_gives_5_b2 L v1 post n2 v3 S → W p l e rX7_gives_5 s m args below meth c H locs 0 0 Q (F0 m 2 ls []) := by
    intro n2
    induction n2 with
    | zero => intro v3 S H locs ls hl hP hS hw; exact absurd hw id
    | succ n2 i2 =>
      intro v3 S H locs ls hl hP hS hw
      unfold kX7_gives_5_b2 at hw
      refine lv_iload_n hx hb dX7_gives_2 rfl (lv_at hl 3 rfl) ?_
      refine lv_aload_n hx hb dX7_gives_3 rfl (lv_at hl 2 rfl) ?_
      refine va_alen (v := (96 : Int32)) hx hb hK hP 5 0 wM_5 rfl rfl dX7_gives_4 ?_
      refine lv_icmp_ge (tgt := 22) hx hb dX7_gives_5 (by decide) (fun hc => ?_) (fun hc => ?_)
      · replace hw := And.left hw hc
        refine lv_iload_n hx hb dX7_gives_22 rfl (lv_at hl 1 rfl) ?_
        refine lv_aload_n hx hb dX7_gives_23 rfl (lv_at hl 2 rfl) ?_
        refine va_alen (v := (96 : Int32)) hx hb hK hP 5 0 wM_5 rfl rfl dX7_gives_24 ?_
        refine lv_iadd hx hb dX7_gives_25 ?_
        exact hret _ _ _ _ _ _ hP hS hw dX7_gives_26
      · replace hw := And.right hw hc
        refine lv_aload_n hx hb dX7_gives_8 rfl (lv_at hl 2 rfl) ?_
        refine lv_iload_n hx hb dX7_gives_9 rfl (lv_at hl 3 rfl) ?_
        refine lv_aload_n hx hb dX7_gives_10 rfl (lv_at hl 0 rfl) ?_
        refine lv_iload_n hx hb dX7_gives_11 rfl (lv_at hl 1 rfl) ?_
        refine lv_iload_n hx hb dX7_gives_12 rfl (lv_at hl 3 rfl) ?_
        refine lv_iadd hx hb dX7_gives_13 ?_
        obtain ⟨hi, hw⟩ := hw
        refine va_iald hx hb hK hP 16 0 wM_16 rfl hi dX7_gives_14 ?_
        obtain ⟨hi, hw⟩ := hw
        refine x_iast (ws2 := wM h cI cJ (xu S 5 v3.toNatClampNeg (S 16 (v1 + v3).toNatClampNeg)) L) hx hb hK hP (hD _ _) hS 5 0 wM_5 rfl hi dX7_gives_15 (wM_u5 _ _) (fun H locs hP hS => ?_)
        refine lv_iinc (v := v3 + (1 : Int32)) (lv' := [(3, .int (v3 + (1 : Int32))), (0, .ref (h 16)), (1, .int v1), (2, .ref (h 5))]) hx hb dX7_gives_16 hl (k := 3) rfl rfl (by decide) rfl (fun ls hl => ?_)
        refine lv_goto (tgt := 2) hx hb dX7_gives_19 (by decide) ?_
        exact i2 (v3 + (1 : Int32)) (xu S 5 v3.toNatClampNeg (S 16 (v1 + v3).toNatClampNeg)) _ _ _ (lv_sub hl [1, 2, 3, 0] rfl) hP hS hw
  unfold kX7_gives_5 at hw
  refine lv_iconst (v := (0 : Int32)) hx hb dX7_gives_0 (by decide) ?_
  refine lv_istore_n (lv' := [(3, .int (0 : Int32)), (0, .ref (h 16)), (1, .int v1), (2, .ref (h 5))]) hx hb dX7_gives_1 rfl hl (by decide) rfl (fun ls hl => ?_)
  obtain ⟨n2, hw⟩ := hw
  exact b2  n2 (0 : Int32) S _ _ _ (lv_sub hl [1, 2, 3, 0] rfl) hP hS hw
abbrev rX7_gives_6 : Room := { frames := 0, cells := 0, slots := 0, locals := 0 }
set_option maxHeartbeats 4000000 in
set_option maxRecDepth 100000 in
theorem mX7_gives_6 (l : Launch) (D : va_G) (h : Nat → Nat) (cI cJ : ClassId) (hh : xdis 22 h) (S : SX) (L : LX) (v1 : Int32) (post : Int32 → SX → Prop) (hw : kX7_gives_6 S L v1 post) : Met l yX7_gives wsX7_gives rX7_gives_6 (xPre D (wM h cI cJ) (mE D cI cJ) S L [.ref (h 16), .int v1, .ref (h 6)]) (va_Qi (fun (r : Int32) (u : SX × LX) => post r u.1 ∧ u.2 = L) (xB D (wM h cI cJ)) (xA 22 h)) 0 0 (xA 22 h) := by
  refine Met.ofW (cc := cX7_gives) (maxL := 4) (ret := (some .int)) (by decide) rfl ?_
  intro p e s m args below meth c s₁ B hml hv
  obtain ⟨hargs, hP, hE⟩ := hv
  have hx := B.exec
  have hb := B.bytes
  have hr := B.returns
  have hlocks := B.notSynchronized
  have hts := atoms_spec (ws := wsX7_gives) B.pre
  have hown : s.vm.findClass RX7 = some m.cls := findClass_of_methodNamed B.named
  have hS : va_S (xA 22 h) s.heap s.heap [] := va_S.rf
  have hD : ∀ (S : SX) (L : LX), va_D (xA 22 h) (wM h cI cJ S L) := fun S L => wM_D hh cI cJ S L
  have hK := id hE
  have hst : xSt (xA 22 h) (mE D cI cJ) := mE_st D _ cI cJ
  skip
  have hl := lv_entry ([.ref (h 16), .int v1, .ref (h 6)]) (n := 4) (Nat.le_of_ble_eq_true rfl)
  have hen : entryFrame m args 4 = F0 m 0 ((lg_sl ([.ref (h 16), .int v1, .ref (h 6)]) ++ List.replicate (4 - (lg_sl ([.ref (h 16), .int v1, .ref (h 6)])).length) Slot.unset).toArray) [] := by rw [hargs]; exact lg_entry_eq m _ _
  rw [hen]
  generalize (lg_sl ([.ref (h 16), .int v1, .ref (h 6)]) ++ List.replicate (4 - (lg_sl ([.ref (h 16), .int v1, .ref (h 6)])).length) Slot.unset).toArray = ls at hl ⊢
  have hl : lv_has ls 4 [(0, .ref (h 16)), (1, .int v1), (2, .ref (h 6))] := hl
  change W p l e rX7_gives_6 s m args below meth c s.heap [] 0 0 (MQ below (va_Qi (fun (r : Int32) (u : SX × LX) => post r u.1 ∧ u.2 = L) (xB D (wM h cI cJ)) (xA 22 h)) args s 0 0 (xA 22 h)) (F0 m 0 ls [])
  have hret : ∀ (r : Int32) (S1 : SX) (H : Heap) (locs : List Loc) (ls : Array Slot) (pc : Nat), va_P D vwCl (wM h cI cJ S1 L) H → va_S (xA 22 h) s.heap H locs → post r S1 → decode cX7_gives pc = .ok (.ireturn, 1) → W p l e rX7_gives_6 s m args below meth c H locs 0 0 (MQ below (va_Qi (fun (r : Int32) (u : SX × LX) => post r u.1 ∧ u.2 = L) (xB D (wM h cI cJ)) (xA 22 h)) args s 0 0 (xA 22 h)) (F0 m pc ls [.int r]) := fun r S1 H locs ls pc hP hS hw hd => W.iret hx hb hr (fun t ht hW => ⟨⟨r, (S1, L), rfl, ⟨hw, rfl⟩, show va_P D vwCl (wM h cI cJ S1 L) t.heap by rw [ht]; exact hP⟩, hS.F ht⟩) hS.2.2 hd
  generalize MQ below (va_Qi (fun (r : Int32) (u : SX × LX) => post r u.1 ∧ u.2 = L) (xB D (wM h cI cJ)) (xA 22 h)) args s 0 0 (xA 22 h) = Q at hret ⊢
  have b2 : ∀  (n2 : Nat) (v3 : Int32) (S : SX) (H : Heap) (locs : List Loc) (ls : Array Slot), lv_has ls 4 [(0, .ref (h 16)), (1, .int v1), (2, .ref (h 6)), (3, .int v3)] → va_P D vwCl (wM h cI cJ S L) H → va_S (xA 22 h) s.heap H locs → kX7_gives_6_b2 L v1 post n2 v3 S → W p l e rX7_gives_6 s m args below meth c H locs 0 0 Q (F0 m 2 ls []) := by
    intro n2
    induction n2 with
    | zero => intro v3 S H locs ls hl hP hS hw; exact absurd hw id
    | succ n2 i2 =>
      intro v3 S H locs ls hl hP hS hw
      unfold kX7_gives_6_b2 at hw
      refine lv_iload_n hx hb dX7_gives_2 rfl (lv_at hl 3 rfl) ?_
      refine lv_aload_n hx hb dX7_gives_3 rfl (lv_at hl 2 rfl) ?_
      refine va_alen (v := (8 : Int32)) hx hb hK hP 6 0 wM_6 rfl rfl dX7_gives_4 ?_
      refine lv_icmp_ge (tgt := 22) hx hb dX7_gives_5 (by decide) (fun hc => ?_) (fun hc => ?_)
      · replace hw := And.left hw hc
        refine lv_iload_n hx hb dX7_gives_22 rfl (lv_at hl 1 rfl) ?_
        refine lv_aload_n hx hb dX7_gives_23 rfl (lv_at hl 2 rfl) ?_
        refine va_alen (v := (8 : Int32)) hx hb hK hP 6 0 wM_6 rfl rfl dX7_gives_24 ?_
        refine lv_iadd hx hb dX7_gives_25 ?_
        exact hret _ _ _ _ _ _ hP hS hw dX7_gives_26
      · replace hw := And.right hw hc
        refine lv_aload_n hx hb dX7_gives_8 rfl (lv_at hl 2 rfl) ?_
        refine lv_iload_n hx hb dX7_gives_9 rfl (lv_at hl 3 rfl) ?_
        refine lv_aload_n hx hb dX7_gives_10 rfl (lv_at hl 0 rfl) ?_
        refine lv_iload_n hx hb dX7_gives_11 rfl (lv_at hl 1 rfl) ?_
        refine lv_iload_n hx hb dX7_gives_12 rfl (lv_at hl 3 rfl) ?_
        refine lv_iadd hx hb dX7_gives_13 ?_
        obtain ⟨hi, hw⟩ := hw
        refine va_iald hx hb hK hP 16 0 wM_16 rfl hi dX7_gives_14 ?_
        obtain ⟨hi, hw⟩ := hw
        refine x_iast (ws2 := wM h cI cJ (xu S 6 v3.toNatClampNeg (S 16 (v1 + v3).toNatClampNeg)) L) hx hb hK hP (hD _ _) hS 6 0 wM_6 rfl hi dX7_gives_15 (wM_u6 _ _) (fun H locs hP hS => ?_)
        refine lv_iinc (v := v3 + (1 : Int32)) (lv' := [(3, .int (v3 + (1 : Int32))), (0, .ref (h 16)), (1, .int v1), (2, .ref (h 6))]) hx hb dX7_gives_16 hl (k := 3) rfl rfl (by decide) rfl (fun ls hl => ?_)
        refine lv_goto (tgt := 2) hx hb dX7_gives_19 (by decide) ?_
        exact i2 (v3 + (1 : Int32)) (xu S 6 v3.toNatClampNeg (S 16 (v1 + v3).toNatClampNeg)) _ _ _ (lv_sub hl [1, 2, 3, 0] rfl) hP hS hw
  unfold kX7_gives_6 at hw
  refine lv_iconst (v := (0 : Int32)) hx hb dX7_gives_0 (by decide) ?_
  refine lv_istore_n (lv' := [(3, .int (0 : Int32)), (0, .ref (h 16)), (1, .int v1), (2, .ref (h 6))]) hx hb dX7_gives_1 rfl hl (by decide) rfl (fun ls hl => ?_)
  obtain ⟨n2, hw⟩ := hw
  exact b2  n2 (0 : Int32) S _ _ _ (lv_sub hl [1, 2, 3, 0] rfl) hP hS hw
abbrev rX7_gives_7 : Room := { frames := 0, cells := 0, slots := 0, locals := 0 }
set_option maxHeartbeats 4000000 in
set_option maxRecDepth 100000 in
theorem mX7_gives_7 (l : Launch) (D : va_G) (h : Nat → Nat) (cI cJ : ClassId) (hh : xdis 22 h) (S : SX) (L : LX) (v1 : Int32) (post : Int32 → SX → Prop) (hw : kX7_gives_7 S L v1 post) : Met l yX7_gives wsX7_gives rX7_gives_7 (xPre D (wM h cI cJ) (mE D cI cJ) S L [.ref (h 16), .int v1, .ref (h 7)]) (va_Qi (fun (r : Int32) (u : SX × LX) => post r u.1 ∧ u.2 = L) (xB D (wM h cI cJ)) (xA 22 h)) 0 0 (xA 22 h) := by
  refine Met.ofW (cc := cX7_gives) (maxL := 4) (ret := (some .int)) (by decide) rfl ?_
  intro p e s m args below meth c s₁ B hml hv
  obtain ⟨hargs, hP, hE⟩ := hv
  have hx := B.exec
  have hb := B.bytes
  have hr := B.returns
  have hlocks := B.notSynchronized
  have hts := atoms_spec (ws := wsX7_gives) B.pre
  have hown : s.vm.findClass RX7 = some m.cls := findClass_of_methodNamed B.named
  have hS : va_S (xA 22 h) s.heap s.heap [] := va_S.rf
  have hD : ∀ (S : SX) (L : LX), va_D (xA 22 h) (wM h cI cJ S L) := fun S L => wM_D hh cI cJ S L
  have hK := id hE
  have hst : xSt (xA 22 h) (mE D cI cJ) := mE_st D _ cI cJ
  skip
  have hl := lv_entry ([.ref (h 16), .int v1, .ref (h 7)]) (n := 4) (Nat.le_of_ble_eq_true rfl)
  have hen : entryFrame m args 4 = F0 m 0 ((lg_sl ([.ref (h 16), .int v1, .ref (h 7)]) ++ List.replicate (4 - (lg_sl ([.ref (h 16), .int v1, .ref (h 7)])).length) Slot.unset).toArray) [] := by rw [hargs]; exact lg_entry_eq m _ _
  rw [hen]
  generalize (lg_sl ([.ref (h 16), .int v1, .ref (h 7)]) ++ List.replicate (4 - (lg_sl ([.ref (h 16), .int v1, .ref (h 7)])).length) Slot.unset).toArray = ls at hl ⊢
  have hl : lv_has ls 4 [(0, .ref (h 16)), (1, .int v1), (2, .ref (h 7))] := hl
  change W p l e rX7_gives_7 s m args below meth c s.heap [] 0 0 (MQ below (va_Qi (fun (r : Int32) (u : SX × LX) => post r u.1 ∧ u.2 = L) (xB D (wM h cI cJ)) (xA 22 h)) args s 0 0 (xA 22 h)) (F0 m 0 ls [])
  have hret : ∀ (r : Int32) (S1 : SX) (H : Heap) (locs : List Loc) (ls : Array Slot) (pc : Nat), va_P D vwCl (wM h cI cJ S1 L) H → va_S (xA 22 h) s.heap H locs → post r S1 → decode cX7_gives pc = .ok (.ireturn, 1) → W p l e rX7_gives_7 s m args below meth c H locs 0 0 (MQ below (va_Qi (fun (r : Int32) (u : SX × LX) => post r u.1 ∧ u.2 = L) (xB D (wM h cI cJ)) (xA 22 h)) args s 0 0 (xA 22 h)) (F0 m pc ls [.int r]) := fun r S1 H locs ls pc hP hS hw hd => W.iret hx hb hr (fun t ht hW => ⟨⟨r, (S1, L), rfl, ⟨hw, rfl⟩, show va_P D vwCl (wM h cI cJ S1 L) t.heap by rw [ht]; exact hP⟩, hS.F ht⟩) hS.2.2 hd
  generalize MQ below (va_Qi (fun (r : Int32) (u : SX × LX) => post r u.1 ∧ u.2 = L) (xB D (wM h cI cJ)) (xA 22 h)) args s 0 0 (xA 22 h) = Q at hret ⊢
  have b2 : ∀  (n2 : Nat) (v3 : Int32) (S : SX) (H : Heap) (locs : List Loc) (ls : Array Slot), lv_has ls 4 [(0, .ref (h 16)), (1, .int v1), (2, .ref (h 7)), (3, .int v3)] → va_P D vwCl (wM h cI cJ S L) H → va_S (xA 22 h) s.heap H locs → kX7_gives_7_b2 L v1 post n2 v3 S → W p l e rX7_gives_7 s m args below meth c H locs 0 0 Q (F0 m 2 ls []) := by
    intro n2
    induction n2 with
    | zero => intro v3 S H locs ls hl hP hS hw; exact absurd hw id
    | succ n2 i2 =>
      intro v3 S H locs ls hl hP hS hw
      unfold kX7_gives_7_b2 at hw
      refine lv_iload_n hx hb dX7_gives_2 rfl (lv_at hl 3 rfl) ?_
      refine lv_aload_n hx hb dX7_gives_3 rfl (lv_at hl 2 rfl) ?_
      refine va_alen (v := (8 : Int32)) hx hb hK hP 7 0 wM_7 rfl rfl dX7_gives_4 ?_
      refine lv_icmp_ge (tgt := 22) hx hb dX7_gives_5 (by decide) (fun hc => ?_) (fun hc => ?_)
      · replace hw := And.left hw hc
        refine lv_iload_n hx hb dX7_gives_22 rfl (lv_at hl 1 rfl) ?_
        refine lv_aload_n hx hb dX7_gives_23 rfl (lv_at hl 2 rfl) ?_
        refine va_alen (v := (8 : Int32)) hx hb hK hP 7 0 wM_7 rfl rfl dX7_gives_24 ?_
        refine lv_iadd hx hb dX7_gives_25 ?_
        exact hret _ _ _ _ _ _ hP hS hw dX7_gives_26
      · replace hw := And.right hw hc
        refine lv_aload_n hx hb dX7_gives_8 rfl (lv_at hl 2 rfl) ?_
        refine lv_iload_n hx hb dX7_gives_9 rfl (lv_at hl 3 rfl) ?_
        refine lv_aload_n hx hb dX7_gives_10 rfl (lv_at hl 0 rfl) ?_
        refine lv_iload_n hx hb dX7_gives_11 rfl (lv_at hl 1 rfl) ?_
        refine lv_iload_n hx hb dX7_gives_12 rfl (lv_at hl 3 rfl) ?_
        refine lv_iadd hx hb dX7_gives_13 ?_
        obtain ⟨hi, hw⟩ := hw
        refine va_iald hx hb hK hP 16 0 wM_16 rfl hi dX7_gives_14 ?_
        obtain ⟨hi, hw⟩ := hw
        refine x_iast (ws2 := wM h cI cJ (xu S 7 v3.toNatClampNeg (S 16 (v1 + v3).toNatClampNeg)) L) hx hb hK hP (hD _ _) hS 7 0 wM_7 rfl hi dX7_gives_15 (wM_u7 _ _) (fun H locs hP hS => ?_)
        refine lv_iinc (v := v3 + (1 : Int32)) (lv' := [(3, .int (v3 + (1 : Int32))), (0, .ref (h 16)), (1, .int v1), (2, .ref (h 7))]) hx hb dX7_gives_16 hl (k := 3) rfl rfl (by decide) rfl (fun ls hl => ?_)
        refine lv_goto (tgt := 2) hx hb dX7_gives_19 (by decide) ?_
        exact i2 (v3 + (1 : Int32)) (xu S 7 v3.toNatClampNeg (S 16 (v1 + v3).toNatClampNeg)) _ _ _ (lv_sub hl [1, 2, 3, 0] rfl) hP hS hw
  unfold kX7_gives_7 at hw
  refine lv_iconst (v := (0 : Int32)) hx hb dX7_gives_0 (by decide) ?_
  refine lv_istore_n (lv' := [(3, .int (0 : Int32)), (0, .ref (h 16)), (1, .int v1), (2, .ref (h 7))]) hx hb dX7_gives_1 rfl hl (by decide) rfl (fun ls hl => ?_)
  obtain ⟨n2, hw⟩ := hw
  exact b2  n2 (0 : Int32) S _ _ _ (lv_sub hl [1, 2, 3, 0] rfl) hP hS hw
abbrev rX7_gives_8 : Room := { frames := 0, cells := 0, slots := 0, locals := 0 }
set_option maxHeartbeats 4000000 in
set_option maxRecDepth 100000 in
theorem mX7_gives_8 (l : Launch) (D : va_G) (h : Nat → Nat) (cI cJ : ClassId) (hh : xdis 22 h) (S : SX) (L : LX) (v1 : Int32) (post : Int32 → SX → Prop) (hw : kX7_gives_8 S L v1 post) : Met l yX7_gives wsX7_gives rX7_gives_8 (xPre D (wM h cI cJ) (mE D cI cJ) S L [.ref (h 16), .int v1, .ref (h 8)]) (va_Qi (fun (r : Int32) (u : SX × LX) => post r u.1 ∧ u.2 = L) (xB D (wM h cI cJ)) (xA 22 h)) 0 0 (xA 22 h) := by
  refine Met.ofW (cc := cX7_gives) (maxL := 4) (ret := (some .int)) (by decide) rfl ?_
  intro p e s m args below meth c s₁ B hml hv
  obtain ⟨hargs, hP, hE⟩ := hv
  have hx := B.exec
  have hb := B.bytes
  have hr := B.returns
  have hlocks := B.notSynchronized
  have hts := atoms_spec (ws := wsX7_gives) B.pre
  have hown : s.vm.findClass RX7 = some m.cls := findClass_of_methodNamed B.named
  have hS : va_S (xA 22 h) s.heap s.heap [] := va_S.rf
  have hD : ∀ (S : SX) (L : LX), va_D (xA 22 h) (wM h cI cJ S L) := fun S L => wM_D hh cI cJ S L
  have hK := id hE
  have hst : xSt (xA 22 h) (mE D cI cJ) := mE_st D _ cI cJ
  skip
  have hl := lv_entry ([.ref (h 16), .int v1, .ref (h 8)]) (n := 4) (Nat.le_of_ble_eq_true rfl)
  have hen : entryFrame m args 4 = F0 m 0 ((lg_sl ([.ref (h 16), .int v1, .ref (h 8)]) ++ List.replicate (4 - (lg_sl ([.ref (h 16), .int v1, .ref (h 8)])).length) Slot.unset).toArray) [] := by rw [hargs]; exact lg_entry_eq m _ _
  rw [hen]
  generalize (lg_sl ([.ref (h 16), .int v1, .ref (h 8)]) ++ List.replicate (4 - (lg_sl ([.ref (h 16), .int v1, .ref (h 8)])).length) Slot.unset).toArray = ls at hl ⊢
  have hl : lv_has ls 4 [(0, .ref (h 16)), (1, .int v1), (2, .ref (h 8))] := hl
  change W p l e rX7_gives_8 s m args below meth c s.heap [] 0 0 (MQ below (va_Qi (fun (r : Int32) (u : SX × LX) => post r u.1 ∧ u.2 = L) (xB D (wM h cI cJ)) (xA 22 h)) args s 0 0 (xA 22 h)) (F0 m 0 ls [])
  have hret : ∀ (r : Int32) (S1 : SX) (H : Heap) (locs : List Loc) (ls : Array Slot) (pc : Nat), va_P D vwCl (wM h cI cJ S1 L) H → va_S (xA 22 h) s.heap H locs → post r S1 → decode cX7_gives pc = .ok (.ireturn, 1) → W p l e rX7_gives_8 s m args below meth c H locs 0 0 (MQ below (va_Qi (fun (r : Int32) (u : SX × LX) => post r u.1 ∧ u.2 = L) (xB D (wM h cI cJ)) (xA 22 h)) args s 0 0 (xA 22 h)) (F0 m pc ls [.int r]) := fun r S1 H locs ls pc hP hS hw hd => W.iret hx hb hr (fun t ht hW => ⟨⟨r, (S1, L), rfl, ⟨hw, rfl⟩, show va_P D vwCl (wM h cI cJ S1 L) t.heap by rw [ht]; exact hP⟩, hS.F ht⟩) hS.2.2 hd
  generalize MQ below (va_Qi (fun (r : Int32) (u : SX × LX) => post r u.1 ∧ u.2 = L) (xB D (wM h cI cJ)) (xA 22 h)) args s 0 0 (xA 22 h) = Q at hret ⊢
  have b2 : ∀  (n2 : Nat) (v3 : Int32) (S : SX) (H : Heap) (locs : List Loc) (ls : Array Slot), lv_has ls 4 [(0, .ref (h 16)), (1, .int v1), (2, .ref (h 8)), (3, .int v3)] → va_P D vwCl (wM h cI cJ S L) H → va_S (xA 22 h) s.heap H locs → kX7_gives_8_b2 L v1 post n2 v3 S → W p l e rX7_gives_8 s m args below meth c H locs 0 0 Q (F0 m 2 ls []) := by
    intro n2
    induction n2 with
    | zero => intro v3 S H locs ls hl hP hS hw; exact absurd hw id
    | succ n2 i2 =>
      intro v3 S H locs ls hl hP hS hw
      unfold kX7_gives_8_b2 at hw
      refine lv_iload_n hx hb dX7_gives_2 rfl (lv_at hl 3 rfl) ?_
      refine lv_aload_n hx hb dX7_gives_3 rfl (lv_at hl 2 rfl) ?_
      refine va_alen (v := (8 : Int32)) hx hb hK hP 8 0 wM_8 rfl rfl dX7_gives_4 ?_
      refine lv_icmp_ge (tgt := 22) hx hb dX7_gives_5 (by decide) (fun hc => ?_) (fun hc => ?_)
      · replace hw := And.left hw hc
        refine lv_iload_n hx hb dX7_gives_22 rfl (lv_at hl 1 rfl) ?_
        refine lv_aload_n hx hb dX7_gives_23 rfl (lv_at hl 2 rfl) ?_
        refine va_alen (v := (8 : Int32)) hx hb hK hP 8 0 wM_8 rfl rfl dX7_gives_24 ?_
        refine lv_iadd hx hb dX7_gives_25 ?_
        exact hret _ _ _ _ _ _ hP hS hw dX7_gives_26
      · replace hw := And.right hw hc
        refine lv_aload_n hx hb dX7_gives_8 rfl (lv_at hl 2 rfl) ?_
        refine lv_iload_n hx hb dX7_gives_9 rfl (lv_at hl 3 rfl) ?_
        refine lv_aload_n hx hb dX7_gives_10 rfl (lv_at hl 0 rfl) ?_
        refine lv_iload_n hx hb dX7_gives_11 rfl (lv_at hl 1 rfl) ?_
        refine lv_iload_n hx hb dX7_gives_12 rfl (lv_at hl 3 rfl) ?_
        refine lv_iadd hx hb dX7_gives_13 ?_
        obtain ⟨hi, hw⟩ := hw
        refine va_iald hx hb hK hP 16 0 wM_16 rfl hi dX7_gives_14 ?_
        obtain ⟨hi, hw⟩ := hw
        refine x_iast (ws2 := wM h cI cJ (xu S 8 v3.toNatClampNeg (S 16 (v1 + v3).toNatClampNeg)) L) hx hb hK hP (hD _ _) hS 8 0 wM_8 rfl hi dX7_gives_15 (wM_u8 _ _) (fun H locs hP hS => ?_)
        refine lv_iinc (v := v3 + (1 : Int32)) (lv' := [(3, .int (v3 + (1 : Int32))), (0, .ref (h 16)), (1, .int v1), (2, .ref (h 8))]) hx hb dX7_gives_16 hl (k := 3) rfl rfl (by decide) rfl (fun ls hl => ?_)
        refine lv_goto (tgt := 2) hx hb dX7_gives_19 (by decide) ?_
        exact i2 (v3 + (1 : Int32)) (xu S 8 v3.toNatClampNeg (S 16 (v1 + v3).toNatClampNeg)) _ _ _ (lv_sub hl [1, 2, 3, 0] rfl) hP hS hw
  unfold kX7_gives_8 at hw
  refine lv_iconst (v := (0 : Int32)) hx hb dX7_gives_0 (by decide) ?_
  refine lv_istore_n (lv' := [(3, .int (0 : Int32)), (0, .ref (h 16)), (1, .int v1), (2, .ref (h 8))]) hx hb dX7_gives_1 rfl hl (by decide) rfl (fun ls hl => ?_)
  obtain ⟨n2, hw⟩ := hw
  exact b2  n2 (0 : Int32) S _ _ _ (lv_sub hl [1, 2, 3, 0] rfl) hP hS hw
abbrev rX7_gives_9 : Room := { frames := 0, cells := 0, slots := 0, locals := 0 }
set_option maxHeartbeats 4000000 in
set_option maxRecDepth 100000 in
theorem mX7_gives_9 (l : Launch) (D : va_G) (h : Nat → Nat) (cI cJ : ClassId) (hh : xdis 22 h) (S : SX) (L : LX) (v1 : Int32) (post : Int32 → SX → Prop) (hw : kX7_gives_9 S L v1 post) : Met l yX7_gives wsX7_gives rX7_gives_9 (xPre D (wM h cI cJ) (mE D cI cJ) S L [.ref (h 16), .int v1, .ref (h 9)]) (va_Qi (fun (r : Int32) (u : SX × LX) => post r u.1 ∧ u.2 = L) (xB D (wM h cI cJ)) (xA 22 h)) 0 0 (xA 22 h) := by
  refine Met.ofW (cc := cX7_gives) (maxL := 4) (ret := (some .int)) (by decide) rfl ?_
  intro p e s m args below meth c s₁ B hml hv
  obtain ⟨hargs, hP, hE⟩ := hv
  have hx := B.exec
  have hb := B.bytes
  have hr := B.returns
  have hlocks := B.notSynchronized
  have hts := atoms_spec (ws := wsX7_gives) B.pre
  have hown : s.vm.findClass RX7 = some m.cls := findClass_of_methodNamed B.named
  have hS : va_S (xA 22 h) s.heap s.heap [] := va_S.rf
  have hD : ∀ (S : SX) (L : LX), va_D (xA 22 h) (wM h cI cJ S L) := fun S L => wM_D hh cI cJ S L
  have hK := id hE
  have hst : xSt (xA 22 h) (mE D cI cJ) := mE_st D _ cI cJ
  skip
  have hl := lv_entry ([.ref (h 16), .int v1, .ref (h 9)]) (n := 4) (Nat.le_of_ble_eq_true rfl)
  have hen : entryFrame m args 4 = F0 m 0 ((lg_sl ([.ref (h 16), .int v1, .ref (h 9)]) ++ List.replicate (4 - (lg_sl ([.ref (h 16), .int v1, .ref (h 9)])).length) Slot.unset).toArray) [] := by rw [hargs]; exact lg_entry_eq m _ _
  rw [hen]
  generalize (lg_sl ([.ref (h 16), .int v1, .ref (h 9)]) ++ List.replicate (4 - (lg_sl ([.ref (h 16), .int v1, .ref (h 9)])).length) Slot.unset).toArray = ls at hl ⊢
  have hl : lv_has ls 4 [(0, .ref (h 16)), (1, .int v1), (2, .ref (h 9))] := hl
  change W p l e rX7_gives_9 s m args below meth c s.heap [] 0 0 (MQ below (va_Qi (fun (r : Int32) (u : SX × LX) => post r u.1 ∧ u.2 = L) (xB D (wM h cI cJ)) (xA 22 h)) args s 0 0 (xA 22 h)) (F0 m 0 ls [])
  have hret : ∀ (r : Int32) (S1 : SX) (H : Heap) (locs : List Loc) (ls : Array Slot) (pc : Nat), va_P D vwCl (wM h cI cJ S1 L) H → va_S (xA 22 h) s.heap H locs → post r S1 → decode cX7_gives pc = .ok (.ireturn, 1) → W p l e rX7_gives_9 s m args below meth c H locs 0 0 (MQ below (va_Qi (fun (r : Int32) (u : SX × LX) => post r u.1 ∧ u.2 = L) (xB D (wM h cI cJ)) (xA 22 h)) args s 0 0 (xA 22 h)) (F0 m pc ls [.int r]) := fun r S1 H locs ls pc hP hS hw hd => W.iret hx hb hr (fun t ht hW => ⟨⟨r, (S1, L), rfl, ⟨hw, rfl⟩, show va_P D vwCl (wM h cI cJ S1 L) t.heap by rw [ht]; exact hP⟩, hS.F ht⟩) hS.2.2 hd
  generalize MQ below (va_Qi (fun (r : Int32) (u : SX × LX) => post r u.1 ∧ u.2 = L) (xB D (wM h cI cJ)) (xA 22 h)) args s 0 0 (xA 22 h) = Q at hret ⊢
  have b2 : ∀  (n2 : Nat) (v3 : Int32) (S : SX) (H : Heap) (locs : List Loc) (ls : Array Slot), lv_has ls 4 [(0, .ref (h 16)), (1, .int v1), (2, .ref (h 9)), (3, .int v3)] → va_P D vwCl (wM h cI cJ S L) H → va_S (xA 22 h) s.heap H locs → kX7_gives_9_b2 L v1 post n2 v3 S → W p l e rX7_gives_9 s m args below meth c H locs 0 0 Q (F0 m 2 ls []) := by
    intro n2
    induction n2 with
    | zero => intro v3 S H locs ls hl hP hS hw; exact absurd hw id
    | succ n2 i2 =>
      intro v3 S H locs ls hl hP hS hw
      unfold kX7_gives_9_b2 at hw
      refine lv_iload_n hx hb dX7_gives_2 rfl (lv_at hl 3 rfl) ?_
      refine lv_aload_n hx hb dX7_gives_3 rfl (lv_at hl 2 rfl) ?_
      refine va_alen (v := (8 : Int32)) hx hb hK hP 9 0 wM_9 rfl rfl dX7_gives_4 ?_
      refine lv_icmp_ge (tgt := 22) hx hb dX7_gives_5 (by decide) (fun hc => ?_) (fun hc => ?_)
      · replace hw := And.left hw hc
        refine lv_iload_n hx hb dX7_gives_22 rfl (lv_at hl 1 rfl) ?_
        refine lv_aload_n hx hb dX7_gives_23 rfl (lv_at hl 2 rfl) ?_
        refine va_alen (v := (8 : Int32)) hx hb hK hP 9 0 wM_9 rfl rfl dX7_gives_24 ?_
        refine lv_iadd hx hb dX7_gives_25 ?_
        exact hret _ _ _ _ _ _ hP hS hw dX7_gives_26
      · replace hw := And.right hw hc
        refine lv_aload_n hx hb dX7_gives_8 rfl (lv_at hl 2 rfl) ?_
        refine lv_iload_n hx hb dX7_gives_9 rfl (lv_at hl 3 rfl) ?_
        refine lv_aload_n hx hb dX7_gives_10 rfl (lv_at hl 0 rfl) ?_
        refine lv_iload_n hx hb dX7_gives_11 rfl (lv_at hl 1 rfl) ?_
        refine lv_iload_n hx hb dX7_gives_12 rfl (lv_at hl 3 rfl) ?_
        refine lv_iadd hx hb dX7_gives_13 ?_
        obtain ⟨hi, hw⟩ := hw
        refine va_iald hx hb hK hP 16 0 wM_16 rfl hi dX7_gives_14 ?_
        obtain ⟨hi, hw⟩ := hw
        refine x_iast (ws2 := wM h cI cJ (xu S 9 v3.toNatClampNeg (S 16 (v1 + v3).toNatClampNeg)) L) hx hb hK hP (hD _ _) hS 9 0 wM_9 rfl hi dX7_gives_15 (wM_u9 _ _) (fun H locs hP hS => ?_)
        refine lv_iinc (v := v3 + (1 : Int32)) (lv' := [(3, .int (v3 + (1 : Int32))), (0, .ref (h 16)), (1, .int v1), (2, .ref (h 9))]) hx hb dX7_gives_16 hl (k := 3) rfl rfl (by decide) rfl (fun ls hl => ?_)
        refine lv_goto (tgt := 2) hx hb dX7_gives_19 (by decide) ?_
        exact i2 (v3 + (1 : Int32)) (xu S 9 v3.toNatClampNeg (S 16 (v1 + v3).toNatClampNeg)) _ _ _ (lv_sub hl [1, 2, 3, 0] rfl) hP hS hw
  unfold kX7_gives_9 at hw
  refine lv_iconst (v := (0 : Int32)) hx hb dX7_gives_0 (by decide) ?_
  refine lv_istore_n (lv' := [(3, .int (0 : Int32)), (0, .ref (h 16)), (1, .int v1), (2, .ref (h 9))]) hx hb dX7_gives_1 rfl hl (by decide) rfl (fun ls hl => ?_)
  obtain ⟨n2, hw⟩ := hw
  exact b2  n2 (0 : Int32) S _ _ _ (lv_sub hl [1, 2, 3, 0] rfl) hP hS hw
abbrev rX7_gives_10 : Room := { frames := 0, cells := 0, slots := 0, locals := 0 }
set_option maxHeartbeats 4000000 in
set_option maxRecDepth 100000 in
theorem mX7_gives_10 (l : Launch) (D : va_G) (h : Nat → Nat) (cI cJ : ClassId) (hh : xdis 22 h) (S : SX) (L : LX) (v1 : Int32) (post : Int32 → SX → Prop) (hw : kX7_gives_10 S L v1 post) : Met l yX7_gives wsX7_gives rX7_gives_10 (xPre D (wM h cI cJ) (mE D cI cJ) S L [.ref (h 16), .int v1, .ref (h 10)]) (va_Qi (fun (r : Int32) (u : SX × LX) => post r u.1 ∧ u.2 = L) (xB D (wM h cI cJ)) (xA 22 h)) 0 0 (xA 22 h) := by
  refine Met.ofW (cc := cX7_gives) (maxL := 4) (ret := (some .int)) (by decide) rfl ?_
  intro p e s m args below meth c s₁ B hml hv
  obtain ⟨hargs, hP, hE⟩ := hv
  have hx := B.exec
  have hb := B.bytes
  have hr := B.returns
  have hlocks := B.notSynchronized
  have hts := atoms_spec (ws := wsX7_gives) B.pre
  have hown : s.vm.findClass RX7 = some m.cls := findClass_of_methodNamed B.named
  have hS : va_S (xA 22 h) s.heap s.heap [] := va_S.rf
  have hD : ∀ (S : SX) (L : LX), va_D (xA 22 h) (wM h cI cJ S L) := fun S L => wM_D hh cI cJ S L
  have hK := id hE
  have hst : xSt (xA 22 h) (mE D cI cJ) := mE_st D _ cI cJ
  skip
  have hl := lv_entry ([.ref (h 16), .int v1, .ref (h 10)]) (n := 4) (Nat.le_of_ble_eq_true rfl)
  have hen : entryFrame m args 4 = F0 m 0 ((lg_sl ([.ref (h 16), .int v1, .ref (h 10)]) ++ List.replicate (4 - (lg_sl ([.ref (h 16), .int v1, .ref (h 10)])).length) Slot.unset).toArray) [] := by rw [hargs]; exact lg_entry_eq m _ _
  rw [hen]
  generalize (lg_sl ([.ref (h 16), .int v1, .ref (h 10)]) ++ List.replicate (4 - (lg_sl ([.ref (h 16), .int v1, .ref (h 10)])).length) Slot.unset).toArray = ls at hl ⊢
  have hl : lv_has ls 4 [(0, .ref (h 16)), (1, .int v1), (2, .ref (h 10))] := hl
  change W p l e rX7_gives_10 s m args below meth c s.heap [] 0 0 (MQ below (va_Qi (fun (r : Int32) (u : SX × LX) => post r u.1 ∧ u.2 = L) (xB D (wM h cI cJ)) (xA 22 h)) args s 0 0 (xA 22 h)) (F0 m 0 ls [])
  have hret : ∀ (r : Int32) (S1 : SX) (H : Heap) (locs : List Loc) (ls : Array Slot) (pc : Nat), va_P D vwCl (wM h cI cJ S1 L) H → va_S (xA 22 h) s.heap H locs → post r S1 → decode cX7_gives pc = .ok (.ireturn, 1) → W p l e rX7_gives_10 s m args below meth c H locs 0 0 (MQ below (va_Qi (fun (r : Int32) (u : SX × LX) => post r u.1 ∧ u.2 = L) (xB D (wM h cI cJ)) (xA 22 h)) args s 0 0 (xA 22 h)) (F0 m pc ls [.int r]) := fun r S1 H locs ls pc hP hS hw hd => W.iret hx hb hr (fun t ht hW => ⟨⟨r, (S1, L), rfl, ⟨hw, rfl⟩, show va_P D vwCl (wM h cI cJ S1 L) t.heap by rw [ht]; exact hP⟩, hS.F ht⟩) hS.2.2 hd
  generalize MQ below (va_Qi (fun (r : Int32) (u : SX × LX) => post r u.1 ∧ u.2 = L) (xB D (wM h cI cJ)) (xA 22 h)) args s 0 0 (xA 22 h) = Q at hret ⊢
  have b2 : ∀  (n2 : Nat) (v3 : Int32) (S : SX) (H : Heap) (locs : List Loc) (ls : Array Slot), lv_has ls 4 [(0, .ref (h 16)), (1, .int v1), (2, .ref (h 10)), (3, .int v3)] → va_P D vwCl (wM h cI cJ S L) H → va_S (xA 22 h) s.heap H locs → kX7_gives_10_b2 L v1 post n2 v3 S → W p l e rX7_gives_10 s m args below meth c H locs 0 0 Q (F0 m 2 ls []) := by
    intro n2
    induction n2 with
    | zero => intro v3 S H locs ls hl hP hS hw; exact absurd hw id
    | succ n2 i2 =>
      intro v3 S H locs ls hl hP hS hw
      unfold kX7_gives_10_b2 at hw
      refine lv_iload_n hx hb dX7_gives_2 rfl (lv_at hl 3 rfl) ?_
      refine lv_aload_n hx hb dX7_gives_3 rfl (lv_at hl 2 rfl) ?_
      refine va_alen (v := (8 : Int32)) hx hb hK hP 10 0 wM_10 rfl rfl dX7_gives_4 ?_
      refine lv_icmp_ge (tgt := 22) hx hb dX7_gives_5 (by decide) (fun hc => ?_) (fun hc => ?_)
      · replace hw := And.left hw hc
        refine lv_iload_n hx hb dX7_gives_22 rfl (lv_at hl 1 rfl) ?_
        refine lv_aload_n hx hb dX7_gives_23 rfl (lv_at hl 2 rfl) ?_
        refine va_alen (v := (8 : Int32)) hx hb hK hP 10 0 wM_10 rfl rfl dX7_gives_24 ?_
        refine lv_iadd hx hb dX7_gives_25 ?_
        exact hret _ _ _ _ _ _ hP hS hw dX7_gives_26
      · replace hw := And.right hw hc
        refine lv_aload_n hx hb dX7_gives_8 rfl (lv_at hl 2 rfl) ?_
        refine lv_iload_n hx hb dX7_gives_9 rfl (lv_at hl 3 rfl) ?_
        refine lv_aload_n hx hb dX7_gives_10 rfl (lv_at hl 0 rfl) ?_
        refine lv_iload_n hx hb dX7_gives_11 rfl (lv_at hl 1 rfl) ?_
        refine lv_iload_n hx hb dX7_gives_12 rfl (lv_at hl 3 rfl) ?_
        refine lv_iadd hx hb dX7_gives_13 ?_
        obtain ⟨hi, hw⟩ := hw
        refine va_iald hx hb hK hP 16 0 wM_16 rfl hi dX7_gives_14 ?_
        obtain ⟨hi, hw⟩ := hw
        refine x_iast (ws2 := wM h cI cJ (xu S 10 v3.toNatClampNeg (S 16 (v1 + v3).toNatClampNeg)) L) hx hb hK hP (hD _ _) hS 10 0 wM_10 rfl hi dX7_gives_15 (wM_u10 _ _) (fun H locs hP hS => ?_)
        refine lv_iinc (v := v3 + (1 : Int32)) (lv' := [(3, .int (v3 + (1 : Int32))), (0, .ref (h 16)), (1, .int v1), (2, .ref (h 10))]) hx hb dX7_gives_16 hl (k := 3) rfl rfl (by decide) rfl (fun ls hl => ?_)
        refine lv_goto (tgt := 2) hx hb dX7_gives_19 (by decide) ?_
        exact i2 (v3 + (1 : Int32)) (xu S 10 v3.toNatClampNeg (S 16 (v1 + v3).toNatClampNeg)) _ _ _ (lv_sub hl [1, 2, 3, 0] rfl) hP hS hw
  unfold kX7_gives_10 at hw
  refine lv_iconst (v := (0 : Int32)) hx hb dX7_gives_0 (by decide) ?_
  refine lv_istore_n (lv' := [(3, .int (0 : Int32)), (0, .ref (h 16)), (1, .int v1), (2, .ref (h 10))]) hx hb dX7_gives_1 rfl hl (by decide) rfl (fun ls hl => ?_)
  obtain ⟨n2, hw⟩ := hw
  exact b2  n2 (0 : Int32) S _ _ _ (lv_sub hl [1, 2, 3, 0] rfl) hP hS hw
abbrev rX7_gives_11 : Room := { frames := 0, cells := 0, slots := 0, locals := 0 }
set_option maxHeartbeats 4000000 in
set_option maxRecDepth 100000 in
theorem mX7_gives_11 (l : Launch) (D : va_G) (h : Nat → Nat) (cI cJ : ClassId) (hh : xdis 22 h) (S : SX) (L : LX) (v1 : Int32) (post : Int32 → SX → Prop) (hw : kX7_gives_11 S L v1 post) : Met l yX7_gives wsX7_gives rX7_gives_11 (xPre D (wM h cI cJ) (mE D cI cJ) S L [.ref (h 16), .int v1, .ref (h 11)]) (va_Qi (fun (r : Int32) (u : SX × LX) => post r u.1 ∧ u.2 = L) (xB D (wM h cI cJ)) (xA 22 h)) 0 0 (xA 22 h) := by
  refine Met.ofW (cc := cX7_gives) (maxL := 4) (ret := (some .int)) (by decide) rfl ?_
  intro p e s m args below meth c s₁ B hml hv
  obtain ⟨hargs, hP, hE⟩ := hv
  have hx := B.exec
  have hb := B.bytes
  have hr := B.returns
  have hlocks := B.notSynchronized
  have hts := atoms_spec (ws := wsX7_gives) B.pre
  have hown : s.vm.findClass RX7 = some m.cls := findClass_of_methodNamed B.named
  have hS : va_S (xA 22 h) s.heap s.heap [] := va_S.rf
  have hD : ∀ (S : SX) (L : LX), va_D (xA 22 h) (wM h cI cJ S L) := fun S L => wM_D hh cI cJ S L
  have hK := id hE
  have hst : xSt (xA 22 h) (mE D cI cJ) := mE_st D _ cI cJ
  skip
  have hl := lv_entry ([.ref (h 16), .int v1, .ref (h 11)]) (n := 4) (Nat.le_of_ble_eq_true rfl)
  have hen : entryFrame m args 4 = F0 m 0 ((lg_sl ([.ref (h 16), .int v1, .ref (h 11)]) ++ List.replicate (4 - (lg_sl ([.ref (h 16), .int v1, .ref (h 11)])).length) Slot.unset).toArray) [] := by rw [hargs]; exact lg_entry_eq m _ _
  rw [hen]
  generalize (lg_sl ([.ref (h 16), .int v1, .ref (h 11)]) ++ List.replicate (4 - (lg_sl ([.ref (h 16), .int v1, .ref (h 11)])).length) Slot.unset).toArray = ls at hl ⊢
  have hl : lv_has ls 4 [(0, .ref (h 16)), (1, .int v1), (2, .ref (h 11))] := hl
  change W p l e rX7_gives_11 s m args below meth c s.heap [] 0 0 (MQ below (va_Qi (fun (r : Int32) (u : SX × LX) => post r u.1 ∧ u.2 = L) (xB D (wM h cI cJ)) (xA 22 h)) args s 0 0 (xA 22 h)) (F0 m 0 ls [])
  have hret : ∀ (r : Int32) (S1 : SX) (H : Heap) (locs : List Loc) (ls : Array Slot) (pc : Nat), va_P D vwCl (wM h cI cJ S1 L) H → va_S (xA 22 h) s.heap H locs → post r S1 → decode cX7_gives pc = .ok (.ireturn, 1) → W p l e rX7_gives_11 s m args below meth c H locs 0 0 (MQ below (va_Qi (fun (r : Int32) (u : SX × LX) => post r u.1 ∧ u.2 = L) (xB D (wM h cI cJ)) (xA 22 h)) args s 0 0 (xA 22 h)) (F0 m pc ls [.int r]) := fun r S1 H locs ls pc hP hS hw hd => W.iret hx hb hr (fun t ht hW => ⟨⟨r, (S1, L), rfl, ⟨hw, rfl⟩, show va_P D vwCl (wM h cI cJ S1 L) t.heap by rw [ht]; exact hP⟩, hS.F ht⟩) hS.2.2 hd
  generalize MQ below (va_Qi (fun (r : Int32) (u : SX × LX) => post r u.1 ∧ u.2 = L) (xB D (wM h cI cJ)) (xA 22 h)) args s 0 0 (xA 22 h) = Q at hret ⊢
  have b2 : ∀  (n2 : Nat) (v3 : Int32) (S : SX) (H : Heap) (locs : List Loc) (ls : Array Slot), lv_has ls 4 [(0, .ref (h 16)), (1, .int v1), (2, .ref (h 11)), (3, .int v3)] → va_P D vwCl (wM h cI cJ S L) H → va_S (xA 22 h) s.heap H locs → kX7_gives_11_b2 L v1 post n2 v3 S → W p l e rX7_gives_11 s m args below meth c H locs 0 0 Q (F0 m 2 ls []) := by
    intro n2
    induction n2 with
    | zero => intro v3 S H locs ls hl hP hS hw; exact absurd hw id
    | succ n2 i2 =>
      intro v3 S H locs ls hl hP hS hw
      unfold kX7_gives_11_b2 at hw
      refine lv_iload_n hx hb dX7_gives_2 rfl (lv_at hl 3 rfl) ?_
      refine lv_aload_n hx hb dX7_gives_3 rfl (lv_at hl 2 rfl) ?_
      refine va_alen (v := (8 : Int32)) hx hb hK hP 11 0 wM_11 rfl rfl dX7_gives_4 ?_
      refine lv_icmp_ge (tgt := 22) hx hb dX7_gives_5 (by decide) (fun hc => ?_) (fun hc => ?_)
      · replace hw := And.left hw hc
        refine lv_iload_n hx hb dX7_gives_22 rfl (lv_at hl 1 rfl) ?_
        refine lv_aload_n hx hb dX7_gives_23 rfl (lv_at hl 2 rfl) ?_
        refine va_alen (v := (8 : Int32)) hx hb hK hP 11 0 wM_11 rfl rfl dX7_gives_24 ?_
        refine lv_iadd hx hb dX7_gives_25 ?_
        exact hret _ _ _ _ _ _ hP hS hw dX7_gives_26
      · replace hw := And.right hw hc
        refine lv_aload_n hx hb dX7_gives_8 rfl (lv_at hl 2 rfl) ?_
        refine lv_iload_n hx hb dX7_gives_9 rfl (lv_at hl 3 rfl) ?_
        refine lv_aload_n hx hb dX7_gives_10 rfl (lv_at hl 0 rfl) ?_
        refine lv_iload_n hx hb dX7_gives_11 rfl (lv_at hl 1 rfl) ?_
        refine lv_iload_n hx hb dX7_gives_12 rfl (lv_at hl 3 rfl) ?_
        refine lv_iadd hx hb dX7_gives_13 ?_
        obtain ⟨hi, hw⟩ := hw
        refine va_iald hx hb hK hP 16 0 wM_16 rfl hi dX7_gives_14 ?_
        obtain ⟨hi, hw⟩ := hw
        refine x_iast (ws2 := wM h cI cJ (xu S 11 v3.toNatClampNeg (S 16 (v1 + v3).toNatClampNeg)) L) hx hb hK hP (hD _ _) hS 11 0 wM_11 rfl hi dX7_gives_15 (wM_u11 _ _) (fun H locs hP hS => ?_)
        refine lv_iinc (v := v3 + (1 : Int32)) (lv' := [(3, .int (v3 + (1 : Int32))), (0, .ref (h 16)), (1, .int v1), (2, .ref (h 11))]) hx hb dX7_gives_16 hl (k := 3) rfl rfl (by decide) rfl (fun ls hl => ?_)
        refine lv_goto (tgt := 2) hx hb dX7_gives_19 (by decide) ?_
        exact i2 (v3 + (1 : Int32)) (xu S 11 v3.toNatClampNeg (S 16 (v1 + v3).toNatClampNeg)) _ _ _ (lv_sub hl [1, 2, 3, 0] rfl) hP hS hw
  unfold kX7_gives_11 at hw
  refine lv_iconst (v := (0 : Int32)) hx hb dX7_gives_0 (by decide) ?_
  refine lv_istore_n (lv' := [(3, .int (0 : Int32)), (0, .ref (h 16)), (1, .int v1), (2, .ref (h 11))]) hx hb dX7_gives_1 rfl hl (by decide) rfl (fun ls hl => ?_)
  obtain ⟨n2, hw⟩ := hw
  exact b2  n2 (0 : Int32) S _ _ _ (lv_sub hl [1, 2, 3, 0] rfl) hP hS hw
abbrev rX7_restore : Room := { frames := 1, cells := 0, slots := 0, locals := 23 }
set_option maxHeartbeats 4000000 in
set_option maxRecDepth 100000 in
theorem mX7_restore (l : Launch) (D : va_G) (h : Nat → Nat) (cI cJ : ClassId) (hh : xdis 22 h) (S : SX) (L : LX) (post : Int32 → SX → LX → Prop) (hw : kX7_restore S L  post) : Met l yX7_restore wsX7_restore rX7_restore (xPre D (wM h cI cJ) (mE D cI cJ) S L [.ref (h 0)]) (va_Qi (fun (r : Int32) (u : SX × LX) => post r u.1 u.2) (xB D (wM h cI cJ)) (xA 22 h)) 0 0 (xA 22 h) := by
  refine Met.ofW (cc := cX7_restore) (maxL := 3) (ret := (some .int)) (by decide) rfl ?_
  intro p e s m args below meth c s₁ B hml hv
  obtain ⟨hargs, hP, hE⟩ := hv
  have hx := B.exec
  have hb := B.bytes
  have hr := B.returns
  have hlocks := B.notSynchronized
  have hts := atoms_spec (ws := wsX7_restore) B.pre
  have hown : s.vm.findClass RX7 = some m.cls := findClass_of_methodNamed B.named
  have hS : va_S (xA 22 h) s.heap s.heap [] := va_S.rf
  have hD : ∀ (S : SX) (L : LX), va_D (xA 22 h) (wM h cI cJ S L) := fun S L => wM_D hh cI cJ S L
  have hK := id hE
  have hst : xSt (xA 22 h) (mE D cI cJ) := mE_st D _ cI cJ
  have f0 := hts (.fieldLink RX7 48 "BookOfWillsModel" "countLeast" "[J") (by decide +kernel)
  have inX7 : ∀ w ∈ u_ws RX7 TX7 28, w ∈ wsX7_restore := fun w hw9 => List.mem_cons_of_mem _ (List.mem_append_right _ hw9)
  have f2 := hts (.fieldLink RX7 64 "BookOfWillsModel" "imageCounts" "[J") (by decide +kernel)
  have f3 := hts (.fieldLink RX7 52 "BookOfWillsModel" "counted" "[J") (by decide +kernel)
  have f4 := hts (.fieldLink RX7 227 "BookOfWillsModel" "kept" "Z") (by decide +kernel)
  have f5 := hts (.fieldLink RX7 61 "BookOfWillsModel" "image" "[I") (by decide +kernel)
  have f6 := hts (.fieldLink RX7 7 "BookOfWillsModel" "lives" "[I") (by decide +kernel)
  have f7 := hts (.fieldLink RX7 18 "BookOfWillsModel" "yearOf" "[I") (by decide +kernel)
  have f8 := hts (.fieldLink RX7 21 "BookOfWillsModel" "ageOf" "[I") (by decide +kernel)
  have f9 := hts (.fieldLink RX7 24 "BookOfWillsModel" "sexOf" "[I") (by decide +kernel)
  have f10 := hts (.fieldLink RX7 27 "BookOfWillsModel" "own" "[I") (by decide +kernel)
  have f11 := hts (.fieldLink RX7 30 "BookOfWillsModel" "floors" "[I") (by decide +kernel)
  have f12 := hts (.fieldLink RX7 33 "BookOfWillsModel" "lines" "[I") (by decide +kernel)
  have f13 := hts (.fieldLink RX7 36 "BookOfWillsModel" "keens" "[I") (by decide +kernel)
  have f14 := hts (.fieldLink RX7 39 "BookOfWillsModel" "marks" "[I") (by decide +kernel)
  have f15 := hts (.fieldLink RX7 42 "BookOfWillsModel" "crowd" "[I") (by decide +kernel)
  have f16 := hts (.fieldLink RX7 45 "BookOfWillsModel" "prices" "[I") (by decide +kernel)
  have f17 := hts (.fieldLink RX7 14 "BookOfWillsModel" "riches" "I") (by decide +kernel)
  have f18 := hts (.fieldLink RX7 98 "BookOfWillsModel" "more" "I") (by decide +kernel)
  have f19 := hts (.fieldLink RX7 87 "BookOfWillsModel" "wills" "I") (by decide +kernel)
  have hl := lv_entry ([.ref (h 0)]) (n := 3) (Nat.le_of_ble_eq_true rfl)
  have hen : entryFrame m args 3 = F0 m 0 ((lg_sl ([.ref (h 0)]) ++ List.replicate (3 - (lg_sl ([.ref (h 0)])).length) Slot.unset).toArray) [] := by rw [hargs]; exact lg_entry_eq m _ _
  rw [hen]
  generalize (lg_sl ([.ref (h 0)]) ++ List.replicate (3 - (lg_sl ([.ref (h 0)])).length) Slot.unset).toArray = ls at hl ⊢
  have hl : lv_has ls 3 [(0, .ref (h 0))] := hl
  change W p l e rX7_restore s m args below meth c s.heap [] 0 0 (MQ below (va_Qi (fun (r : Int32) (u : SX × LX) => post r u.1 u.2) (xB D (wM h cI cJ)) (xA 22 h)) args s 0 0 (xA 22 h)) (F0 m 0 ls [])
  have hret : ∀ (r : Int32) (S1 : SX) (L1 : LX) (H : Heap) (locs : List Loc) (ls : Array Slot) (pc : Nat), va_P D vwCl (wM h cI cJ S1 L1) H → va_S (xA 22 h) s.heap H locs → post r S1 L1 → decode cX7_restore pc = .ok (.ireturn, 1) → W p l e rX7_restore s m args below meth c H locs 0 0 (MQ below (va_Qi (fun (r : Int32) (u : SX × LX) => post r u.1 u.2) (xB D (wM h cI cJ)) (xA 22 h)) args s 0 0 (xA 22 h)) (F0 m pc ls [.int r]) := fun r S1 L1 H locs ls pc hP hS hw hd => W.iret hx hb hr (fun t ht hW => ⟨⟨r, (S1, L1), rfl, hw, show va_P D vwCl (wM h cI cJ S1 L1) t.heap by rw [ht]; exact hP⟩, hS.F ht⟩) hS.2.2 hd
  generalize MQ below (va_Qi (fun (r : Int32) (u : SX × LX) => post r u.1 u.2) (xB D (wM h cI cJ)) (xA 22 h)) args s 0 0 (xA 22 h) = Q at hret ⊢
  have b189 : ∀  (n189 : Nat) (v2 : Int32) (S : SX) (L : LX) (H : Heap) (locs : List Loc) (ls : Array Slot), lv_has ls 3 [(0, .ref (h 0)), (2, .int v2)] → va_P D vwCl (wM h cI cJ S L) H → va_S (xA 22 h) s.heap H locs → kX7_restore_b189 post n189 v2 S L → W p l e rX7_restore s m args below meth c H locs 0 0 Q (F0 m 189 ls []) := by
    intro n189
    induction n189 with
    | zero => intro v2 S L H locs ls hl hP hS hw; exact absurd hw id
    | succ n189 i189 =>
      intro v2 S L H locs ls hl hP hS hw
      unfold kX7_restore_b189 at hw
      refine lv_iload_n hx hb dX7_restore_189 rfl (lv_at hl 1 rfl) ?_
      refine lv_bipush (v := (8 : Int32)) hx hb dX7_restore_190 (by decide) ?_
      refine lv_icmp_ge (tgt := 228) hx hb dX7_restore_192 (by decide) (fun hc => ?_) (fun hc => ?_)
      · replace hw := And.left hw hc
        refine lv_iconst (v := (1 : Int32)) hx hb dX7_restore_228 (by decide) ?_
        exact hret _ _ _ _ _ _ _ hP hS hw dX7_restore_229
      · replace hw := And.right hw hc
        refine lv_aload_n hx hb dX7_restore_195 rfl (lv_at hl 0 rfl) ?_
        refine va_get (D := D) (ci := 7) (v := .ref (h 12)) (C := RX7) (T := TX7) (N := 28) hx hb hts inX7 hown hK hP 0 wM_0 rfl 14 (by decide) f0 (fun _ h9 => h9) rfl dX7_restore_196 ?_
        refine lv_iload_n hx hb dX7_restore_199 rfl (lv_at hl 1 rfl) ?_
        refine lv_aload_n hx hb dX7_restore_200 rfl (lv_at hl 0 rfl) ?_
        refine va_get (D := D) (ci := 7) (v := .ref (h 17)) (C := RX7) (T := TX7) (N := 28) hx hb hts inX7 hown hK hP 0 wM_0 rfl 22 (by decide) f2 (fun _ h9 => h9) rfl dX7_restore_201 ?_
        refine lv_iload_n hx hb dX7_restore_204 rfl (lv_at hl 1 rfl) ?_
        obtain ⟨hi, hw⟩ := hw
        refine va_lald hx hb hK hP 17 1 wM_17 rfl hi dX7_restore_205 ?_
        obtain ⟨hi, hw⟩ := hw
        refine x_last (ws2 := wM h cI cJ S (xuL L 12 v2.toNatClampNeg (L 17 v2.toNatClampNeg))) hx hb hK hP (hD _ _) hS 12 1 wM_12 rfl hi dX7_restore_206 (wM_u12 _ _) (fun H locs hP hS => ?_)
        refine lv_aload_n hx hb dX7_restore_207 rfl (lv_at hl 0 rfl) ?_
        refine va_get (D := D) (ci := 7) (v := .ref (h 13)) (C := RX7) (T := TX7) (N := 28) hx hb hts inX7 hown hK hP 0 wM_0 rfl 15 (by decide) f3 (fun _ h9 => h9) rfl dX7_restore_208 ?_
        refine lv_iload_n hx hb dX7_restore_211 rfl (lv_at hl 1 rfl) ?_
        refine lv_aload_n hx hb dX7_restore_212 rfl (lv_at hl 0 rfl) ?_
        refine va_get (D := D) (ci := 7) (v := .ref (h 17)) (C := RX7) (T := TX7) (N := 28) hx hb hts inX7 hown hK hP 0 wM_0 rfl 22 (by decide) f2 (fun _ h9 => h9) rfl dX7_restore_213 ?_
        refine lv_bipush (v := (8 : Int32)) hx hb dX7_restore_216 (by decide) ?_
        refine lv_iload_n hx hb dX7_restore_218 rfl (lv_at hl 1 rfl) ?_
        refine lv_iadd hx hb dX7_restore_219 ?_
        obtain ⟨hi, hw⟩ := hw
        refine va_lald hx hb hK hP 17 1 wM_17 rfl hi dX7_restore_220 ?_
        obtain ⟨hi, hw⟩ := hw
        refine x_last (ws2 := wM h cI cJ S (xuL (xuL L 12 v2.toNatClampNeg (L 17 v2.toNatClampNeg)) 13 v2.toNatClampNeg ((xuL L 12 v2.toNatClampNeg (L 17 v2.toNatClampNeg)) 17 ((8 : Int32) + v2).toNatClampNeg))) hx hb hK hP (hD _ _) hS 13 1 wM_13 rfl hi dX7_restore_221 (wM_u13 _ _) (fun H locs hP hS => ?_)
        refine lv_iinc (v := v2 + (1 : Int32)) (lv' := [(2, .int (v2 + (1 : Int32))), (0, .ref (h 0))]) hx hb dX7_restore_222 hl (k := 1) rfl rfl (by decide) rfl (fun ls hl => ?_)
        refine lv_goto (tgt := 189) hx hb dX7_restore_225 (by decide) ?_
        exact i189 (v2 + (1 : Int32)) S (xuL (xuL L 12 v2.toNatClampNeg (L 17 v2.toNatClampNeg)) 13 v2.toNatClampNeg ((xuL L 12 v2.toNatClampNeg (L 17 v2.toNatClampNeg)) 17 ((8 : Int32) + v2).toNatClampNeg)) _ _ _ (lv_sub hl [1, 0] rfl) hP hS hw
  unfold kX7_restore at hw
  refine lv_aload_n hx hb dX7_restore_0 rfl (lv_at hl 0 rfl) ?_
  refine va_get (D := D) (ci := 7) (v := .int (S 0 6)) (C := RX7) (T := TX7) (N := 28) hx hb hts inX7 hown hK hP 0 wM_0 rfl 23 (by decide) f4 (fun _ h9 => h9) rfl dX7_restore_1 ?_
  refine lv_if_ne (tgt := 10) hx hb dX7_restore_4 (by decide) (fun hc => ?_) (fun hc => ?_)
  · replace hw := And.right hw hc
    refine lv_aload_n hx hb dX7_restore_10 rfl (lv_at hl 0 rfl) ?_
    refine va_get (D := D) (ci := 7) (v := .ref (h 16)) (C := RX7) (T := TX7) (N := 28) hx hb hts inX7 hown hK hP 0 wM_0 rfl 21 (by decide) f5 (fun _ h9 => h9) rfl dX7_restore_11 ?_
    refine lv_iconst (v := (0 : Int32)) hx hb dX7_restore_14 (by decide) ?_
    refine lv_aload_n hx hb dX7_restore_15 rfl (lv_at hl 0 rfl) ?_
    refine va_get (D := D) (ci := 7) (v := .ref (h 1)) (C := RX7) (T := TX7) (N := 28) hx hb hts inX7 hown hK hP 0 wM_0 rfl 0 (by decide) f6 (fun _ h9 => h9) rfl dX7_restore_16 ?_
    refine xSi1 (As := [.ref (h 16), .int (0 : Int32), .ref (h 1)]) (rest := []) hst hE hP hS ⟨hx, hb, hml, hown, hts⟩ (mX7_gives_1 l D h cI cJ hh S L (0 : Int32) _ hw) (va_cwS 3 hts gX7_restore_X7_gives rfl rfl rfl (by decide +kernel) ⟨Nat.le_of_ble_eq_true rfl, Nat.le_of_ble_eq_true rfl⟩) rfl hl.1 rfl (Nat.le_of_ble_eq_true rfl) dX7_restore_19 ⟨Nat.zero_le _, Nat.zero_le _⟩ (fun r19 S19 H locs hw hP hS => ?_)
    refine lv_istore_n (lv' := [(1, .int r19), (0, .ref (h 0))]) hx hb dX7_restore_22 rfl hl (by decide) rfl (fun ls hl => ?_)
    refine lv_aload_n hx hb dX7_restore_23 rfl (lv_at hl 1 rfl) ?_
    refine va_get (D := D) (ci := 7) (v := .ref (h 16)) (C := RX7) (T := TX7) (N := 28) hx hb hts inX7 hown hK hP 0 wM_0 rfl 21 (by decide) f5 (fun _ h9 => h9) rfl dX7_restore_24 ?_
    refine lv_iload_n hx hb dX7_restore_27 rfl (lv_at hl 0 rfl) ?_
    refine lv_aload_n hx hb dX7_restore_28 rfl (lv_at hl 1 rfl) ?_
    refine va_get (D := D) (ci := 7) (v := .ref (h 2)) (C := RX7) (T := TX7) (N := 28) hx hb hts inX7 hown hK hP 0 wM_0 rfl 4 (by decide) f7 (fun _ h9 => h9) rfl dX7_restore_29 ?_
    refine xSi1 (As := [.ref (h 16), .int r19, .ref (h 2)]) (rest := []) hst hE hP hS ⟨hx, hb, hml, hown, hts⟩ (mX7_gives_2 l D h cI cJ hh S19 L r19 _ hw) (va_cwS 3 hts gX7_restore_X7_gives rfl rfl rfl (by decide +kernel) ⟨Nat.le_of_ble_eq_true rfl, Nat.le_of_ble_eq_true rfl⟩) rfl hl.1 rfl (Nat.le_of_ble_eq_true rfl) dX7_restore_32 ⟨Nat.zero_le _, Nat.zero_le _⟩ (fun r32 S32 H locs hw hP hS => ?_)
    refine lv_istore_n (lv' := [(1, .int r32), (0, .ref (h 0))]) hx hb dX7_restore_35 rfl hl (by decide) rfl (fun ls hl => ?_)
    refine lv_aload_n hx hb dX7_restore_36 rfl (lv_at hl 1 rfl) ?_
    refine va_get (D := D) (ci := 7) (v := .ref (h 16)) (C := RX7) (T := TX7) (N := 28) hx hb hts inX7 hown hK hP 0 wM_0 rfl 21 (by decide) f5 (fun _ h9 => h9) rfl dX7_restore_37 ?_
    refine lv_iload_n hx hb dX7_restore_40 rfl (lv_at hl 0 rfl) ?_
    refine lv_aload_n hx hb dX7_restore_41 rfl (lv_at hl 1 rfl) ?_
    refine va_get (D := D) (ci := 7) (v := .ref (h 3)) (C := RX7) (T := TX7) (N := 28) hx hb hts inX7 hown hK hP 0 wM_0 rfl 5 (by decide) f8 (fun _ h9 => h9) rfl dX7_restore_42 ?_
    refine xSi1 (As := [.ref (h 16), .int r32, .ref (h 3)]) (rest := []) hst hE hP hS ⟨hx, hb, hml, hown, hts⟩ (mX7_gives_3 l D h cI cJ hh S32 L r32 _ hw) (va_cwS 3 hts gX7_restore_X7_gives rfl rfl rfl (by decide +kernel) ⟨Nat.le_of_ble_eq_true rfl, Nat.le_of_ble_eq_true rfl⟩) rfl hl.1 rfl (Nat.le_of_ble_eq_true rfl) dX7_restore_45 ⟨Nat.zero_le _, Nat.zero_le _⟩ (fun r45 S45 H locs hw hP hS => ?_)
    refine lv_istore_n (lv' := [(1, .int r45), (0, .ref (h 0))]) hx hb dX7_restore_48 rfl hl (by decide) rfl (fun ls hl => ?_)
    refine lv_aload_n hx hb dX7_restore_49 rfl (lv_at hl 1 rfl) ?_
    refine va_get (D := D) (ci := 7) (v := .ref (h 16)) (C := RX7) (T := TX7) (N := 28) hx hb hts inX7 hown hK hP 0 wM_0 rfl 21 (by decide) f5 (fun _ h9 => h9) rfl dX7_restore_50 ?_
    refine lv_iload_n hx hb dX7_restore_53 rfl (lv_at hl 0 rfl) ?_
    refine lv_aload_n hx hb dX7_restore_54 rfl (lv_at hl 1 rfl) ?_
    refine va_get (D := D) (ci := 7) (v := .ref (h 4)) (C := RX7) (T := TX7) (N := 28) hx hb hts inX7 hown hK hP 0 wM_0 rfl 6 (by decide) f9 (fun _ h9 => h9) rfl dX7_restore_55 ?_
    refine xSi1 (As := [.ref (h 16), .int r45, .ref (h 4)]) (rest := []) hst hE hP hS ⟨hx, hb, hml, hown, hts⟩ (mX7_gives_4 l D h cI cJ hh S45 L r45 _ hw) (va_cwS 3 hts gX7_restore_X7_gives rfl rfl rfl (by decide +kernel) ⟨Nat.le_of_ble_eq_true rfl, Nat.le_of_ble_eq_true rfl⟩) rfl hl.1 rfl (Nat.le_of_ble_eq_true rfl) dX7_restore_58 ⟨Nat.zero_le _, Nat.zero_le _⟩ (fun r58 S58 H locs hw hP hS => ?_)
    refine lv_istore_n (lv' := [(1, .int r58), (0, .ref (h 0))]) hx hb dX7_restore_61 rfl hl (by decide) rfl (fun ls hl => ?_)
    refine lv_aload_n hx hb dX7_restore_62 rfl (lv_at hl 1 rfl) ?_
    refine va_get (D := D) (ci := 7) (v := .ref (h 16)) (C := RX7) (T := TX7) (N := 28) hx hb hts inX7 hown hK hP 0 wM_0 rfl 21 (by decide) f5 (fun _ h9 => h9) rfl dX7_restore_63 ?_
    refine lv_iload_n hx hb dX7_restore_66 rfl (lv_at hl 0 rfl) ?_
    refine lv_aload_n hx hb dX7_restore_67 rfl (lv_at hl 1 rfl) ?_
    refine va_get (D := D) (ci := 7) (v := .ref (h 5)) (C := RX7) (T := TX7) (N := 28) hx hb hts inX7 hown hK hP 0 wM_0 rfl 7 (by decide) f10 (fun _ h9 => h9) rfl dX7_restore_68 ?_
    refine xSi1 (As := [.ref (h 16), .int r58, .ref (h 5)]) (rest := []) hst hE hP hS ⟨hx, hb, hml, hown, hts⟩ (mX7_gives_5 l D h cI cJ hh S58 L r58 _ hw) (va_cwS 3 hts gX7_restore_X7_gives rfl rfl rfl (by decide +kernel) ⟨Nat.le_of_ble_eq_true rfl, Nat.le_of_ble_eq_true rfl⟩) rfl hl.1 rfl (Nat.le_of_ble_eq_true rfl) dX7_restore_71 ⟨Nat.zero_le _, Nat.zero_le _⟩ (fun r71 S71 H locs hw hP hS => ?_)
    refine lv_istore_n (lv' := [(1, .int r71), (0, .ref (h 0))]) hx hb dX7_restore_74 rfl hl (by decide) rfl (fun ls hl => ?_)
    refine lv_aload_n hx hb dX7_restore_75 rfl (lv_at hl 1 rfl) ?_
    refine va_get (D := D) (ci := 7) (v := .ref (h 16)) (C := RX7) (T := TX7) (N := 28) hx hb hts inX7 hown hK hP 0 wM_0 rfl 21 (by decide) f5 (fun _ h9 => h9) rfl dX7_restore_76 ?_
    refine lv_iload_n hx hb dX7_restore_79 rfl (lv_at hl 0 rfl) ?_
    refine lv_aload_n hx hb dX7_restore_80 rfl (lv_at hl 1 rfl) ?_
    refine va_get (D := D) (ci := 7) (v := .ref (h 6)) (C := RX7) (T := TX7) (N := 28) hx hb hts inX7 hown hK hP 0 wM_0 rfl 8 (by decide) f11 (fun _ h9 => h9) rfl dX7_restore_81 ?_
    refine xSi1 (As := [.ref (h 16), .int r71, .ref (h 6)]) (rest := []) hst hE hP hS ⟨hx, hb, hml, hown, hts⟩ (mX7_gives_6 l D h cI cJ hh S71 L r71 _ hw) (va_cwS 3 hts gX7_restore_X7_gives rfl rfl rfl (by decide +kernel) ⟨Nat.le_of_ble_eq_true rfl, Nat.le_of_ble_eq_true rfl⟩) rfl hl.1 rfl (Nat.le_of_ble_eq_true rfl) dX7_restore_84 ⟨Nat.zero_le _, Nat.zero_le _⟩ (fun r84 S84 H locs hw hP hS => ?_)
    refine lv_istore_n (lv' := [(1, .int r84), (0, .ref (h 0))]) hx hb dX7_restore_87 rfl hl (by decide) rfl (fun ls hl => ?_)
    refine lv_aload_n hx hb dX7_restore_88 rfl (lv_at hl 1 rfl) ?_
    refine va_get (D := D) (ci := 7) (v := .ref (h 16)) (C := RX7) (T := TX7) (N := 28) hx hb hts inX7 hown hK hP 0 wM_0 rfl 21 (by decide) f5 (fun _ h9 => h9) rfl dX7_restore_89 ?_
    refine lv_iload_n hx hb dX7_restore_92 rfl (lv_at hl 0 rfl) ?_
    refine lv_aload_n hx hb dX7_restore_93 rfl (lv_at hl 1 rfl) ?_
    refine va_get (D := D) (ci := 7) (v := .ref (h 7)) (C := RX7) (T := TX7) (N := 28) hx hb hts inX7 hown hK hP 0 wM_0 rfl 9 (by decide) f12 (fun _ h9 => h9) rfl dX7_restore_94 ?_
    refine xSi1 (As := [.ref (h 16), .int r84, .ref (h 7)]) (rest := []) hst hE hP hS ⟨hx, hb, hml, hown, hts⟩ (mX7_gives_7 l D h cI cJ hh S84 L r84 _ hw) (va_cwS 3 hts gX7_restore_X7_gives rfl rfl rfl (by decide +kernel) ⟨Nat.le_of_ble_eq_true rfl, Nat.le_of_ble_eq_true rfl⟩) rfl hl.1 rfl (Nat.le_of_ble_eq_true rfl) dX7_restore_97 ⟨Nat.zero_le _, Nat.zero_le _⟩ (fun r97 S97 H locs hw hP hS => ?_)
    refine lv_istore_n (lv' := [(1, .int r97), (0, .ref (h 0))]) hx hb dX7_restore_100 rfl hl (by decide) rfl (fun ls hl => ?_)
    refine lv_aload_n hx hb dX7_restore_101 rfl (lv_at hl 1 rfl) ?_
    refine va_get (D := D) (ci := 7) (v := .ref (h 16)) (C := RX7) (T := TX7) (N := 28) hx hb hts inX7 hown hK hP 0 wM_0 rfl 21 (by decide) f5 (fun _ h9 => h9) rfl dX7_restore_102 ?_
    refine lv_iload_n hx hb dX7_restore_105 rfl (lv_at hl 0 rfl) ?_
    refine lv_aload_n hx hb dX7_restore_106 rfl (lv_at hl 1 rfl) ?_
    refine va_get (D := D) (ci := 7) (v := .ref (h 8)) (C := RX7) (T := TX7) (N := 28) hx hb hts inX7 hown hK hP 0 wM_0 rfl 10 (by decide) f13 (fun _ h9 => h9) rfl dX7_restore_107 ?_
    refine xSi1 (As := [.ref (h 16), .int r97, .ref (h 8)]) (rest := []) hst hE hP hS ⟨hx, hb, hml, hown, hts⟩ (mX7_gives_8 l D h cI cJ hh S97 L r97 _ hw) (va_cwS 3 hts gX7_restore_X7_gives rfl rfl rfl (by decide +kernel) ⟨Nat.le_of_ble_eq_true rfl, Nat.le_of_ble_eq_true rfl⟩) rfl hl.1 rfl (Nat.le_of_ble_eq_true rfl) dX7_restore_110 ⟨Nat.zero_le _, Nat.zero_le _⟩ (fun r110 S110 H locs hw hP hS => ?_)
    refine lv_istore_n (lv' := [(1, .int r110), (0, .ref (h 0))]) hx hb dX7_restore_113 rfl hl (by decide) rfl (fun ls hl => ?_)
    refine lv_aload_n hx hb dX7_restore_114 rfl (lv_at hl 1 rfl) ?_
    refine va_get (D := D) (ci := 7) (v := .ref (h 16)) (C := RX7) (T := TX7) (N := 28) hx hb hts inX7 hown hK hP 0 wM_0 rfl 21 (by decide) f5 (fun _ h9 => h9) rfl dX7_restore_115 ?_
    refine lv_iload_n hx hb dX7_restore_118 rfl (lv_at hl 0 rfl) ?_
    refine lv_aload_n hx hb dX7_restore_119 rfl (lv_at hl 1 rfl) ?_
    refine va_get (D := D) (ci := 7) (v := .ref (h 9)) (C := RX7) (T := TX7) (N := 28) hx hb hts inX7 hown hK hP 0 wM_0 rfl 11 (by decide) f14 (fun _ h9 => h9) rfl dX7_restore_120 ?_
    refine xSi1 (As := [.ref (h 16), .int r110, .ref (h 9)]) (rest := []) hst hE hP hS ⟨hx, hb, hml, hown, hts⟩ (mX7_gives_9 l D h cI cJ hh S110 L r110 _ hw) (va_cwS 3 hts gX7_restore_X7_gives rfl rfl rfl (by decide +kernel) ⟨Nat.le_of_ble_eq_true rfl, Nat.le_of_ble_eq_true rfl⟩) rfl hl.1 rfl (Nat.le_of_ble_eq_true rfl) dX7_restore_123 ⟨Nat.zero_le _, Nat.zero_le _⟩ (fun r123 S123 H locs hw hP hS => ?_)
    refine lv_istore_n (lv' := [(1, .int r123), (0, .ref (h 0))]) hx hb dX7_restore_126 rfl hl (by decide) rfl (fun ls hl => ?_)
    refine lv_aload_n hx hb dX7_restore_127 rfl (lv_at hl 1 rfl) ?_
    refine va_get (D := D) (ci := 7) (v := .ref (h 16)) (C := RX7) (T := TX7) (N := 28) hx hb hts inX7 hown hK hP 0 wM_0 rfl 21 (by decide) f5 (fun _ h9 => h9) rfl dX7_restore_128 ?_
    refine lv_iload_n hx hb dX7_restore_131 rfl (lv_at hl 0 rfl) ?_
    refine lv_aload_n hx hb dX7_restore_132 rfl (lv_at hl 1 rfl) ?_
    refine va_get (D := D) (ci := 7) (v := .ref (h 10)) (C := RX7) (T := TX7) (N := 28) hx hb hts inX7 hown hK hP 0 wM_0 rfl 12 (by decide) f15 (fun _ h9 => h9) rfl dX7_restore_133 ?_
    refine xSi1 (As := [.ref (h 16), .int r123, .ref (h 10)]) (rest := []) hst hE hP hS ⟨hx, hb, hml, hown, hts⟩ (mX7_gives_10 l D h cI cJ hh S123 L r123 _ hw) (va_cwS 3 hts gX7_restore_X7_gives rfl rfl rfl (by decide +kernel) ⟨Nat.le_of_ble_eq_true rfl, Nat.le_of_ble_eq_true rfl⟩) rfl hl.1 rfl (Nat.le_of_ble_eq_true rfl) dX7_restore_136 ⟨Nat.zero_le _, Nat.zero_le _⟩ (fun r136 S136 H locs hw hP hS => ?_)
    refine lv_istore_n (lv' := [(1, .int r136), (0, .ref (h 0))]) hx hb dX7_restore_139 rfl hl (by decide) rfl (fun ls hl => ?_)
    refine lv_aload_n hx hb dX7_restore_140 rfl (lv_at hl 1 rfl) ?_
    refine va_get (D := D) (ci := 7) (v := .ref (h 16)) (C := RX7) (T := TX7) (N := 28) hx hb hts inX7 hown hK hP 0 wM_0 rfl 21 (by decide) f5 (fun _ h9 => h9) rfl dX7_restore_141 ?_
    refine lv_iload_n hx hb dX7_restore_144 rfl (lv_at hl 0 rfl) ?_
    refine lv_aload_n hx hb dX7_restore_145 rfl (lv_at hl 1 rfl) ?_
    refine va_get (D := D) (ci := 7) (v := .ref (h 11)) (C := RX7) (T := TX7) (N := 28) hx hb hts inX7 hown hK hP 0 wM_0 rfl 13 (by decide) f16 (fun _ h9 => h9) rfl dX7_restore_146 ?_
    refine xSi1 (As := [.ref (h 16), .int r136, .ref (h 11)]) (rest := []) hst hE hP hS ⟨hx, hb, hml, hown, hts⟩ (mX7_gives_11 l D h cI cJ hh S136 L r136 _ hw) (va_cwS 3 hts gX7_restore_X7_gives rfl rfl rfl (by decide +kernel) ⟨Nat.le_of_ble_eq_true rfl, Nat.le_of_ble_eq_true rfl⟩) rfl hl.1 rfl (Nat.le_of_ble_eq_true rfl) dX7_restore_149 ⟨Nat.zero_le _, Nat.zero_le _⟩ (fun r149 S149 H locs hw hP hS => ?_)
    refine lv_istore_n (lv' := [(1, .int r149), (0, .ref (h 0))]) hx hb dX7_restore_152 rfl hl (by decide) rfl (fun ls hl => ?_)
    refine lv_aload_n hx hb dX7_restore_153 rfl (lv_at hl 1 rfl) ?_
    refine lv_aload_n hx hb dX7_restore_154 rfl (lv_at hl 1 rfl) ?_
    refine va_get (D := D) (ci := 7) (v := .ref (h 16)) (C := RX7) (T := TX7) (N := 28) hx hb hts inX7 hown hK hP 0 wM_0 rfl 21 (by decide) f5 (fun _ h9 => h9) rfl dX7_restore_155 ?_
    refine lv_iload_n hx hb dX7_restore_158 rfl (lv_at hl 0 rfl) ?_
    obtain ⟨hi, hw⟩ := hw
    refine va_iald hx hb hK hP 16 0 wM_16 rfl hi dX7_restore_159 ?_
    refine x_put (D := D) (ci := 7) (v := .int (S149 16 r149.toNatClampNeg)) (ty := .int) (C := RX7) (T := TX7) (N := 28) (ws2 := wM h cI cJ (xu S149 0 0 (S149 16 r149.toNatClampNeg)) L) hx hb hts inX7 tyX7 tyX7_ok nmX7 hown hK hP (hD _ _) hS 0 wM_0 rfl 1 (by decide) f17 (fun _ h9 => h9) rfl (by decide +kernel) rfl rfl (Nat.le_of_ble_eq_true rfl) dX7_restore_160 (wM_p0_0 _) (fun H locs hP hS => ?_)
    refine lv_aload_n hx hb dX7_restore_163 rfl (lv_at hl 1 rfl) ?_
    refine lv_aload_n hx hb dX7_restore_164 rfl (lv_at hl 1 rfl) ?_
    refine va_get (D := D) (ci := 7) (v := .ref (h 16)) (C := RX7) (T := TX7) (N := 28) hx hb hts inX7 hown hK hP 0 wM_0 rfl 21 (by decide) f5 (fun _ h9 => h9) rfl dX7_restore_165 ?_
    refine lv_iload_n hx hb dX7_restore_168 rfl (lv_at hl 0 rfl) ?_
    refine lv_iconst (v := (1 : Int32)) hx hb dX7_restore_169 (by decide) ?_
    refine lv_iadd hx hb dX7_restore_170 ?_
    obtain ⟨hi, hw⟩ := hw
    refine va_iald hx hb hK hP 16 0 wM_16 rfl hi dX7_restore_171 ?_
    refine x_put (D := D) (ci := 7) (v := .int ((xu S149 0 0 (S149 16 r149.toNatClampNeg)) 16 (r149 + (1 : Int32)).toNatClampNeg)) (ty := .int) (C := RX7) (T := TX7) (N := 28) (ws2 := wM h cI cJ (xu (xu S149 0 0 (S149 16 r149.toNatClampNeg)) 0 1 ((xu S149 0 0 (S149 16 r149.toNatClampNeg)) 16 (r149 + (1 : Int32)).toNatClampNeg)) L) hx hb hts inX7 tyX7 tyX7_ok nmX7 hown hK hP (hD _ _) hS 0 wM_0 rfl 2 (by decide) f18 (fun _ h9 => h9) rfl (by decide +kernel) rfl rfl (Nat.le_of_ble_eq_true rfl) dX7_restore_172 (wM_p0_1 _) (fun H locs hP hS => ?_)
    refine lv_aload_n hx hb dX7_restore_175 rfl (lv_at hl 1 rfl) ?_
    refine lv_aload_n hx hb dX7_restore_176 rfl (lv_at hl 1 rfl) ?_
    refine va_get (D := D) (ci := 7) (v := .ref (h 16)) (C := RX7) (T := TX7) (N := 28) hx hb hts inX7 hown hK hP 0 wM_0 rfl 21 (by decide) f5 (fun _ h9 => h9) rfl dX7_restore_177 ?_
    refine lv_iload_n hx hb dX7_restore_180 rfl (lv_at hl 0 rfl) ?_
    refine lv_iconst (v := (2 : Int32)) hx hb dX7_restore_181 (by decide) ?_
    refine lv_iadd hx hb dX7_restore_182 ?_
    obtain ⟨hi, hw⟩ := hw
    refine va_iald hx hb hK hP 16 0 wM_16 rfl hi dX7_restore_183 ?_
    refine x_put (D := D) (ci := 7) (v := .int ((xu (xu S149 0 0 (S149 16 r149.toNatClampNeg)) 0 1 ((xu S149 0 0 (S149 16 r149.toNatClampNeg)) 16 (r149 + (1 : Int32)).toNatClampNeg)) 16 (r149 + (2 : Int32)).toNatClampNeg)) (ty := .int) (C := RX7) (T := TX7) (N := 28) (ws2 := wM h cI cJ (xu (xu (xu S149 0 0 (S149 16 r149.toNatClampNeg)) 0 1 ((xu S149 0 0 (S149 16 r149.toNatClampNeg)) 16 (r149 + (1 : Int32)).toNatClampNeg)) 0 2 ((xu (xu S149 0 0 (S149 16 r149.toNatClampNeg)) 0 1 ((xu S149 0 0 (S149 16 r149.toNatClampNeg)) 16 (r149 + (1 : Int32)).toNatClampNeg)) 16 (r149 + (2 : Int32)).toNatClampNeg)) L) hx hb hts inX7 tyX7 tyX7_ok nmX7 hown hK hP (hD _ _) hS 0 wM_0 rfl 3 (by decide) f19 (fun _ h9 => h9) rfl (by decide +kernel) rfl rfl (Nat.le_of_ble_eq_true rfl) dX7_restore_184 (wM_p0_2 _) (fun H locs hP hS => ?_)
    refine lv_iconst (v := (0 : Int32)) hx hb dX7_restore_187 (by decide) ?_
    refine lv_istore_n (lv' := [(2, .int (0 : Int32)), (1, .int r149), (0, .ref (h 0))]) hx hb dX7_restore_188 rfl hl (by decide) rfl (fun ls hl => ?_)
    obtain ⟨n189, hw⟩ := hw
    exact b189  n189 (0 : Int32) (xu (xu (xu S149 0 0 (S149 16 r149.toNatClampNeg)) 0 1 ((xu S149 0 0 (S149 16 r149.toNatClampNeg)) 16 (r149 + (1 : Int32)).toNatClampNeg)) 0 2 ((xu (xu S149 0 0 (S149 16 r149.toNatClampNeg)) 0 1 ((xu S149 0 0 (S149 16 r149.toNatClampNeg)) 16 (r149 + (1 : Int32)).toNatClampNeg)) 16 (r149 + (2 : Int32)).toNatClampNeg)) L _ _ _ (lv_sub hl [2, 0] rfl) hP hS hw
  · replace hw := And.left hw hc
    refine lv_bipush (v := (-4 : Int32)) hx hb dX7_restore_7 (by decide) ?_
    exact hret _ _ _ _ _ _ _ hP hS hw dX7_restore_9
abbrev rX7_isSheet : Room := { frames := 1, cells := 0, slots := 0, locals := 25 }
set_option maxHeartbeats 4000000 in
set_option maxRecDepth 100000 in
theorem mX7_isSheet (l : Launch) (D : va_G) (h : Nat → Nat) (cI cJ : ClassId) (hh : xdis 22 h) (S : SX) (L : LX) (v0 : Int32) (post : Int32 → Prop) (hw : kX7_isSheet S L v0 post) : Met l yX7_isSheet wsX7_isSheet rX7_isSheet (xPre D (wM h cI cJ) (mE D cI cJ) S L [.int v0]) (va_Qi (fun (r : Int32) (u : SX × LX) => post r ∧ u.1 = S ∧ u.2 = L) (xB D (wM h cI cJ)) (xA 22 h)) 0 0 (xA 22 h) := by
  refine Met.ofW (cc := cX7_isSheet) (maxL := 1) (ret := (some .boolean)) (by decide) rfl ?_
  intro p e s m args below meth c s₁ B hml hv
  obtain ⟨hargs, hP, hE⟩ := hv
  have hx := B.exec
  have hb := B.bytes
  have hr := B.returns
  have hlocks := B.notSynchronized
  have hts := atoms_spec (ws := wsX7_isSheet) B.pre
  have hown : s.vm.findClass RX7 = some m.cls := findClass_of_methodNamed B.named
  have hS : va_S (xA 22 h) s.heap s.heap [] := va_S.rf
  have hD : ∀ (S : SX) (L : LX), va_D (xA 22 h) (wM h cI cJ S L) := fun S L => wM_D hh cI cJ S L
  have hK := id hE
  have hst : xSt (xA 22 h) (mE D cI cJ) := mE_st D _ cI cJ
  have f0 := hts (.constantLong RX7 114 (3)) (by decide +kernel)
  have hl := lv_entry ([.int v0]) (n := 1) (Nat.le_of_ble_eq_true rfl)
  have hen : entryFrame m args 1 = F0 m 0 ((lg_sl ([.int v0]) ++ List.replicate (1 - (lg_sl ([.int v0])).length) Slot.unset).toArray) [] := by rw [hargs]; exact lg_entry_eq m _ _
  rw [hen]
  generalize (lg_sl ([.int v0]) ++ List.replicate (1 - (lg_sl ([.int v0])).length) Slot.unset).toArray = ls at hl ⊢
  have hl : lv_has ls 1 [(0, .int v0)] := hl
  change W p l e rX7_isSheet s m args below meth c s.heap [] 0 0 (MQ below (va_Qi (fun (r : Int32) (u : SX × LX) => post r ∧ u.1 = S ∧ u.2 = L) (xB D (wM h cI cJ)) (xA 22 h)) args s 0 0 (xA 22 h)) (F0 m 0 ls [])
  have hret : ∀ (r : Int32) (H : Heap) (locs : List Loc) (ls : Array Slot) (pc : Nat), va_P D vwCl (wM h cI cJ S L) H → va_S (xA 22 h) s.heap H locs → post r → narrow .boolean (.int r) = .int r → decode cX7_isSheet pc = .ok (.ireturn, 1) → W p l e rX7_isSheet s m args below meth c H locs 0 0 (MQ below (va_Qi (fun (r : Int32) (u : SX × LX) => post r ∧ u.1 = S ∧ u.2 = L) (xB D (wM h cI cJ)) (xA 22 h)) args s 0 0 (xA 22 h)) (F0 m pc ls [.int r]) := fun r H locs ls pc hP hS hw hna hd => W.zret hx hb hr hna (fun t ht hW => ⟨⟨r, (S, L), rfl, ⟨hw, rfl, rfl⟩, show va_P D vwCl (wM h cI cJ S L) t.heap by rw [ht]; exact hP⟩, hS.F ht⟩) hS.2.2 hd
  generalize MQ below (va_Qi (fun (r : Int32) (u : SX × LX) => post r ∧ u.1 = S ∧ u.2 = L) (xB D (wM h cI cJ)) (xA 22 h)) args s 0 0 (xA 22 h) = Q at hret ⊢
  unfold kX7_isSheet at hw
  refine lv_iload_n hx hb dX7_isSheet_0 rfl (lv_at hl 0 rfl) ?_
  refine lv_i2l hx hb dX7_isSheet_1 rfl ?_
  refine lv_lconst (v := (0 : Int64)) hx hb dX7_isSheet_2 (by decide) ?_
  refine lv_ldc2 (v := (3 : Int64)) hx hb hown (f0) dX7_isSheet_3 ?_
  refine xSi0 (As := [.long v0.toInt64, .long (0 : Int64), .long (3 : Int64)]) (rest := []) hst hE hP hS ⟨hx, hb, hml, hown, hts⟩ (mX7_in l D h cI cJ hh S L v0.toInt64 (0 : Int64) (3 : Int64) _ hw) (va_cwS 3 hts gX7_isSheet_X7_in rfl rfl rfl (by decide +kernel) ⟨Nat.le_of_ble_eq_true rfl, Nat.le_of_ble_eq_true rfl⟩) rfl hl.1 rfl (Nat.le_of_ble_eq_true rfl) dX7_isSheet_6 ⟨Nat.zero_le _, Nat.zero_le _⟩ (fun r6 H locs hw hP hS => ?_)
  exact hret _ _ _ _ _ hP hS hw.2 (xb_n hw.1) dX7_isSheet_9
abbrev rX7_isLane : Room := { frames := 1, cells := 0, slots := 0, locals := 25 }
set_option maxHeartbeats 4000000 in
set_option maxRecDepth 100000 in
theorem mX7_isLane (l : Launch) (D : va_G) (h : Nat → Nat) (cI cJ : ClassId) (hh : xdis 22 h) (S : SX) (L : LX) (v0 : Int32) (post : Int32 → Prop) (hw : kX7_isLane S L v0 post) : Met l yX7_isLane wsX7_isLane rX7_isLane (xPre D (wM h cI cJ) (mE D cI cJ) S L [.int v0]) (va_Qi (fun (r : Int32) (u : SX × LX) => post r ∧ u.1 = S ∧ u.2 = L) (xB D (wM h cI cJ)) (xA 22 h)) 0 0 (xA 22 h) := by
  refine Met.ofW (cc := cX7_isLane) (maxL := 1) (ret := (some .boolean)) (by decide) rfl ?_
  intro p e s m args below meth c s₁ B hml hv
  obtain ⟨hargs, hP, hE⟩ := hv
  have hx := B.exec
  have hb := B.bytes
  have hr := B.returns
  have hlocks := B.notSynchronized
  have hts := atoms_spec (ws := wsX7_isLane) B.pre
  have hown : s.vm.findClass RX7 = some m.cls := findClass_of_methodNamed B.named
  have hS : va_S (xA 22 h) s.heap s.heap [] := va_S.rf
  have hD : ∀ (S : SX) (L : LX), va_D (xA 22 h) (wM h cI cJ S L) := fun S L => wM_D hh cI cJ S L
  have hK := id hE
  have hst : xSt (xA 22 h) (mE D cI cJ) := mE_st D _ cI cJ
  have f0 := hts (.constantLong RX7 211 (2)) (by decide +kernel)
  have hl := lv_entry ([.int v0]) (n := 1) (Nat.le_of_ble_eq_true rfl)
  have hen : entryFrame m args 1 = F0 m 0 ((lg_sl ([.int v0]) ++ List.replicate (1 - (lg_sl ([.int v0])).length) Slot.unset).toArray) [] := by rw [hargs]; exact lg_entry_eq m _ _
  rw [hen]
  generalize (lg_sl ([.int v0]) ++ List.replicate (1 - (lg_sl ([.int v0])).length) Slot.unset).toArray = ls at hl ⊢
  have hl : lv_has ls 1 [(0, .int v0)] := hl
  change W p l e rX7_isLane s m args below meth c s.heap [] 0 0 (MQ below (va_Qi (fun (r : Int32) (u : SX × LX) => post r ∧ u.1 = S ∧ u.2 = L) (xB D (wM h cI cJ)) (xA 22 h)) args s 0 0 (xA 22 h)) (F0 m 0 ls [])
  have hret : ∀ (r : Int32) (H : Heap) (locs : List Loc) (ls : Array Slot) (pc : Nat), va_P D vwCl (wM h cI cJ S L) H → va_S (xA 22 h) s.heap H locs → post r → narrow .boolean (.int r) = .int r → decode cX7_isLane pc = .ok (.ireturn, 1) → W p l e rX7_isLane s m args below meth c H locs 0 0 (MQ below (va_Qi (fun (r : Int32) (u : SX × LX) => post r ∧ u.1 = S ∧ u.2 = L) (xB D (wM h cI cJ)) (xA 22 h)) args s 0 0 (xA 22 h)) (F0 m pc ls [.int r]) := fun r H locs ls pc hP hS hw hna hd => W.zret hx hb hr hna (fun t ht hW => ⟨⟨r, (S, L), rfl, ⟨hw, rfl, rfl⟩, show va_P D vwCl (wM h cI cJ S L) t.heap by rw [ht]; exact hP⟩, hS.F ht⟩) hS.2.2 hd
  generalize MQ below (va_Qi (fun (r : Int32) (u : SX × LX) => post r ∧ u.1 = S ∧ u.2 = L) (xB D (wM h cI cJ)) (xA 22 h)) args s 0 0 (xA 22 h) = Q at hret ⊢
  unfold kX7_isLane at hw
  refine lv_iload_n hx hb dX7_isLane_0 rfl (lv_at hl 0 rfl) ?_
  refine lv_i2l hx hb dX7_isLane_1 rfl ?_
  refine lv_lconst (v := (0 : Int64)) hx hb dX7_isLane_2 (by decide) ?_
  refine lv_ldc2 (v := (2 : Int64)) hx hb hown (f0) dX7_isLane_3 ?_
  refine xSi0 (As := [.long v0.toInt64, .long (0 : Int64), .long (2 : Int64)]) (rest := []) hst hE hP hS ⟨hx, hb, hml, hown, hts⟩ (mX7_in l D h cI cJ hh S L v0.toInt64 (0 : Int64) (2 : Int64) _ hw) (va_cwS 3 hts gX7_isLane_X7_in rfl rfl rfl (by decide +kernel) ⟨Nat.le_of_ble_eq_true rfl, Nat.le_of_ble_eq_true rfl⟩) rfl hl.1 rfl (Nat.le_of_ble_eq_true rfl) dX7_isLane_6 ⟨Nat.zero_le _, Nat.zero_le _⟩ (fun r6 H locs hw hP hS => ?_)
  exact hret _ _ _ _ _ hP hS hw.2 (xb_n hw.1) dX7_isLane_9
abbrev rX7_finds : Room := { frames := 0, cells := 0, slots := 0, locals := 0 }
set_option maxHeartbeats 4000000 in
set_option maxRecDepth 100000 in
theorem mX7_finds (l : Launch) (D : va_G) (h : Nat → Nat) (cI cJ : ClassId) (hh : xdis 22 h) (S : SX) (L : LX) (v1 : Int32) (v2 : Int32) (v3 : Int32) (v4 : Int32) (post : Int32 → Prop) (hw : kX7_finds S L v1 v2 v3 v4 post) : Met l yX7_finds wsX7_finds rX7_finds (xPre D (wM h cI cJ) (mE D cI cJ) S L [.ref (h 0), .int v1, .int v2, .int v3, .int v4]) (va_Qi (fun (r : Int32) (u : SX × LX) => post r ∧ u.1 = S ∧ u.2 = L) (xB D (wM h cI cJ)) (xA 22 h)) 0 0 (xA 22 h) := by
  refine Met.ofW (cc := cX7_finds) (maxL := 5) (ret := (some .int)) (by decide) rfl ?_
  intro p e s m args below meth c s₁ B hml hv
  obtain ⟨hargs, hP, hE⟩ := hv
  have hx := B.exec
  have hb := B.bytes
  have hr := B.returns
  have hlocks := B.notSynchronized
  have hts := atoms_spec (ws := wsX7_finds) B.pre
  have hown : s.vm.findClass RX7 = some m.cls := findClass_of_methodNamed B.named
  have hS : va_S (xA 22 h) s.heap s.heap [] := va_S.rf
  have hD : ∀ (S : SX) (L : LX), va_D (xA 22 h) (wM h cI cJ S L) := fun S L => wM_D hh cI cJ S L
  have hK := id hE
  have hst : xSt (xA 22 h) (mE D cI cJ) := mE_st D _ cI cJ
  have f0 := hts (.fieldLink RX7 67 "BookOfWillsModel" "lanes" "[I") (by decide +kernel)
  have inX7 : ∀ w ∈ u_ws RX7 TX7 28, w ∈ wsX7_finds := fun w hw9 => List.mem_cons_of_mem _ (List.mem_append_right _ hw9)
  have f2 := hts (.fieldLink RX7 70 "BookOfWillsModel" "sizes" "[I") (by decide +kernel)
  have hl := lv_entry ([.ref (h 0), .int v1, .int v2, .int v3, .int v4]) (n := 5) (Nat.le_of_ble_eq_true rfl)
  have hen : entryFrame m args 5 = F0 m 0 ((lg_sl ([.ref (h 0), .int v1, .int v2, .int v3, .int v4]) ++ List.replicate (5 - (lg_sl ([.ref (h 0), .int v1, .int v2, .int v3, .int v4])).length) Slot.unset).toArray) [] := by rw [hargs]; exact lg_entry_eq m _ _
  rw [hen]
  generalize (lg_sl ([.ref (h 0), .int v1, .int v2, .int v3, .int v4]) ++ List.replicate (5 - (lg_sl ([.ref (h 0), .int v1, .int v2, .int v3, .int v4])).length) Slot.unset).toArray = ls at hl ⊢
  have hl : lv_has ls 5 [(0, .ref (h 0)), (1, .int v1), (2, .int v2), (3, .int v3), (4, .int v4)] := hl
  change W p l e rX7_finds s m args below meth c s.heap [] 0 0 (MQ below (va_Qi (fun (r : Int32) (u : SX × LX) => post r ∧ u.1 = S ∧ u.2 = L) (xB D (wM h cI cJ)) (xA 22 h)) args s 0 0 (xA 22 h)) (F0 m 0 ls [])
  have hret : ∀ (r : Int32) (H : Heap) (locs : List Loc) (ls : Array Slot) (pc : Nat), va_P D vwCl (wM h cI cJ S L) H → va_S (xA 22 h) s.heap H locs → post r → decode cX7_finds pc = .ok (.ireturn, 1) → W p l e rX7_finds s m args below meth c H locs 0 0 (MQ below (va_Qi (fun (r : Int32) (u : SX × LX) => post r ∧ u.1 = S ∧ u.2 = L) (xB D (wM h cI cJ)) (xA 22 h)) args s 0 0 (xA 22 h)) (F0 m pc ls [.int r]) := fun r H locs ls pc hP hS hw hd => W.iret hx hb hr (fun t ht hW => ⟨⟨r, (S, L), rfl, ⟨hw, rfl, rfl⟩, show va_P D vwCl (wM h cI cJ S L) t.heap by rw [ht]; exact hP⟩, hS.F ht⟩) hS.2.2 hd
  generalize MQ below (va_Qi (fun (r : Int32) (u : SX × LX) => post r ∧ u.1 = S ∧ u.2 = L) (xB D (wM h cI cJ)) (xA 22 h)) args s 0 0 (xA 22 h) = Q at hret ⊢
  unfold kX7_finds at hw
  refine lv_aload_n hx hb dX7_finds_0 rfl (lv_at hl 0 rfl) ?_
  refine va_get (D := D) (ci := 7) (v := .ref (h 18)) (C := RX7) (T := TX7) (N := 28) hx hb hts inX7 hown hK hP 0 wM_0 rfl 24 (by decide) f0 (fun _ h9 => h9) rfl dX7_finds_1 ?_
  refine lv_iload_n hx hb dX7_finds_4 rfl (lv_at hl 1 rfl) ?_
  obtain ⟨hi, hw⟩ := hw
  refine va_iald hx hb hK hP 18 0 wM_18 rfl hi dX7_finds_5 ?_
  refine lv_if_ge (tgt := 12) hx hb dX7_finds_6 (by decide) (fun hc => ?_) (fun hc => ?_)
  · replace hw := And.left hw hc
    refine lv_aload_n hx hb dX7_finds_12 rfl (lv_at hl 0 rfl) ?_
    refine va_get (D := D) (ci := 7) (v := .ref (h 18)) (C := RX7) (T := TX7) (N := 28) hx hb hts inX7 hown hK hP 0 wM_0 rfl 24 (by decide) f0 (fun _ h9 => h9) rfl dX7_finds_13 ?_
    refine lv_iload_n hx hb dX7_finds_16 rfl (lv_at hl 1 rfl) ?_
    obtain ⟨hi, hw⟩ := hw
    refine va_iald hx hb hK hP 18 0 wM_18 rfl hi dX7_finds_17 ?_
    refine lv_iload_n hx hb dX7_finds_18 rfl (lv_at hl 2 rfl) ?_
    refine lv_icmp_eq (tgt := 25) hx hb dX7_finds_19 (by decide) (fun hc => ?_) (fun hc => ?_)
    · replace hw := And.left hw hc
      refine lv_iload_n hx hb dX7_finds_25 rfl (lv_at hl 3 rfl) ?_
      refine lv_if_lt (tgt := 46) hx hb dX7_finds_26 (by decide) (fun hc => ?_) (fun hc => ?_)
      · replace hw := And.left hw hc
        refine lv_bipush (v := (-13 : Int32)) hx hb dX7_finds_46 (by decide) ?_
        refine lv_goto (tgt := 52) hx hb dX7_finds_48 (by decide) ?_
        exact hret _ _ _ _ _ hP hS hw dX7_finds_52
      · replace hw := And.right hw hc
        refine lv_iload_n hx hb dX7_finds_29 rfl (lv_at hl 3 rfl) ?_
        refine lv_i2l hx hb dX7_finds_30 rfl ?_
        refine lv_iload hx hb dX7_finds_31 (lv_at hl 4 rfl) ?_
        refine lv_i2l hx hb dX7_finds_33 rfl ?_
        refine lv_ladd hx hb dX7_finds_34 ?_
        refine lv_aload_n hx hb dX7_finds_35 rfl (lv_at hl 0 rfl) ?_
        refine va_get (D := D) (ci := 7) (v := .ref (h 19)) (C := RX7) (T := TX7) (N := 28) hx hb hts inX7 hown hK hP 0 wM_0 rfl 25 (by decide) f2 (fun _ h9 => h9) rfl dX7_finds_36 ?_
        refine lv_iload_n hx hb dX7_finds_39 rfl (lv_at hl 1 rfl) ?_
        obtain ⟨hi, hw⟩ := hw
        refine va_iald hx hb hK hP 19 0 wM_19 rfl hi dX7_finds_40 ?_
        refine lv_i2l hx hb dX7_finds_41 rfl ?_
        refine W.lcmp hx hb dX7_finds_42 ?_
        refine lv_if_le (tgt := 51) hx hb dX7_finds_43 (by decide) (fun hc => ?_) (fun hc => ?_)
        · replace hw := And.left hw ((lg_cmp_le _ _).mp hc)
          refine lv_iconst (v := (0 : Int32)) hx hb dX7_finds_51 (by decide) ?_
          exact hret _ _ _ _ _ hP hS hw dX7_finds_52
        · replace hw := And.right hw (fun q => hc ((lg_cmp_le _ _).mpr q))
          refine lv_bipush (v := (-13 : Int32)) hx hb dX7_finds_46 (by decide) ?_
          refine lv_goto (tgt := 52) hx hb dX7_finds_48 (by decide) ?_
          exact hret _ _ _ _ _ hP hS hw dX7_finds_52
    · replace hw := And.right hw hc
      refine lv_bipush (v := (-12 : Int32)) hx hb dX7_finds_22 (by decide) ?_
      exact hret _ _ _ _ _ hP hS hw dX7_finds_24
  · replace hw := And.right hw hc
    refine lv_bipush (v := (-11 : Int32)) hx hb dX7_finds_9 (by decide) ?_
    exact hret _ _ _ _ _ hP hS hw dX7_finds_11
abbrev rX7_cast : Room := { frames := 0, cells := 0, slots := 0, locals := 0 }
set_option maxHeartbeats 4000000 in
set_option maxRecDepth 100000 in
theorem mX7_cast (l : Launch) (D : va_G) (h : Nat → Nat) (cI cJ : ClassId) (hh : xdis 22 h) (S : SX) (L : LX) (v0 : Int32) (v1 : Int32) (post : Int32 → Prop) (hw : kX7_cast S L v0 v1 post) : Met l yX7_cast wsX7_cast rX7_cast (xPre D (wM h cI cJ) (mE D cI cJ) S L [.int v0, .int v1]) (va_Qi (fun (r : Int32) (u : SX × LX) => post r ∧ u.1 = S ∧ u.2 = L) (xB D (wM h cI cJ)) (xA 22 h)) 0 0 (xA 22 h) := by
  refine Met.ofW (cc := cX7_cast) (maxL := 2) (ret := (some .int)) (by decide) rfl ?_
  intro p e s m args below meth c s₁ B hml hv
  obtain ⟨hargs, hP, hE⟩ := hv
  have hx := B.exec
  have hb := B.bytes
  have hr := B.returns
  have hlocks := B.notSynchronized
  have hts := atoms_spec (ws := wsX7_cast) B.pre
  have hown : s.vm.findClass RX7 = some m.cls := findClass_of_methodNamed B.named
  have hS : va_S (xA 22 h) s.heap s.heap [] := va_S.rf
  have hD : ∀ (S : SX) (L : LX), va_D (xA 22 h) (wM h cI cJ S L) := fun S L => wM_D hh cI cJ S L
  have hK := id hE
  have hst : xSt (xA 22 h) (mE D cI cJ) := mE_st D _ cI cJ
  skip
  have hl := lv_entry ([.int v0, .int v1]) (n := 2) (Nat.le_of_ble_eq_true rfl)
  have hen : entryFrame m args 2 = F0 m 0 ((lg_sl ([.int v0, .int v1]) ++ List.replicate (2 - (lg_sl ([.int v0, .int v1])).length) Slot.unset).toArray) [] := by rw [hargs]; exact lg_entry_eq m _ _
  rw [hen]
  generalize (lg_sl ([.int v0, .int v1]) ++ List.replicate (2 - (lg_sl ([.int v0, .int v1])).length) Slot.unset).toArray = ls at hl ⊢
  have hl : lv_has ls 2 [(0, .int v0), (1, .int v1)] := hl
  change W p l e rX7_cast s m args below meth c s.heap [] 0 0 (MQ below (va_Qi (fun (r : Int32) (u : SX × LX) => post r ∧ u.1 = S ∧ u.2 = L) (xB D (wM h cI cJ)) (xA 22 h)) args s 0 0 (xA 22 h)) (F0 m 0 ls [])
  have hret : ∀ (r : Int32) (H : Heap) (locs : List Loc) (ls : Array Slot) (pc : Nat), va_P D vwCl (wM h cI cJ S L) H → va_S (xA 22 h) s.heap H locs → post r → decode cX7_cast pc = .ok (.ireturn, 1) → W p l e rX7_cast s m args below meth c H locs 0 0 (MQ below (va_Qi (fun (r : Int32) (u : SX × LX) => post r ∧ u.1 = S ∧ u.2 = L) (xB D (wM h cI cJ)) (xA 22 h)) args s 0 0 (xA 22 h)) (F0 m pc ls [.int r]) := fun r H locs ls pc hP hS hw hd => W.iret hx hb hr (fun t ht hW => ⟨⟨r, (S, L), rfl, ⟨hw, rfl, rfl⟩, show va_P D vwCl (wM h cI cJ S L) t.heap by rw [ht]; exact hP⟩, hS.F ht⟩) hS.2.2 hd
  generalize MQ below (va_Qi (fun (r : Int32) (u : SX × LX) => post r ∧ u.1 = S ∧ u.2 = L) (xB D (wM h cI cJ)) (xA 22 h)) args s 0 0 (xA 22 h) = Q at hret ⊢
  unfold kX7_cast at hw
  refine lv_iload_n hx hb dX7_cast_0 rfl (lv_at hl 0 rfl) ?_
  refine lv_if_ne (tgt := 9) hx hb dX7_cast_1 (by decide) (fun hc => ?_) (fun hc => ?_)
  · replace hw := And.right hw hc
    refine lv_iload_n hx hb dX7_cast_9 rfl (lv_at hl 0 rfl) ?_
    refine lv_iconst (v := (1 : Int32)) hx hb dX7_cast_10 (by decide) ?_
    refine lv_icmp_ne (tgt := 19) hx hb dX7_cast_11 (by decide) (fun hc => ?_) (fun hc => ?_)
    · replace hw := And.right hw hc
      refine lv_iload_n hx hb dX7_cast_19 rfl (lv_at hl 1 rfl) ?_
      exact hret _ _ _ _ _ hP hS hw dX7_cast_20
    · replace hw := And.left hw hc
      refine lv_iload_n hx hb dX7_cast_14 rfl (lv_at hl 1 rfl) ?_
      refine lv_i2s hx hb dX7_cast_15 rfl ?_
      refine lv_goto (tgt := 20) hx hb dX7_cast_16 (by decide) ?_
      exact hret _ _ _ _ _ hP hS hw dX7_cast_20
  · replace hw := And.left hw hc
    refine lv_iload_n hx hb dX7_cast_4 rfl (lv_at hl 1 rfl) ?_
    refine lv_i2b hx hb dX7_cast_5 rfl ?_
    refine lv_goto (tgt := 20) hx hb dX7_cast_6 (by decide) ?_
    exact hret _ _ _ _ _ hP hS hw dX7_cast_20
abbrev rX7_book : Room := { frames := 3, cells := 0, slots := 0, locals := 72 }
set_option maxHeartbeats 4000000 in
set_option maxRecDepth 100000 in
theorem mX7_book (l : Launch) (D : va_G) (h : Nat → Nat) (cI cJ : ClassId) (hh : xdis 22 h) (S : SX) (L : LX) (v1 : Int32) (v2 : Int32) (v3 : Int32) (v4 : Int32) (post : Int32 → SX → Prop) (hw : kX7_book S L v1 v2 v3 v4 post) : Met l yX7_book wsX7_book rX7_book (xPre D (wM h cI cJ) (mE D cI cJ) S L [.ref (h 0), .int v1, .int v2, .int v3, .int v4]) (va_Qi (fun (r : Int32) (u : SX × LX) => post r u.1 ∧ u.2 = L) (xB D (wM h cI cJ)) (xA 22 h)) 0 0 (xA 22 h) := by
  refine Met.ofW (cc := cX7_book) (maxL := 9) (ret := (some .int)) (by decide) rfl ?_
  intro p e s m args below meth c s₁ B hml hv
  obtain ⟨hargs, hP, hE⟩ := hv
  have hx := B.exec
  have hb := B.bytes
  have hr := B.returns
  have hlocks := B.notSynchronized
  have hts := atoms_spec (ws := wsX7_book) B.pre
  have hown : s.vm.findClass RX7 = some m.cls := findClass_of_methodNamed B.named
  have hS : va_S (xA 22 h) s.heap s.heap [] := va_S.rf
  have hD : ∀ (S : SX) (L : LX), va_D (xA 22 h) (wM h cI cJ S L) := fun S L => wM_D hh cI cJ S L
  have hK := id hE
  have hst : xSt (xA 22 h) (mE D cI cJ) := mE_st D _ cI cJ
  have f0 := hts (.fieldLink RX7 87 "BookOfWillsModel" "wills" "I") (by decide +kernel)
  have inX7 : ∀ w ∈ u_ws RX7 TX7 28, w ∈ wsX7_book := fun w hw9 => List.mem_cons_of_mem _ (List.mem_append_right _ hw9)
  have f2 := hts (.fieldLink RX7 18 "BookOfWillsModel" "yearOf" "[I") (by decide +kernel)
  have f3 := hts (.fieldLink RX7 73 "BookOfWillsModel" "items" "[I") (by decide +kernel)
  have hl := lv_entry ([.ref (h 0), .int v1, .int v2, .int v3, .int v4]) (n := 9) (Nat.le_of_ble_eq_true rfl)
  have hen : entryFrame m args 9 = F0 m 0 ((lg_sl ([.ref (h 0), .int v1, .int v2, .int v3, .int v4]) ++ List.replicate (9 - (lg_sl ([.ref (h 0), .int v1, .int v2, .int v3, .int v4])).length) Slot.unset).toArray) [] := by rw [hargs]; exact lg_entry_eq m _ _
  rw [hen]
  generalize (lg_sl ([.ref (h 0), .int v1, .int v2, .int v3, .int v4]) ++ List.replicate (9 - (lg_sl ([.ref (h 0), .int v1, .int v2, .int v3, .int v4])).length) Slot.unset).toArray = ls at hl ⊢
  have hl : lv_has ls 9 [(0, .ref (h 0)), (1, .int v1), (2, .int v2), (3, .int v3), (4, .int v4)] := hl
  change W p l e rX7_book s m args below meth c s.heap [] 0 0 (MQ below (va_Qi (fun (r : Int32) (u : SX × LX) => post r u.1 ∧ u.2 = L) (xB D (wM h cI cJ)) (xA 22 h)) args s 0 0 (xA 22 h)) (F0 m 0 ls [])
  have hret : ∀ (r : Int32) (S1 : SX) (H : Heap) (locs : List Loc) (ls : Array Slot) (pc : Nat), va_P D vwCl (wM h cI cJ S1 L) H → va_S (xA 22 h) s.heap H locs → post r S1 → decode cX7_book pc = .ok (.ireturn, 1) → W p l e rX7_book s m args below meth c H locs 0 0 (MQ below (va_Qi (fun (r : Int32) (u : SX × LX) => post r u.1 ∧ u.2 = L) (xB D (wM h cI cJ)) (xA 22 h)) args s 0 0 (xA 22 h)) (F0 m pc ls [.int r]) := fun r S1 H locs ls pc hP hS hw hd => W.iret hx hb hr (fun t ht hW => ⟨⟨r, (S1, L), rfl, ⟨hw, rfl⟩, show va_P D vwCl (wM h cI cJ S1 L) t.heap by rw [ht]; exact hP⟩, hS.F ht⟩) hS.2.2 hd
  generalize MQ below (va_Qi (fun (r : Int32) (u : SX × LX) => post r u.1 ∧ u.2 = L) (xB D (wM h cI cJ)) (xA 22 h)) args s 0 0 (xA 22 h) = Q at hret ⊢
  have b29 : ∀  (n29 : Nat) (v5 : Int32) (v6 : Int32) (S : SX) (H : Heap) (locs : List Loc) (ls : Array Slot), lv_has ls 9 [(0, .ref (h 0)), (1, .int v1), (2, .int v2), (3, .int v3), (4, .int v4), (5, .int v5), (6, .int v6)] → va_P D vwCl (wM h cI cJ S L) H → va_S (xA 22 h) s.heap H locs → kX7_book_b29 L v1 v2 v3 v4 post n29 v5 v6 S → W p l e rX7_book s m args below meth c H locs 0 0 Q (F0 m 29 ls []) := by
    intro n29
    induction n29 with
    | zero => intro v5 v6 S H locs ls hl hP hS hw; exact absurd hw id
    | succ n29 i29 =>
      have b107 : ∀ (v5 : Int32) (n107 : Nat) (v7 : Int32) (v8 : Int32) (S : SX) (H : Heap) (locs : List Loc) (ls : Array Slot), lv_has ls 9 [(0, .ref (h 0)), (1, .int v1), (3, .int v3), (5, .int v5), (7, .int v7), (8, .int v8)] → va_P D vwCl (wM h cI cJ S L) H → va_S (xA 22 h) s.heap H locs → kX7_book_b107 L v1 v2 v3 v4 v5 post n107 v7 v8 S → W p l e rX7_book s m args below meth c H locs 0 0 Q (F0 m 107 ls []) := by
        intro v5 n107
        induction n107 with
        | zero => intro v7 v8 S H locs ls hl hP hS hw; exact absurd hw id
        | succ n107 i107 =>
          intro v7 v8 S H locs ls hl hP hS hw
          unfold kX7_book_b107 at hw
          refine lv_iload hx hb dX7_book_107 (lv_at hl 5 rfl) ?_
          refine lv_aload_n hx hb dX7_book_109 rfl (lv_at hl 0 rfl) ?_
          refine va_get (D := D) (ci := 7) (v := .int (S 0 2)) (C := RX7) (T := TX7) (N := 28) hx hb hts inX7 hown hK hP 0 wM_0 rfl 3 (by decide) f0 (fun _ h9 => h9) rfl dX7_book_110 ?_
          refine lv_icmp_ge (tgt := 164) hx hb dX7_book_113 (by decide) (fun hc => ?_) (fun hc => ?_)
          · replace hw := And.left hw hc
            refine lv_iload hx hb dX7_book_164 (lv_at hl 3 rfl) ?_
            exact hret _ _ _ _ _ _ hP hS hw dX7_book_166
          · replace hw := And.right hw hc
            refine lv_aload_n hx hb dX7_book_116 rfl (lv_at hl 0 rfl) ?_
            refine va_get (D := D) (ci := 7) (v := .ref (h 2)) (C := RX7) (T := TX7) (N := 28) hx hb hts inX7 hown hK hP 0 wM_0 rfl 4 (by decide) f2 (fun _ h9 => h9) rfl dX7_book_117 ?_
            refine lv_iload hx hb dX7_book_120 (lv_at hl 5 rfl) ?_
            obtain ⟨hi, hw⟩ := hw
            refine va_iald hx hb hK hP 2 0 wM_2 rfl hi dX7_book_122 ?_
            refine lv_iload_n hx hb dX7_book_123 rfl (lv_at hl 1 rfl) ?_
            refine lv_icmp_ne (tgt := 158) hx hb dX7_book_124 (by decide) (fun hc => ?_) (fun hc => ?_)
            · replace hw := And.right hw hc
              refine lv_iinc (v := v8 + (1 : Int32)) (lv' := [(8, .int (v8 + (1 : Int32))), (0, .ref (h 0)), (1, .int v1), (3, .int v3), (5, .int v5), (7, .int v7)]) hx hb dX7_book_158 hl (k := 5) rfl rfl (by decide) rfl (fun ls hl => ?_)
              refine lv_goto (tgt := 107) hx hb dX7_book_161 (by decide) ?_
              exact i107 v7 (v8 + (1 : Int32)) S _ _ _ (lv_sub hl [1, 2, 3, 4, 5, 0] rfl) hP hS hw
            · replace hw := And.left hw hc
              refine lv_aload_n hx hb dX7_book_127 rfl (lv_at hl 0 rfl) ?_
              refine lv_iload hx hb dX7_book_128 (lv_at hl 5 rfl) ?_
              refine lv_iload_n hx hb dX7_book_130 rfl (lv_at hl 1 rfl) ?_
              refine xVi0 (As := [.int v8, .int v1]) (rest := []) hst hE hP hS ⟨hx, hb, hml, hown, hts⟩ (va_recv hK hP (ci := 7) (q := (RX7, TX7, 28)) rfl wM_0) (mX7_isBooked l D h cI cJ hh S L v8 v1 _ hw) (cwV 2 hts gX7_book_X7_isBooked rfl rfl rfl (by decide +kernel) ⟨Nat.le_of_ble_eq_true rfl, Nat.le_of_ble_eq_true rfl⟩) rfl hl.1 rfl (Nat.le_of_ble_eq_true rfl) dX7_book_131 ⟨Nat.zero_le _, Nat.zero_le _⟩ (fun r131 H locs hw hP hS => ?_)
              refine lv_if_eq (tgt := 158) hx hb dX7_book_134 (by decide) (fun hc => ?_) (fun hc => ?_)
              · replace hw := And.left hw hc
                refine lv_iinc (v := v8 + (1 : Int32)) (lv' := [(8, .int (v8 + (1 : Int32))), (0, .ref (h 0)), (1, .int v1), (3, .int v3), (5, .int v5), (7, .int v7)]) hx hb dX7_book_158 hl (k := 5) rfl rfl (by decide) rfl (fun ls hl => ?_)
                refine lv_goto (tgt := 107) hx hb dX7_book_161 (by decide) ?_
                exact i107 v7 (v8 + (1 : Int32)) S _ _ _ (lv_sub hl [1, 2, 3, 4, 5, 0] rfl) hP hS hw
              · replace hw := And.right hw hc
                refine lv_aload_n hx hb dX7_book_137 rfl (lv_at hl 0 rfl) ?_
                refine va_get (D := D) (ci := 7) (v := .ref (h 20)) (C := RX7) (T := TX7) (N := 28) hx hb hts inX7 hown hK hP 0 wM_0 rfl 26 (by decide) f3 (fun _ h9 => h9) rfl dX7_book_138 ?_
                refine lv_iload hx hb dX7_book_141 (lv_at hl 4 rfl) ?_
                refine lv_iload_n hx hb dX7_book_143 rfl (lv_at hl 2 rfl) ?_
                refine lv_aload_n hx hb dX7_book_144 rfl (lv_at hl 0 rfl) ?_
                refine lv_iload hx hb dX7_book_145 (lv_at hl 5 rfl) ?_
                refine lv_iload_n hx hb dX7_book_147 rfl (lv_at hl 1 rfl) ?_
                refine xVi0 (As := [.int v8, .int v1]) (rest := [.int v3, .int v7, .ref (h 20)]) hst hE hP hS ⟨hx, hb, hml, hown, hts⟩ (va_recv hK hP (ci := 7) (q := (RX7, TX7, 28)) rfl wM_0) (mX7_sworn l D h cI cJ hh S L v8 v1 _ hw) (cwV 2 hts gX7_book_X7_sworn rfl rfl rfl (by decide +kernel) ⟨Nat.le_of_ble_eq_true rfl, Nat.le_of_ble_eq_true rfl⟩) rfl hl.1 rfl (Nat.le_of_ble_eq_true rfl) dX7_book_148 ⟨Nat.zero_le _, Nat.zero_le _⟩ (fun r148 H locs hw hP hS => ?_)
                refine xSi0 (As := [.int v3, .int r148]) (rest := [.int v7, .ref (h 20)]) hst hE hP hS ⟨hx, hb, hml, hown, hts⟩ (mX7_cast l D h cI cJ hh S L v3 r148 _ hw) (va_cwS 2 hts gX7_book_X7_cast rfl rfl rfl (by decide +kernel) ⟨Nat.le_of_ble_eq_true rfl, Nat.le_of_ble_eq_true rfl⟩) rfl hl.1 rfl (Nat.le_of_ble_eq_true rfl) dX7_book_151 ⟨Nat.zero_le _, Nat.zero_le _⟩ (fun r151 H locs hw hP hS => ?_)
                obtain ⟨hi, hw⟩ := hw
                refine x_iast (ws2 := wM h cI cJ (xu S 20 v7.toNatClampNeg r151) L) hx hb hK hP (hD _ _) hS 20 0 wM_20 rfl hi dX7_book_154 (wM_u20 _ _) (fun H locs hP hS => ?_)
                refine lv_iinc (v := v7 + (1 : Int32)) (lv' := [(7, .int (v7 + (1 : Int32))), (0, .ref (h 0)), (1, .int v1), (3, .int v3), (5, .int v5), (8, .int v8)]) hx hb dX7_book_155 hl (k := 4) rfl rfl (by decide) rfl (fun ls hl => ?_)
                refine lv_iinc (v := v8 + (1 : Int32)) (lv' := [(8, .int (v8 + (1 : Int32))), (7, .int (v7 + (1 : Int32))), (0, .ref (h 0)), (1, .int v1), (3, .int v3), (5, .int v5)]) hx hb dX7_book_158 hl (k := 5) rfl rfl (by decide) rfl (fun ls hl => ?_)
                refine lv_goto (tgt := 107) hx hb dX7_book_161 (by decide) ?_
                exact i107 (v7 + (1 : Int32)) (v8 + (1 : Int32)) (xu S 20 v7.toNatClampNeg r151) _ _ _ (lv_sub hl [2, 3, 4, 5, 1, 0] rfl) hP hS hw
      intro v5 v6 S H locs ls hl hP hS hw
      unfold kX7_book_b29 at hw
      refine lv_iload hx hb dX7_book_29 (lv_at hl 6 rfl) ?_
      refine lv_aload_n hx hb dX7_book_31 rfl (lv_at hl 0 rfl) ?_
      refine va_get (D := D) (ci := 7) (v := .int (S 0 2)) (C := RX7) (T := TX7) (N := 28) hx hb hts inX7 hown hK hP 0 wM_0 rfl 3 (by decide) f0 (fun _ h9 => h9) rfl dX7_book_32 ?_
      refine lv_icmp_ge (tgt := 75) hx hb dX7_book_35 (by decide) (fun hc => ?_) (fun hc => ?_)
      · replace hw := And.left hw hc
        refine lv_aload_n hx hb dX7_book_75 rfl (lv_at hl 0 rfl) ?_
        refine lv_iload_n hx hb dX7_book_76 rfl (lv_at hl 2 rfl) ?_
        refine lv_iload_n hx hb dX7_book_77 rfl (lv_at hl 3 rfl) ?_
        refine lv_iload hx hb dX7_book_78 (lv_at hl 4 rfl) ?_
        refine lv_iload hx hb dX7_book_80 (lv_at hl 5 rfl) ?_
        refine xVi0 (As := [.int v2, .int v3, .int v4, .int v5]) (rest := []) hst hE hP hS ⟨hx, hb, hml, hown, hts⟩ (va_recv hK hP (ci := 7) (q := (RX7, TX7, 28)) rfl wM_0) (mX7_finds l D h cI cJ hh S L v2 v3 v4 v5 _ hw) (cwV 4 hts gX7_book_X7_finds rfl rfl rfl (by decide +kernel) ⟨Nat.le_of_ble_eq_true rfl, Nat.le_of_ble_eq_true rfl⟩) rfl hl.1 rfl (Nat.le_of_ble_eq_true rfl) dX7_book_82 ⟨Nat.zero_le _, Nat.zero_le _⟩ (fun r82 H locs hw hP hS => ?_)
        refine lv_istore (lv' := [(6, .int r82), (0, .ref (h 0)), (1, .int v1), (2, .int v2), (3, .int v3), (4, .int v4), (5, .int v5)]) hx hb dX7_book_85 hl (by decide) rfl (fun ls hl => ?_)
        refine lv_iload hx hb dX7_book_87 (lv_at hl 0 rfl) ?_
        refine lv_if_ge (tgt := 95) hx hb dX7_book_89 (by decide) (fun hc => ?_) (fun hc => ?_)
        · replace hw := And.left hw hc
          refine lv_bipush (v := (24 : Int32)) hx hb dX7_book_95 (by decide) ?_
          refine lv_iload_n hx hb dX7_book_97 rfl (lv_at hl 3 rfl) ?_
          refine lv_imul hx hb dX7_book_98 ?_
          refine lv_iload hx hb dX7_book_99 (lv_at hl 5 rfl) ?_
          refine lv_iadd hx hb dX7_book_101 ?_
          refine lv_istore (lv' := [(7, .int (((24 : Int32) * v2) + v4)), (6, .int r82), (0, .ref (h 0)), (1, .int v1), (2, .int v2), (3, .int v3), (4, .int v4), (5, .int v5)]) hx hb dX7_book_102 hl (by decide) rfl (fun ls hl => ?_)
          refine lv_iconst (v := (0 : Int32)) hx hb dX7_book_104 (by decide) ?_
          refine lv_istore (lv' := [(8, .int (0 : Int32)), (7, .int (((24 : Int32) * v2) + v4)), (6, .int r82), (0, .ref (h 0)), (1, .int v1), (2, .int v2), (3, .int v3), (4, .int v4), (5, .int v5)]) hx hb dX7_book_105 hl (by decide) rfl (fun ls hl => ?_)
          obtain ⟨n107, hw⟩ := hw
          exact b107 v5 n107 (((24 : Int32) * v2) + v4) (0 : Int32) S _ _ _ (lv_sub hl [3, 4, 6, 8, 1, 0] rfl) hP hS hw
        · replace hw := And.right hw hc
          refine lv_iload hx hb dX7_book_92 (lv_at hl 0 rfl) ?_
          exact hret _ _ _ _ _ _ hP hS hw dX7_book_94
      · replace hw := And.right hw hc
        refine lv_iload hx hb dX7_book_38 (lv_at hl 5 rfl) ?_
        refine lv_aload_n hx hb dX7_book_40 rfl (lv_at hl 0 rfl) ?_
        refine va_get (D := D) (ci := 7) (v := .ref (h 2)) (C := RX7) (T := TX7) (N := 28) hx hb hts inX7 hown hK hP 0 wM_0 rfl 4 (by decide) f2 (fun _ h9 => h9) rfl dX7_book_41 ?_
        refine lv_iload hx hb dX7_book_44 (lv_at hl 6 rfl) ?_
        obtain ⟨hi, hw⟩ := hw
        refine va_iald hx hb hK hP 2 0 wM_2 rfl hi dX7_book_46 ?_
        refine lv_iload_n hx hb dX7_book_47 rfl (lv_at hl 1 rfl) ?_
        refine lv_icmp_ne (tgt := 65) hx hb dX7_book_48 (by decide) (fun hc => ?_) (fun hc => ?_)
        · replace hw := And.right hw hc
          refine lv_iconst (v := (0 : Int32)) hx hb dX7_book_65 (by decide) ?_
          refine lv_iadd hx hb dX7_book_66 ?_
          refine lv_istore (lv' := [(5, .int (v5 + (0 : Int32))), (0, .ref (h 0)), (1, .int v1), (2, .int v2), (3, .int v3), (4, .int v4), (6, .int v6)]) hx hb dX7_book_67 hl (by decide) rfl (fun ls hl => ?_)
          refine lv_iinc (v := v6 + (1 : Int32)) (lv' := [(6, .int (v6 + (1 : Int32))), (5, .int (v5 + (0 : Int32))), (0, .ref (h 0)), (1, .int v1), (2, .int v2), (3, .int v3), (4, .int v4)]) hx hb dX7_book_69 hl (k := 6) rfl rfl (by decide) rfl (fun ls hl => ?_)
          refine lv_goto (tgt := 29) hx hb dX7_book_72 (by decide) ?_
          exact i29 (v5 + (0 : Int32)) (v6 + (1 : Int32)) S _ _ _ (lv_sub hl [2, 3, 4, 5, 6, 1, 0] rfl) hP hS hw
        · replace hw := And.left hw hc
          refine lv_aload_n hx hb dX7_book_51 rfl (lv_at hl 0 rfl) ?_
          refine lv_iload hx hb dX7_book_52 (lv_at hl 6 rfl) ?_
          refine lv_iload_n hx hb dX7_book_54 rfl (lv_at hl 1 rfl) ?_
          refine xVi0 (As := [.int v6, .int v1]) (rest := [.int v5]) hst hE hP hS ⟨hx, hb, hml, hown, hts⟩ (va_recv hK hP (ci := 7) (q := (RX7, TX7, 28)) rfl wM_0) (mX7_isBooked l D h cI cJ hh S L v6 v1 _ hw) (cwV 2 hts gX7_book_X7_isBooked rfl rfl rfl (by decide +kernel) ⟨Nat.le_of_ble_eq_true rfl, Nat.le_of_ble_eq_true rfl⟩) rfl hl.1 rfl (Nat.le_of_ble_eq_true rfl) dX7_book_55 ⟨Nat.zero_le _, Nat.zero_le _⟩ (fun r55 H locs hw hP hS => ?_)
          refine lv_if_eq (tgt := 65) hx hb dX7_book_58 (by decide) (fun hc => ?_) (fun hc => ?_)
          · replace hw := And.left hw hc
            refine lv_iconst (v := (0 : Int32)) hx hb dX7_book_65 (by decide) ?_
            refine lv_iadd hx hb dX7_book_66 ?_
            refine lv_istore (lv' := [(5, .int (v5 + (0 : Int32))), (0, .ref (h 0)), (1, .int v1), (2, .int v2), (3, .int v3), (4, .int v4), (6, .int v6)]) hx hb dX7_book_67 hl (by decide) rfl (fun ls hl => ?_)
            refine lv_iinc (v := v6 + (1 : Int32)) (lv' := [(6, .int (v6 + (1 : Int32))), (5, .int (v5 + (0 : Int32))), (0, .ref (h 0)), (1, .int v1), (2, .int v2), (3, .int v3), (4, .int v4)]) hx hb dX7_book_69 hl (k := 6) rfl rfl (by decide) rfl (fun ls hl => ?_)
            refine lv_goto (tgt := 29) hx hb dX7_book_72 (by decide) ?_
            exact i29 (v5 + (0 : Int32)) (v6 + (1 : Int32)) S _ _ _ (lv_sub hl [2, 3, 4, 5, 6, 1, 0] rfl) hP hS hw
          · replace hw := And.right hw hc
            refine lv_iconst (v := (1 : Int32)) hx hb dX7_book_61 (by decide) ?_
            refine lv_goto (tgt := 66) hx hb dX7_book_62 (by decide) ?_
            refine lv_iadd hx hb dX7_book_66 ?_
            refine lv_istore (lv' := [(5, .int (v5 + (1 : Int32))), (0, .ref (h 0)), (1, .int v1), (2, .int v2), (3, .int v3), (4, .int v4), (6, .int v6)]) hx hb dX7_book_67 hl (by decide) rfl (fun ls hl => ?_)
            refine lv_iinc (v := v6 + (1 : Int32)) (lv' := [(6, .int (v6 + (1 : Int32))), (5, .int (v5 + (1 : Int32))), (0, .ref (h 0)), (1, .int v1), (2, .int v2), (3, .int v3), (4, .int v4)]) hx hb dX7_book_69 hl (k := 6) rfl rfl (by decide) rfl (fun ls hl => ?_)
            refine lv_goto (tgt := 29) hx hb dX7_book_72 (by decide) ?_
            exact i29 (v5 + (1 : Int32)) (v6 + (1 : Int32)) S _ _ _ (lv_sub hl [2, 3, 4, 5, 6, 1, 0] rfl) hP hS hw
  unfold kX7_book at hw
  refine lv_iload_n hx hb dX7_book_0 rfl (lv_at hl 1 rfl) ?_
  refine xSi0 (As := [.int v1]) (rest := []) hst hE hP hS ⟨hx, hb, hml, hown, hts⟩ (mX7_isYear l D h cI cJ hh S L v1 _ hw) (va_cwS 1 hts gX7_book_X7_isYear rfl rfl rfl (by decide +kernel) ⟨Nat.le_of_ble_eq_true rfl, Nat.le_of_ble_eq_true rfl⟩) rfl hl.1 rfl (Nat.le_of_ble_eq_true rfl) dX7_book_1 ⟨Nat.zero_le _, Nat.zero_le _⟩ (fun r1 H locs hw hP hS => ?_)
  refine lv_if_eq (tgt := 21) hx hb dX7_book_4 (by decide) (fun hc => ?_) (fun hc => ?_)
  · replace hw := And.left hw hc
    refine lv_iconst (v := (-1 : Int32)) hx hb dX7_book_21 (by decide) ?_
    exact hret _ _ _ _ _ _ hP hS hw dX7_book_22
  · replace hw := And.right hw hc
    refine lv_iload_n hx hb dX7_book_7 rfl (lv_at hl 2 rfl) ?_
    refine xSi0 (As := [.int v2]) (rest := []) hst hE hP hS ⟨hx, hb, hml, hown, hts⟩ (mX7_isSheet l D h cI cJ hh S L v2 _ hw) (va_cwS 1 hts gX7_book_X7_isSheet rfl rfl rfl (by decide +kernel) ⟨Nat.le_of_ble_eq_true rfl, Nat.le_of_ble_eq_true rfl⟩) rfl hl.1 rfl (Nat.le_of_ble_eq_true rfl) dX7_book_8 ⟨Nat.zero_le _, Nat.zero_le _⟩ (fun r8 H locs hw hP hS => ?_)
    refine lv_if_eq (tgt := 21) hx hb dX7_book_11 (by decide) (fun hc => ?_) (fun hc => ?_)
    · replace hw := And.left hw hc
      refine lv_iconst (v := (-1 : Int32)) hx hb dX7_book_21 (by decide) ?_
      exact hret _ _ _ _ _ _ hP hS hw dX7_book_22
    · replace hw := And.right hw hc
      refine lv_iload_n hx hb dX7_book_14 rfl (lv_at hl 3 rfl) ?_
      refine xSi0 (As := [.int v3]) (rest := []) hst hE hP hS ⟨hx, hb, hml, hown, hts⟩ (mX7_isLane l D h cI cJ hh S L v3 _ hw) (va_cwS 1 hts gX7_book_X7_isLane rfl rfl rfl (by decide +kernel) ⟨Nat.le_of_ble_eq_true rfl, Nat.le_of_ble_eq_true rfl⟩) rfl hl.1 rfl (Nat.le_of_ble_eq_true rfl) dX7_book_15 ⟨Nat.zero_le _, Nat.zero_le _⟩ (fun r15 H locs hw hP hS => ?_)
      refine lv_if_ne (tgt := 23) hx hb dX7_book_18 (by decide) (fun hc => ?_) (fun hc => ?_)
      · replace hw := And.right hw hc
        refine lv_iconst (v := (0 : Int32)) hx hb dX7_book_23 (by decide) ?_
        refine lv_istore (lv' := [(5, .int (0 : Int32)), (0, .ref (h 0)), (1, .int v1), (2, .int v2), (3, .int v3), (4, .int v4)]) hx hb dX7_book_24 hl (by decide) rfl (fun ls hl => ?_)
        refine lv_iconst (v := (0 : Int32)) hx hb dX7_book_26 (by decide) ?_
        refine lv_istore (lv' := [(6, .int (0 : Int32)), (5, .int (0 : Int32)), (0, .ref (h 0)), (1, .int v1), (2, .int v2), (3, .int v3), (4, .int v4)]) hx hb dX7_book_27 hl (by decide) rfl (fun ls hl => ?_)
        obtain ⟨n29, hw⟩ := hw
        exact b29  n29 (0 : Int32) (0 : Int32) S _ _ _ (lv_sub hl [2, 3, 4, 5, 6, 1, 0] rfl) hP hS hw
      · replace hw := And.left hw hc
        refine lv_iconst (v := (-1 : Int32)) hx hb dX7_book_21 (by decide) ?_
        exact hret _ _ _ _ _ _ hP hS hw dX7_book_22
abbrev rX7_crowds : Room := { frames := 2, cells := 0, slots := 0, locals := 45 }
set_option maxHeartbeats 4000000 in
set_option maxRecDepth 100000 in
theorem mX7_crowds (l : Launch) (D : va_G) (h : Nat → Nat) (cI cJ : ClassId) (hh : xdis 22 h) (S : SX) (L : LX) (v1 : Int32) (v2 : Int32) (v3 : Int32) (post : Int32 → SX → Prop) (hw : kX7_crowds S L v1 v2 v3 post) : Met l yX7_crowds wsX7_crowds rX7_crowds (xPre D (wM h cI cJ) (mE D cI cJ) S L [.ref (h 0), .int v1, .int v2, .int v3]) (va_Qi (fun (r : Int32) (u : SX × LX) => post r u.1 ∧ u.2 = L) (xB D (wM h cI cJ)) (xA 22 h)) 0 0 (xA 22 h) := by
  refine Met.ofW (cc := cX7_crowds) (maxL := 6) (ret := (some .int)) (by decide) rfl ?_
  intro p e s m args below meth c s₁ B hml hv
  obtain ⟨hargs, hP, hE⟩ := hv
  have hx := B.exec
  have hb := B.bytes
  have hr := B.returns
  have hlocks := B.notSynchronized
  have hts := atoms_spec (ws := wsX7_crowds) B.pre
  have hown : s.vm.findClass RX7 = some m.cls := findClass_of_methodNamed B.named
  have hS : va_S (xA 22 h) s.heap s.heap [] := va_S.rf
  have hD : ∀ (S : SX) (L : LX), va_D (xA 22 h) (wM h cI cJ S L) := fun S L => wM_D hh cI cJ S L
  have hK := id hE
  have hst : xSt (xA 22 h) (mE D cI cJ) := mE_st D _ cI cJ
  have f0 := hts (.fieldLink RX7 42 "BookOfWillsModel" "crowd" "[I") (by decide +kernel)
  have inX7 : ∀ w ∈ u_ws RX7 TX7 28, w ∈ wsX7_crowds := fun w hw9 => List.mem_cons_of_mem _ (List.mem_append_right _ hw9)
  have f2 := hts (.fieldLink RX7 73 "BookOfWillsModel" "items" "[I") (by decide +kernel)
  have f3 := hts (.constantLong RX7 140 (999999)) (by decide +kernel)
  have hl := lv_entry ([.ref (h 0), .int v1, .int v2, .int v3]) (n := 6) (Nat.le_of_ble_eq_true rfl)
  have hen : entryFrame m args 6 = F0 m 0 ((lg_sl ([.ref (h 0), .int v1, .int v2, .int v3]) ++ List.replicate (6 - (lg_sl ([.ref (h 0), .int v1, .int v2, .int v3])).length) Slot.unset).toArray) [] := by rw [hargs]; exact lg_entry_eq m _ _
  rw [hen]
  generalize (lg_sl ([.ref (h 0), .int v1, .int v2, .int v3]) ++ List.replicate (6 - (lg_sl ([.ref (h 0), .int v1, .int v2, .int v3])).length) Slot.unset).toArray = ls at hl ⊢
  have hl : lv_has ls 6 [(0, .ref (h 0)), (1, .int v1), (2, .int v2), (3, .int v3)] := hl
  change W p l e rX7_crowds s m args below meth c s.heap [] 0 0 (MQ below (va_Qi (fun (r : Int32) (u : SX × LX) => post r u.1 ∧ u.2 = L) (xB D (wM h cI cJ)) (xA 22 h)) args s 0 0 (xA 22 h)) (F0 m 0 ls [])
  have hret : ∀ (r : Int32) (S1 : SX) (H : Heap) (locs : List Loc) (ls : Array Slot) (pc : Nat), va_P D vwCl (wM h cI cJ S1 L) H → va_S (xA 22 h) s.heap H locs → post r S1 → decode cX7_crowds pc = .ok (.ireturn, 1) → W p l e rX7_crowds s m args below meth c H locs 0 0 (MQ below (va_Qi (fun (r : Int32) (u : SX × LX) => post r u.1 ∧ u.2 = L) (xB D (wM h cI cJ)) (xA 22 h)) args s 0 0 (xA 22 h)) (F0 m pc ls [.int r]) := fun r S1 H locs ls pc hP hS hw hd => W.iret hx hb hr (fun t ht hW => ⟨⟨r, (S1, L), rfl, ⟨hw, rfl⟩, show va_P D vwCl (wM h cI cJ S1 L) t.heap by rw [ht]; exact hP⟩, hS.F ht⟩) hS.2.2 hd
  generalize MQ below (va_Qi (fun (r : Int32) (u : SX × LX) => post r u.1 ∧ u.2 = L) (xB D (wM h cI cJ)) (xA 22 h)) args s 0 0 (xA 22 h) = Q at hret ⊢
  have b38 : ∀  (n38 : Nat) (v5 : Int32) (S : SX) (H : Heap) (locs : List Loc) (ls : Array Slot), lv_has ls 6 [(0, .ref (h 0)), (1, .int v1), (3, .int v3), (5, .int v5)] → va_P D vwCl (wM h cI cJ S L) H → va_S (xA 22 h) s.heap H locs → kX7_crowds_b38 L v1 v2 v3 post n38 v5 S → W p l e rX7_crowds s m args below meth c H locs 0 0 Q (F0 m 38 ls []) := by
    intro n38
    induction n38 with
    | zero => intro v5 S H locs ls hl hP hS hw; exact absurd hw id
    | succ n38 i38 =>
      have b82 : ∀  (n82 : Nat) (v5 : Int32) (S : SX) (H : Heap) (locs : List Loc) (ls : Array Slot), lv_has ls 6 [(0, .ref (h 0)), (1, .int v1), (3, .int v3), (5, .int v5)] → va_P D vwCl (wM h cI cJ S L) H → va_S (xA 22 h) s.heap H locs → kX7_crowds_b82 L v1 v2 v3 post n82 v5 S → W p l e rX7_crowds s m args below meth c H locs 0 0 Q (F0 m 82 ls []) := by
        intro n82
        induction n82 with
        | zero => intro v5 S H locs ls hl hP hS hw; exact absurd hw id
        | succ n82 i82 =>
          intro v5 S H locs ls hl hP hS hw
          unfold kX7_crowds_b82 at hw
          refine lv_iload hx hb dX7_crowds_82 (lv_at hl 3 rfl) ?_
          refine lv_bipush (v := (8 : Int32)) hx hb dX7_crowds_84 (by decide) ?_
          refine lv_icmp_ge (tgt := 116) hx hb dX7_crowds_86 (by decide) (fun hc => ?_) (fun hc => ?_)
          · replace hw := And.left hw hc
            refine lv_bipush (v := (8 : Int32)) hx hb dX7_crowds_116 (by decide) ?_
            exact hret _ _ _ _ _ _ hP hS hw dX7_crowds_118
          · replace hw := And.right hw hc
            refine lv_aload_n hx hb dX7_crowds_89 rfl (lv_at hl 0 rfl) ?_
            refine va_get (D := D) (ci := 7) (v := .ref (h 10)) (C := RX7) (T := TX7) (N := 28) hx hb hts inX7 hown hK hP 0 wM_0 rfl 12 (by decide) f0 (fun _ h9 => h9) rfl dX7_crowds_90 ?_
            refine lv_iload hx hb dX7_crowds_93 (lv_at hl 3 rfl) ?_
            refine lv_aload_n hx hb dX7_crowds_95 rfl (lv_at hl 0 rfl) ?_
            refine va_get (D := D) (ci := 7) (v := .ref (h 20)) (C := RX7) (T := TX7) (N := 28) hx hb hts inX7 hown hK hP 0 wM_0 rfl 26 (by decide) f2 (fun _ h9 => h9) rfl dX7_crowds_96 ?_
            refine lv_bipush (v := (24 : Int32)) hx hb dX7_crowds_99 (by decide) ?_
            refine lv_iload_n hx hb dX7_crowds_101 rfl (lv_at hl 1 rfl) ?_
            refine lv_imul hx hb dX7_crowds_102 ?_
            refine lv_iload_n hx hb dX7_crowds_103 rfl (lv_at hl 2 rfl) ?_
            refine lv_iadd hx hb dX7_crowds_104 ?_
            refine lv_iload hx hb dX7_crowds_105 (lv_at hl 3 rfl) ?_
            refine lv_iadd hx hb dX7_crowds_107 ?_
            obtain ⟨hi, hw⟩ := hw
            refine va_iald hx hb hK hP 20 0 wM_20 rfl hi dX7_crowds_108 ?_
            obtain ⟨hi, hw⟩ := hw
            refine x_iast (ws2 := wM h cI cJ (xu S 10 v5.toNatClampNeg (S 20 ((((24 : Int32) * v1) + v3) + v5).toNatClampNeg)) L) hx hb hK hP (hD _ _) hS 10 0 wM_10 rfl hi dX7_crowds_109 (wM_u10 _ _) (fun H locs hP hS => ?_)
            refine lv_iinc (v := v5 + (1 : Int32)) (lv' := [(5, .int (v5 + (1 : Int32))), (0, .ref (h 0)), (1, .int v1), (3, .int v3)]) hx hb dX7_crowds_110 hl (k := 3) rfl rfl (by decide) rfl (fun ls hl => ?_)
            refine lv_goto (tgt := 82) hx hb dX7_crowds_113 (by decide) ?_
            exact i82 (v5 + (1 : Int32)) (xu S 10 v5.toNatClampNeg (S 20 ((((24 : Int32) * v1) + v3) + v5).toNatClampNeg)) _ _ _ (lv_sub hl [1, 2, 3, 0] rfl) hP hS hw
      intro v5 S H locs ls hl hP hS hw
      unfold kX7_crowds_b38 at hw
      refine lv_iload hx hb dX7_crowds_38 (lv_at hl 3 rfl) ?_
      refine lv_bipush (v := (8 : Int32)) hx hb dX7_crowds_40 (by decide) ?_
      refine lv_icmp_ge (tgt := 79) hx hb dX7_crowds_42 (by decide) (fun hc => ?_) (fun hc => ?_)
      · replace hw := And.left hw hc
        refine lv_iconst (v := (0 : Int32)) hx hb dX7_crowds_79 (by decide) ?_
        refine lv_istore (lv' := [(5, .int (0 : Int32)), (0, .ref (h 0)), (1, .int v1), (3, .int v3)]) hx hb dX7_crowds_80 hl (by decide) rfl (fun ls hl => ?_)
        obtain ⟨n82, hw⟩ := hw
        exact b82  n82 (0 : Int32) S _ _ _ (lv_sub hl [1, 2, 3, 0] rfl) hP hS hw
      · replace hw := And.right hw hc
        refine lv_aload_n hx hb dX7_crowds_45 rfl (lv_at hl 0 rfl) ?_
        refine va_get (D := D) (ci := 7) (v := .ref (h 20)) (C := RX7) (T := TX7) (N := 28) hx hb hts inX7 hown hK hP 0 wM_0 rfl 26 (by decide) f2 (fun _ h9 => h9) rfl dX7_crowds_46 ?_
        refine lv_bipush (v := (24 : Int32)) hx hb dX7_crowds_49 (by decide) ?_
        refine lv_iload_n hx hb dX7_crowds_51 rfl (lv_at hl 1 rfl) ?_
        refine lv_imul hx hb dX7_crowds_52 ?_
        refine lv_iload_n hx hb dX7_crowds_53 rfl (lv_at hl 2 rfl) ?_
        refine lv_iadd hx hb dX7_crowds_54 ?_
        refine lv_iload hx hb dX7_crowds_55 (lv_at hl 3 rfl) ?_
        refine lv_iadd hx hb dX7_crowds_57 ?_
        obtain ⟨hi, hw⟩ := hw
        refine va_iald hx hb hK hP 20 0 wM_20 rfl hi dX7_crowds_58 ?_
        refine lv_i2l hx hb dX7_crowds_59 rfl ?_
        refine lv_lconst (v := (1 : Int64)) hx hb dX7_crowds_60 (by decide) ?_
        refine lv_ldc2 (v := (999999 : Int64)) hx hb hown (f3) dX7_crowds_61 ?_
        refine xSi0 (As := [.long ((S 20 ((((24 : Int32) * v1) + v3) + v5).toNatClampNeg).toInt64), .long (1 : Int64), .long (999999 : Int64)]) (rest := []) hst hE hP hS ⟨hx, hb, hml, hown, hts⟩ (mX7_in l D h cI cJ hh S L ((S 20 ((((24 : Int32) * v1) + v3) + v5).toNatClampNeg).toInt64) (1 : Int64) (999999 : Int64) _ hw) (va_cwS 3 hts gX7_crowds_X7_in rfl rfl rfl (by decide +kernel) ⟨Nat.le_of_ble_eq_true rfl, Nat.le_of_ble_eq_true rfl⟩) rfl hl.1 rfl (Nat.le_of_ble_eq_true rfl) dX7_crowds_64 ⟨Nat.zero_le _, Nat.zero_le _⟩ (fun r64 H locs hw hP hS => ?_)
        refine lv_if_ne (tgt := 73) hx hb dX7_crowds_67 (by decide) (fun hc => ?_) (fun hc => ?_)
        · replace hw := And.right hw hc
          refine lv_iinc (v := v5 + (1 : Int32)) (lv' := [(5, .int (v5 + (1 : Int32))), (0, .ref (h 0)), (1, .int v1), (3, .int v3)]) hx hb dX7_crowds_73 hl (k := 3) rfl rfl (by decide) rfl (fun ls hl => ?_)
          refine lv_goto (tgt := 38) hx hb dX7_crowds_76 (by decide) ?_
          exact i38 (v5 + (1 : Int32)) S _ _ _ (lv_sub hl [1, 2, 3, 0] rfl) hP hS hw
        · replace hw := And.left hw hc
          refine lv_bipush (v := (-2 : Int32)) hx hb dX7_crowds_70 (by decide) ?_
          exact hret _ _ _ _ _ _ hP hS hw dX7_crowds_72
  unfold kX7_crowds at hw
  refine lv_iload_n hx hb dX7_crowds_0 rfl (lv_at hl 1 rfl) ?_
  refine xSi0 (As := [.int v1]) (rest := []) hst hE hP hS ⟨hx, hb, hml, hown, hts⟩ (mX7_isSheet l D h cI cJ hh S L v1 _ hw) (va_cwS 1 hts gX7_crowds_X7_isSheet rfl rfl rfl (by decide +kernel) ⟨Nat.le_of_ble_eq_true rfl, Nat.le_of_ble_eq_true rfl⟩) rfl hl.1 rfl (Nat.le_of_ble_eq_true rfl) dX7_crowds_1 ⟨Nat.zero_le _, Nat.zero_le _⟩ (fun r1 H locs hw hP hS => ?_)
  refine lv_if_eq (tgt := 14) hx hb dX7_crowds_4 (by decide) (fun hc => ?_) (fun hc => ?_)
  · replace hw := And.left hw hc
    refine lv_iconst (v := (-1 : Int32)) hx hb dX7_crowds_14 (by decide) ?_
    exact hret _ _ _ _ _ _ hP hS hw dX7_crowds_15
  · replace hw := And.right hw hc
    refine lv_iload_n hx hb dX7_crowds_7 rfl (lv_at hl 2 rfl) ?_
    refine xSi0 (As := [.int v2]) (rest := []) hst hE hP hS ⟨hx, hb, hml, hown, hts⟩ (mX7_isLane l D h cI cJ hh S L v2 _ hw) (va_cwS 1 hts gX7_crowds_X7_isLane rfl rfl rfl (by decide +kernel) ⟨Nat.le_of_ble_eq_true rfl, Nat.le_of_ble_eq_true rfl⟩) rfl hl.1 rfl (Nat.le_of_ble_eq_true rfl) dX7_crowds_8 ⟨Nat.zero_le _, Nat.zero_le _⟩ (fun r8 H locs hw hP hS => ?_)
    refine lv_if_ne (tgt := 16) hx hb dX7_crowds_11 (by decide) (fun hc => ?_) (fun hc => ?_)
    · replace hw := And.right hw hc
      refine lv_aload_n hx hb dX7_crowds_16 rfl (lv_at hl 0 rfl) ?_
      refine lv_iload_n hx hb dX7_crowds_17 rfl (lv_at hl 1 rfl) ?_
      refine lv_iload_n hx hb dX7_crowds_18 rfl (lv_at hl 2 rfl) ?_
      refine lv_iload_n hx hb dX7_crowds_19 rfl (lv_at hl 3 rfl) ?_
      refine lv_bipush (v := (8 : Int32)) hx hb dX7_crowds_20 (by decide) ?_
      refine xVi0 (As := [.int v1, .int v2, .int v3, .int (8 : Int32)]) (rest := []) hst hE hP hS ⟨hx, hb, hml, hown, hts⟩ (va_recv hK hP (ci := 7) (q := (RX7, TX7, 28)) rfl wM_0) (mX7_finds l D h cI cJ hh S L v1 v2 v3 (8 : Int32) _ hw) (cwV 4 hts gX7_crowds_X7_finds rfl rfl rfl (by decide +kernel) ⟨Nat.le_of_ble_eq_true rfl, Nat.le_of_ble_eq_true rfl⟩) rfl hl.1 rfl (Nat.le_of_ble_eq_true rfl) dX7_crowds_22 ⟨Nat.zero_le _, Nat.zero_le _⟩ (fun r22 H locs hw hP hS => ?_)
      refine lv_istore (lv' := [(4, .int r22), (0, .ref (h 0)), (1, .int v1), (2, .int v2), (3, .int v3)]) hx hb dX7_crowds_25 hl (by decide) rfl (fun ls hl => ?_)
      refine lv_iload hx hb dX7_crowds_27 (lv_at hl 0 rfl) ?_
      refine lv_if_ge (tgt := 35) hx hb dX7_crowds_29 (by decide) (fun hc => ?_) (fun hc => ?_)
      · replace hw := And.left hw hc
        refine lv_iconst (v := (0 : Int32)) hx hb dX7_crowds_35 (by decide) ?_
        refine lv_istore (lv' := [(5, .int (0 : Int32)), (4, .int r22), (0, .ref (h 0)), (1, .int v1), (2, .int v2), (3, .int v3)]) hx hb dX7_crowds_36 hl (by decide) rfl (fun ls hl => ?_)
        obtain ⟨n38, hw⟩ := hw
        exact b38  n38 (0 : Int32) S _ _ _ (lv_sub hl [2, 3, 5, 0] rfl) hP hS hw
      · replace hw := And.right hw hc
        refine lv_iload hx hb dX7_crowds_32 (lv_at hl 0 rfl) ?_
        exact hret _ _ _ _ _ _ hP hS hw dX7_crowds_34
    · replace hw := And.left hw hc
      refine lv_iconst (v := (-1 : Int32)) hx hb dX7_crowds_14 (by decide) ?_
      exact hret _ _ _ _ _ _ hP hS hw dX7_crowds_15
abbrev rX7_sheet : Room := { frames := 2, cells := 0, slots := 0, locals := 45 }
set_option maxHeartbeats 4000000 in
set_option maxRecDepth 100000 in
theorem mX7_sheet (l : Launch) (D : va_G) (h : Nat → Nat) (cI cJ : ClassId) (hh : xdis 22 h) (S : SX) (L : LX) (v1 : Int32) (v2 : Int32) (v3 : Int32) (post : Int32 → SX → Prop) (hw : kX7_sheet S L v1 v2 v3 post) : Met l yX7_sheet wsX7_sheet rX7_sheet (xPre D (wM h cI cJ) (mE D cI cJ) S L [.ref (h 0), .int v1, .int v2, .int v3]) (va_Qi (fun (r : Int32) (u : SX × LX) => post r u.1 ∧ u.2 = L) (xB D (wM h cI cJ)) (xA 22 h)) 0 0 (xA 22 h) := by
  refine Met.ofW (cc := cX7_sheet) (maxL := 5) (ret := (some .int)) (by decide) rfl ?_
  intro p e s m args below meth c s₁ B hml hv
  obtain ⟨hargs, hP, hE⟩ := hv
  have hx := B.exec
  have hb := B.bytes
  have hr := B.returns
  have hlocks := B.notSynchronized
  have hts := atoms_spec (ws := wsX7_sheet) B.pre
  have hown : s.vm.findClass RX7 = some m.cls := findClass_of_methodNamed B.named
  have hS : va_S (xA 22 h) s.heap s.heap [] := va_S.rf
  have hD : ∀ (S : SX) (L : LX), va_D (xA 22 h) (wM h cI cJ S L) := fun S L => wM_D hh cI cJ S L
  have hK := id hE
  have hst : xSt (xA 22 h) (mE D cI cJ) := mE_st D _ cI cJ
  have f0 := hts (.fieldLink RX7 73 "BookOfWillsModel" "items" "[I") (by decide +kernel)
  have inX7 : ∀ w ∈ u_ws RX7 TX7 28, w ∈ wsX7_sheet := fun w hw9 => List.mem_cons_of_mem _ (List.mem_append_right _ hw9)
  have f2 := hts (.fieldLink RX7 67 "BookOfWillsModel" "lanes" "[I") (by decide +kernel)
  have f3 := hts (.fieldLink RX7 70 "BookOfWillsModel" "sizes" "[I") (by decide +kernel)
  have hl := lv_entry ([.ref (h 0), .int v1, .int v2, .int v3]) (n := 5) (Nat.le_of_ble_eq_true rfl)
  have hen : entryFrame m args 5 = F0 m 0 ((lg_sl ([.ref (h 0), .int v1, .int v2, .int v3]) ++ List.replicate (5 - (lg_sl ([.ref (h 0), .int v1, .int v2, .int v3])).length) Slot.unset).toArray) [] := by rw [hargs]; exact lg_entry_eq m _ _
  rw [hen]
  generalize (lg_sl ([.ref (h 0), .int v1, .int v2, .int v3]) ++ List.replicate (5 - (lg_sl ([.ref (h 0), .int v1, .int v2, .int v3])).length) Slot.unset).toArray = ls at hl ⊢
  have hl : lv_has ls 5 [(0, .ref (h 0)), (1, .int v1), (2, .int v2), (3, .int v3)] := hl
  change W p l e rX7_sheet s m args below meth c s.heap [] 0 0 (MQ below (va_Qi (fun (r : Int32) (u : SX × LX) => post r u.1 ∧ u.2 = L) (xB D (wM h cI cJ)) (xA 22 h)) args s 0 0 (xA 22 h)) (F0 m 0 ls [])
  have hret : ∀ (r : Int32) (S1 : SX) (H : Heap) (locs : List Loc) (ls : Array Slot) (pc : Nat), va_P D vwCl (wM h cI cJ S1 L) H → va_S (xA 22 h) s.heap H locs → post r S1 → decode cX7_sheet pc = .ok (.ireturn, 1) → W p l e rX7_sheet s m args below meth c H locs 0 0 (MQ below (va_Qi (fun (r : Int32) (u : SX × LX) => post r u.1 ∧ u.2 = L) (xB D (wM h cI cJ)) (xA 22 h)) args s 0 0 (xA 22 h)) (F0 m pc ls [.int r]) := fun r S1 H locs ls pc hP hS hw hd => W.iret hx hb hr (fun t ht hW => ⟨⟨r, (S1, L), rfl, ⟨hw, rfl⟩, show va_P D vwCl (wM h cI cJ S1 L) t.heap by rw [ht]; exact hP⟩, hS.F ht⟩) hS.2.2 hd
  generalize MQ below (va_Qi (fun (r : Int32) (u : SX × LX) => post r u.1 ∧ u.2 = L) (xB D (wM h cI cJ)) (xA 22 h)) args s 0 0 (xA 22 h) = Q at hret ⊢
  have b46 : ∀  (n46 : Nat) (v4 : Int32) (S : SX) (H : Heap) (locs : List Loc) (ls : Array Slot), lv_has ls 5 [(0, .ref (h 0)), (1, .int v1), (3, .int v3), (4, .int v4)] → va_P D vwCl (wM h cI cJ S L) H → va_S (xA 22 h) s.heap H locs → kX7_sheet_b46 L v1 v2 v3 post n46 v4 S → W p l e rX7_sheet s m args below meth c H locs 0 0 Q (F0 m 46 ls []) := by
    intro n46
    induction n46 with
    | zero => intro v4 S H locs ls hl hP hS hw; exact absurd hw id
    | succ n46 i46 =>
      intro v4 S H locs ls hl hP hS hw
      unfold kX7_sheet_b46 at hw
      refine lv_iload hx hb dX7_sheet_46 (lv_at hl 3 rfl) ?_
      refine lv_bipush (v := (24 : Int32)) hx hb dX7_sheet_48 (by decide) ?_
      refine lv_icmp_ge (tgt := 72) hx hb dX7_sheet_50 (by decide) (fun hc => ?_) (fun hc => ?_)
      · replace hw := And.left hw hc
        refine lv_iload_n hx hb dX7_sheet_72 rfl (lv_at hl 2 rfl) ?_
        exact hret _ _ _ _ _ _ hP hS hw dX7_sheet_73
      · replace hw := And.right hw hc
        refine lv_aload_n hx hb dX7_sheet_53 rfl (lv_at hl 0 rfl) ?_
        refine va_get (D := D) (ci := 7) (v := .ref (h 20)) (C := RX7) (T := TX7) (N := 28) hx hb hts inX7 hown hK hP 0 wM_0 rfl 26 (by decide) f0 (fun _ h9 => h9) rfl dX7_sheet_54 ?_
        refine lv_bipush (v := (24 : Int32)) hx hb dX7_sheet_57 (by decide) ?_
        refine lv_iload_n hx hb dX7_sheet_59 rfl (lv_at hl 1 rfl) ?_
        refine lv_imul hx hb dX7_sheet_60 ?_
        refine lv_iload hx hb dX7_sheet_61 (lv_at hl 3 rfl) ?_
        refine lv_iadd hx hb dX7_sheet_63 ?_
        refine lv_iconst (v := (0 : Int32)) hx hb dX7_sheet_64 (by decide) ?_
        obtain ⟨hi, hw⟩ := hw
        refine x_iast (ws2 := wM h cI cJ (xu S 20 (((24 : Int32) * v1) + v4).toNatClampNeg (0 : Int32)) L) hx hb hK hP (hD _ _) hS 20 0 wM_20 rfl hi dX7_sheet_65 (wM_u20 _ _) (fun H locs hP hS => ?_)
        refine lv_iinc (v := v4 + (1 : Int32)) (lv' := [(4, .int (v4 + (1 : Int32))), (0, .ref (h 0)), (1, .int v1), (3, .int v3)]) hx hb dX7_sheet_66 hl (k := 3) rfl rfl (by decide) rfl (fun ls hl => ?_)
        refine lv_goto (tgt := 46) hx hb dX7_sheet_69 (by decide) ?_
        exact i46 (v4 + (1 : Int32)) (xu S 20 (((24 : Int32) * v1) + v4).toNatClampNeg (0 : Int32)) _ _ _ (lv_sub hl [1, 2, 3, 0] rfl) hP hS hw
  unfold kX7_sheet at hw
  refine lv_iload_n hx hb dX7_sheet_0 rfl (lv_at hl 1 rfl) ?_
  refine xSi0 (As := [.int v1]) (rest := []) hst hE hP hS ⟨hx, hb, hml, hown, hts⟩ (mX7_isSheet l D h cI cJ hh S L v1 _ hw) (va_cwS 1 hts gX7_sheet_X7_isSheet rfl rfl rfl (by decide +kernel) ⟨Nat.le_of_ble_eq_true rfl, Nat.le_of_ble_eq_true rfl⟩) rfl hl.1 rfl (Nat.le_of_ble_eq_true rfl) dX7_sheet_1 ⟨Nat.zero_le _, Nat.zero_le _⟩ (fun r1 H locs hw hP hS => ?_)
  refine lv_if_eq (tgt := 20) hx hb dX7_sheet_4 (by decide) (fun hc => ?_) (fun hc => ?_)
  · replace hw := And.left hw hc
    refine lv_iconst (v := (-1 : Int32)) hx hb dX7_sheet_20 (by decide) ?_
    exact hret _ _ _ _ _ _ hP hS hw dX7_sheet_21
  · replace hw := And.right hw hc
    refine lv_iload_n hx hb dX7_sheet_7 rfl (lv_at hl 2 rfl) ?_
    refine xSi0 (As := [.int v2]) (rest := []) hst hE hP hS ⟨hx, hb, hml, hown, hts⟩ (mX7_isLane l D h cI cJ hh S L v2 _ hw) (va_cwS 1 hts gX7_sheet_X7_isLane rfl rfl rfl (by decide +kernel) ⟨Nat.le_of_ble_eq_true rfl, Nat.le_of_ble_eq_true rfl⟩) rfl hl.1 rfl (Nat.le_of_ble_eq_true rfl) dX7_sheet_8 ⟨Nat.zero_le _, Nat.zero_le _⟩ (fun r8 H locs hw hP hS => ?_)
    refine lv_if_eq (tgt := 20) hx hb dX7_sheet_11 (by decide) (fun hc => ?_) (fun hc => ?_)
    · replace hw := And.left hw hc
      refine lv_iconst (v := (-1 : Int32)) hx hb dX7_sheet_20 (by decide) ?_
      exact hret _ _ _ _ _ _ hP hS hw dX7_sheet_21
    · replace hw := And.right hw hc
      refine lv_iload_n hx hb dX7_sheet_14 rfl (lv_at hl 3 rfl) ?_
      refine lv_bipush (v := (24 : Int32)) hx hb dX7_sheet_15 (by decide) ?_
      refine lv_icmp_le (tgt := 22) hx hb dX7_sheet_17 (by decide) (fun hc => ?_) (fun hc => ?_)
      · replace hw := And.left hw hc
        refine lv_iload_n hx hb dX7_sheet_22 rfl (lv_at hl 3 rfl) ?_
        refine lv_if_ge (tgt := 29) hx hb dX7_sheet_23 (by decide) (fun hc => ?_) (fun hc => ?_)
        · replace hw := And.left hw hc
          refine lv_aload_n hx hb dX7_sheet_29 rfl (lv_at hl 0 rfl) ?_
          refine va_get (D := D) (ci := 7) (v := .ref (h 18)) (C := RX7) (T := TX7) (N := 28) hx hb hts inX7 hown hK hP 0 wM_0 rfl 24 (by decide) f2 (fun _ h9 => h9) rfl dX7_sheet_30 ?_
          refine lv_iload_n hx hb dX7_sheet_33 rfl (lv_at hl 1 rfl) ?_
          refine lv_iload_n hx hb dX7_sheet_34 rfl (lv_at hl 2 rfl) ?_
          obtain ⟨hi, hw⟩ := hw
          refine x_iast (ws2 := wM h cI cJ (xu S 18 v1.toNatClampNeg v2) L) hx hb hK hP (hD _ _) hS 18 0 wM_18 rfl hi dX7_sheet_35 (wM_u18 _ _) (fun H locs hP hS => ?_)
          refine lv_aload_n hx hb dX7_sheet_36 rfl (lv_at hl 0 rfl) ?_
          refine va_get (D := D) (ci := 7) (v := .ref (h 19)) (C := RX7) (T := TX7) (N := 28) hx hb hts inX7 hown hK hP 0 wM_0 rfl 25 (by decide) f3 (fun _ h9 => h9) rfl dX7_sheet_37 ?_
          refine lv_iload_n hx hb dX7_sheet_40 rfl (lv_at hl 1 rfl) ?_
          refine lv_iload_n hx hb dX7_sheet_41 rfl (lv_at hl 3 rfl) ?_
          obtain ⟨hi, hw⟩ := hw
          refine x_iast (ws2 := wM h cI cJ (xu (xu S 18 v1.toNatClampNeg v2) 19 v1.toNatClampNeg v3) L) hx hb hK hP (hD _ _) hS 19 0 wM_19 rfl hi dX7_sheet_42 (wM_u19 _ _) (fun H locs hP hS => ?_)
          refine lv_iconst (v := (0 : Int32)) hx hb dX7_sheet_43 (by decide) ?_
          refine lv_istore (lv' := [(4, .int (0 : Int32)), (0, .ref (h 0)), (1, .int v1), (2, .int v2), (3, .int v3)]) hx hb dX7_sheet_44 hl (by decide) rfl (fun ls hl => ?_)
          obtain ⟨n46, hw⟩ := hw
          exact b46  n46 (0 : Int32) (xu (xu S 18 v1.toNatClampNeg v2) 19 v1.toNatClampNeg v3) _ _ _ (lv_sub hl [1, 2, 4, 0] rfl) hP hS hw
        · replace hw := And.right hw hc
          refine lv_bipush (v := (-14 : Int32)) hx hb dX7_sheet_26 (by decide) ?_
          exact hret _ _ _ _ _ _ hP hS hw dX7_sheet_28
      · replace hw := And.right hw hc
        refine lv_iconst (v := (-1 : Int32)) hx hb dX7_sheet_20 (by decide) ?_
        exact hret _ _ _ _ _ _ hP hS hw dX7_sheet_21
abbrev rX7_drop : Room := { frames := 2, cells := 0, slots := 0, locals := 45 }
set_option maxHeartbeats 4000000 in
set_option maxRecDepth 100000 in
theorem mX7_drop (l : Launch) (D : va_G) (h : Nat → Nat) (cI cJ : ClassId) (hh : xdis 22 h) (S : SX) (L : LX) (v1 : Int32) (post : Int32 → SX → Prop) (hw : kX7_drop S L v1 post) : Met l yX7_drop wsX7_drop rX7_drop (xPre D (wM h cI cJ) (mE D cI cJ) S L [.ref (h 0), .int v1]) (va_Qi (fun (r : Int32) (u : SX × LX) => post r u.1 ∧ u.2 = L) (xB D (wM h cI cJ)) (xA 22 h)) 0 0 (xA 22 h) := by
  refine Met.ofW (cc := cX7_drop) (maxL := 2) (ret := (some .int)) (by decide) rfl ?_
  intro p e s m args below meth c s₁ B hml hv
  obtain ⟨hargs, hP, hE⟩ := hv
  have hx := B.exec
  have hb := B.bytes
  have hr := B.returns
  have hlocks := B.notSynchronized
  have hts := atoms_spec (ws := wsX7_drop) B.pre
  have hown : s.vm.findClass RX7 = some m.cls := findClass_of_methodNamed B.named
  have hS : va_S (xA 22 h) s.heap s.heap [] := va_S.rf
  have hD : ∀ (S : SX) (L : LX), va_D (xA 22 h) (wM h cI cJ S L) := fun S L => wM_D hh cI cJ S L
  have hK := id hE
  have hst : xSt (xA 22 h) (mE D cI cJ) := mE_st D _ cI cJ
  have f0 := hts (.fieldLink RX7 67 "BookOfWillsModel" "lanes" "[I") (by decide +kernel)
  have inX7 : ∀ w ∈ u_ws RX7 TX7 28, w ∈ wsX7_drop := fun w hw9 => List.mem_cons_of_mem _ (List.mem_append_right _ hw9)
  have f2 := hts (.fieldLink RX7 70 "BookOfWillsModel" "sizes" "[I") (by decide +kernel)
  have hl := lv_entry ([.ref (h 0), .int v1]) (n := 2) (Nat.le_of_ble_eq_true rfl)
  have hen : entryFrame m args 2 = F0 m 0 ((lg_sl ([.ref (h 0), .int v1]) ++ List.replicate (2 - (lg_sl ([.ref (h 0), .int v1])).length) Slot.unset).toArray) [] := by rw [hargs]; exact lg_entry_eq m _ _
  rw [hen]
  generalize (lg_sl ([.ref (h 0), .int v1]) ++ List.replicate (2 - (lg_sl ([.ref (h 0), .int v1])).length) Slot.unset).toArray = ls at hl ⊢
  have hl : lv_has ls 2 [(0, .ref (h 0)), (1, .int v1)] := hl
  change W p l e rX7_drop s m args below meth c s.heap [] 0 0 (MQ below (va_Qi (fun (r : Int32) (u : SX × LX) => post r u.1 ∧ u.2 = L) (xB D (wM h cI cJ)) (xA 22 h)) args s 0 0 (xA 22 h)) (F0 m 0 ls [])
  have hret : ∀ (r : Int32) (S1 : SX) (H : Heap) (locs : List Loc) (ls : Array Slot) (pc : Nat), va_P D vwCl (wM h cI cJ S1 L) H → va_S (xA 22 h) s.heap H locs → post r S1 → decode cX7_drop pc = .ok (.ireturn, 1) → W p l e rX7_drop s m args below meth c H locs 0 0 (MQ below (va_Qi (fun (r : Int32) (u : SX × LX) => post r u.1 ∧ u.2 = L) (xB D (wM h cI cJ)) (xA 22 h)) args s 0 0 (xA 22 h)) (F0 m pc ls [.int r]) := fun r S1 H locs ls pc hP hS hw hd => W.iret hx hb hr (fun t ht hW => ⟨⟨r, (S1, L), rfl, ⟨hw, rfl⟩, show va_P D vwCl (wM h cI cJ S1 L) t.heap by rw [ht]; exact hP⟩, hS.F ht⟩) hS.2.2 hd
  generalize MQ below (va_Qi (fun (r : Int32) (u : SX × LX) => post r u.1 ∧ u.2 = L) (xB D (wM h cI cJ)) (xA 22 h)) args s 0 0 (xA 22 h) = Q at hret ⊢
  unfold kX7_drop at hw
  refine lv_iload_n hx hb dX7_drop_0 rfl (lv_at hl 1 rfl) ?_
  refine xSi0 (As := [.int v1]) (rest := []) hst hE hP hS ⟨hx, hb, hml, hown, hts⟩ (mX7_isSheet l D h cI cJ hh S L v1 _ hw) (va_cwS 1 hts gX7_drop_X7_isSheet rfl rfl rfl (by decide +kernel) ⟨Nat.le_of_ble_eq_true rfl, Nat.le_of_ble_eq_true rfl⟩) rfl hl.1 rfl (Nat.le_of_ble_eq_true rfl) dX7_drop_1 ⟨Nat.zero_le _, Nat.zero_le _⟩ (fun r1 H locs hw hP hS => ?_)
  refine lv_if_ne (tgt := 9) hx hb dX7_drop_4 (by decide) (fun hc => ?_) (fun hc => ?_)
  · replace hw := And.right hw hc
    refine lv_aload_n hx hb dX7_drop_9 rfl (lv_at hl 0 rfl) ?_
    refine va_get (D := D) (ci := 7) (v := .ref (h 18)) (C := RX7) (T := TX7) (N := 28) hx hb hts inX7 hown hK hP 0 wM_0 rfl 24 (by decide) f0 (fun _ h9 => h9) rfl dX7_drop_10 ?_
    refine lv_iload_n hx hb dX7_drop_13 rfl (lv_at hl 1 rfl) ?_
    obtain ⟨hi, hw⟩ := hw
    refine va_iald hx hb hK hP 18 0 wM_18 rfl hi dX7_drop_14 ?_
    refine lv_if_ge (tgt := 21) hx hb dX7_drop_15 (by decide) (fun hc => ?_) (fun hc => ?_)
    · replace hw := And.left hw hc
      refine lv_aload_n hx hb dX7_drop_21 rfl (lv_at hl 0 rfl) ?_
      refine va_get (D := D) (ci := 7) (v := .ref (h 18)) (C := RX7) (T := TX7) (N := 28) hx hb hts inX7 hown hK hP 0 wM_0 rfl 24 (by decide) f0 (fun _ h9 => h9) rfl dX7_drop_22 ?_
      refine lv_iload_n hx hb dX7_drop_25 rfl (lv_at hl 1 rfl) ?_
      refine lv_iconst (v := (-1 : Int32)) hx hb dX7_drop_26 (by decide) ?_
      obtain ⟨hi, hw⟩ := hw
      refine x_iast (ws2 := wM h cI cJ (xu S 18 v1.toNatClampNeg (-1 : Int32)) L) hx hb hK hP (hD _ _) hS 18 0 wM_18 rfl hi dX7_drop_27 (wM_u18 _ _) (fun H locs hP hS => ?_)
      refine lv_aload_n hx hb dX7_drop_28 rfl (lv_at hl 0 rfl) ?_
      refine va_get (D := D) (ci := 7) (v := .ref (h 19)) (C := RX7) (T := TX7) (N := 28) hx hb hts inX7 hown hK hP 0 wM_0 rfl 25 (by decide) f2 (fun _ h9 => h9) rfl dX7_drop_29 ?_
      refine lv_iload_n hx hb dX7_drop_32 rfl (lv_at hl 1 rfl) ?_
      obtain ⟨hi, hw⟩ := hw
      refine va_iald hx hb hK hP 19 0 wM_19 rfl hi dX7_drop_33 ?_
      exact hret _ _ _ _ _ _ hP hS hw dX7_drop_34
    · replace hw := And.right hw hc
      refine lv_bipush (v := (-11 : Int32)) hx hb dX7_drop_18 (by decide) ?_
      exact hret _ _ _ _ _ _ hP hS hw dX7_drop_20
  · replace hw := And.left hw hc
    refine lv_iconst (v := (-1 : Int32)) hx hb dX7_drop_7 (by decide) ?_
    exact hret _ _ _ _ _ _ hP hS hw dX7_drop_8
abbrev rX7_item : Room := { frames := 2, cells := 0, slots := 0, locals := 45 }
set_option maxHeartbeats 4000000 in
set_option maxRecDepth 100000 in
theorem mX7_item (l : Launch) (D : va_G) (h : Nat → Nat) (cI cJ : ClassId) (hh : xdis 22 h) (S : SX) (L : LX) (v1 : Int32) (v2 : Int32) (v3 : Int32) (v4 : Int32) (post : Int32 → SX → Prop) (hw : kX7_item S L v1 v2 v3 v4 post) : Met l yX7_item wsX7_item rX7_item (xPre D (wM h cI cJ) (mE D cI cJ) S L [.ref (h 0), .int v1, .int v2, .int v3, .int v4]) (va_Qi (fun (r : Int32) (u : SX × LX) => post r u.1 ∧ u.2 = L) (xB D (wM h cI cJ)) (xA 22 h)) 0 0 (xA 22 h) := by
  refine Met.ofW (cc := cX7_item) (maxL := 6) (ret := (some .int)) (by decide) rfl ?_
  intro p e s m args below meth c s₁ B hml hv
  obtain ⟨hargs, hP, hE⟩ := hv
  have hx := B.exec
  have hb := B.bytes
  have hr := B.returns
  have hlocks := B.notSynchronized
  have hts := atoms_spec (ws := wsX7_item) B.pre
  have hown : s.vm.findClass RX7 = some m.cls := findClass_of_methodNamed B.named
  have hS : va_S (xA 22 h) s.heap s.heap [] := va_S.rf
  have hD : ∀ (S : SX) (L : LX), va_D (xA 22 h) (wM h cI cJ S L) := fun S L => wM_D hh cI cJ S L
  have hK := id hE
  have hst : xSt (xA 22 h) (mE D cI cJ) := mE_st D _ cI cJ
  have f0 := hts (.fieldLink RX7 73 "BookOfWillsModel" "items" "[I") (by decide +kernel)
  have inX7 : ∀ w ∈ u_ws RX7 TX7 28, w ∈ wsX7_item := fun w hw9 => List.mem_cons_of_mem _ (List.mem_append_right _ hw9)
  have hl := lv_entry ([.ref (h 0), .int v1, .int v2, .int v3, .int v4]) (n := 6) (Nat.le_of_ble_eq_true rfl)
  have hen : entryFrame m args 6 = F0 m 0 ((lg_sl ([.ref (h 0), .int v1, .int v2, .int v3, .int v4]) ++ List.replicate (6 - (lg_sl ([.ref (h 0), .int v1, .int v2, .int v3, .int v4])).length) Slot.unset).toArray) [] := by rw [hargs]; exact lg_entry_eq m _ _
  rw [hen]
  generalize (lg_sl ([.ref (h 0), .int v1, .int v2, .int v3, .int v4]) ++ List.replicate (6 - (lg_sl ([.ref (h 0), .int v1, .int v2, .int v3, .int v4])).length) Slot.unset).toArray = ls at hl ⊢
  have hl : lv_has ls 6 [(0, .ref (h 0)), (1, .int v1), (2, .int v2), (3, .int v3), (4, .int v4)] := hl
  change W p l e rX7_item s m args below meth c s.heap [] 0 0 (MQ below (va_Qi (fun (r : Int32) (u : SX × LX) => post r u.1 ∧ u.2 = L) (xB D (wM h cI cJ)) (xA 22 h)) args s 0 0 (xA 22 h)) (F0 m 0 ls [])
  have hret : ∀ (r : Int32) (S1 : SX) (H : Heap) (locs : List Loc) (ls : Array Slot) (pc : Nat), va_P D vwCl (wM h cI cJ S1 L) H → va_S (xA 22 h) s.heap H locs → post r S1 → decode cX7_item pc = .ok (.ireturn, 1) → W p l e rX7_item s m args below meth c H locs 0 0 (MQ below (va_Qi (fun (r : Int32) (u : SX × LX) => post r u.1 ∧ u.2 = L) (xB D (wM h cI cJ)) (xA 22 h)) args s 0 0 (xA 22 h)) (F0 m pc ls [.int r]) := fun r S1 H locs ls pc hP hS hw hd => W.iret hx hb hr (fun t ht hW => ⟨⟨r, (S1, L), rfl, ⟨hw, rfl⟩, show va_P D vwCl (wM h cI cJ S1 L) t.heap by rw [ht]; exact hP⟩, hS.F ht⟩) hS.2.2 hd
  generalize MQ below (va_Qi (fun (r : Int32) (u : SX × LX) => post r u.1 ∧ u.2 = L) (xB D (wM h cI cJ)) (xA 22 h)) args s 0 0 (xA 22 h) = Q at hret ⊢
  unfold kX7_item at hw
  refine lv_iload_n hx hb dX7_item_0 rfl (lv_at hl 1 rfl) ?_
  refine xSi0 (As := [.int v1]) (rest := []) hst hE hP hS ⟨hx, hb, hml, hown, hts⟩ (mX7_isSheet l D h cI cJ hh S L v1 _ hw) (va_cwS 1 hts gX7_item_X7_isSheet rfl rfl rfl (by decide +kernel) ⟨Nat.le_of_ble_eq_true rfl, Nat.le_of_ble_eq_true rfl⟩) rfl hl.1 rfl (Nat.le_of_ble_eq_true rfl) dX7_item_1 ⟨Nat.zero_le _, Nat.zero_le _⟩ (fun r1 H locs hw hP hS => ?_)
  refine lv_if_eq (tgt := 14) hx hb dX7_item_4 (by decide) (fun hc => ?_) (fun hc => ?_)
  · replace hw := And.left hw hc
    refine lv_iconst (v := (-1 : Int32)) hx hb dX7_item_14 (by decide) ?_
    exact hret _ _ _ _ _ _ hP hS hw dX7_item_15
  · replace hw := And.right hw hc
    refine lv_iload_n hx hb dX7_item_7 rfl (lv_at hl 2 rfl) ?_
    refine xSi0 (As := [.int v2]) (rest := []) hst hE hP hS ⟨hx, hb, hml, hown, hts⟩ (mX7_isLane l D h cI cJ hh S L v2 _ hw) (va_cwS 1 hts gX7_item_X7_isLane rfl rfl rfl (by decide +kernel) ⟨Nat.le_of_ble_eq_true rfl, Nat.le_of_ble_eq_true rfl⟩) rfl hl.1 rfl (Nat.le_of_ble_eq_true rfl) dX7_item_8 ⟨Nat.zero_le _, Nat.zero_le _⟩ (fun r8 H locs hw hP hS => ?_)
    refine lv_if_ne (tgt := 16) hx hb dX7_item_11 (by decide) (fun hc => ?_) (fun hc => ?_)
    · replace hw := And.right hw hc
      refine lv_aload_n hx hb dX7_item_16 rfl (lv_at hl 0 rfl) ?_
      refine lv_iload_n hx hb dX7_item_17 rfl (lv_at hl 1 rfl) ?_
      refine lv_iload_n hx hb dX7_item_18 rfl (lv_at hl 2 rfl) ?_
      refine lv_iload_n hx hb dX7_item_19 rfl (lv_at hl 3 rfl) ?_
      refine lv_iconst (v := (1 : Int32)) hx hb dX7_item_20 (by decide) ?_
      refine xVi0 (As := [.int v1, .int v2, .int v3, .int (1 : Int32)]) (rest := []) hst hE hP hS ⟨hx, hb, hml, hown, hts⟩ (va_recv hK hP (ci := 7) (q := (RX7, TX7, 28)) rfl wM_0) (mX7_finds l D h cI cJ hh S L v1 v2 v3 (1 : Int32) _ hw) (cwV 4 hts gX7_item_X7_finds rfl rfl rfl (by decide +kernel) ⟨Nat.le_of_ble_eq_true rfl, Nat.le_of_ble_eq_true rfl⟩) rfl hl.1 rfl (Nat.le_of_ble_eq_true rfl) dX7_item_21 ⟨Nat.zero_le _, Nat.zero_le _⟩ (fun r21 H locs hw hP hS => ?_)
      refine lv_istore (lv' := [(5, .int r21), (0, .ref (h 0)), (1, .int v1), (2, .int v2), (3, .int v3), (4, .int v4)]) hx hb dX7_item_24 hl (by decide) rfl (fun ls hl => ?_)
      refine lv_iload hx hb dX7_item_26 (lv_at hl 0 rfl) ?_
      refine lv_if_ge (tgt := 34) hx hb dX7_item_28 (by decide) (fun hc => ?_) (fun hc => ?_)
      · replace hw := And.left hw hc
        refine lv_aload_n hx hb dX7_item_34 rfl (lv_at hl 1 rfl) ?_
        refine va_get (D := D) (ci := 7) (v := .ref (h 20)) (C := RX7) (T := TX7) (N := 28) hx hb hts inX7 hown hK hP 0 wM_0 rfl 26 (by decide) f0 (fun _ h9 => h9) rfl dX7_item_35 ?_
        refine lv_bipush (v := (24 : Int32)) hx hb dX7_item_38 (by decide) ?_
        refine lv_iload_n hx hb dX7_item_40 rfl (lv_at hl 2 rfl) ?_
        refine lv_imul hx hb dX7_item_41 ?_
        refine lv_iload_n hx hb dX7_item_42 rfl (lv_at hl 4 rfl) ?_
        refine lv_iadd hx hb dX7_item_43 ?_
        refine lv_iload_n hx hb dX7_item_44 rfl (lv_at hl 3 rfl) ?_
        refine lv_iload hx hb dX7_item_45 (lv_at hl 5 rfl) ?_
        refine xSi0 (As := [.int v2, .int v4]) (rest := [.int (((24 : Int32) * v1) + v3), .ref (h 20)]) hst hE hP hS ⟨hx, hb, hml, hown, hts⟩ (mX7_cast l D h cI cJ hh S L v2 v4 _ hw) (va_cwS 2 hts gX7_item_X7_cast rfl rfl rfl (by decide +kernel) ⟨Nat.le_of_ble_eq_true rfl, Nat.le_of_ble_eq_true rfl⟩) rfl hl.1 rfl (Nat.le_of_ble_eq_true rfl) dX7_item_47 ⟨Nat.zero_le _, Nat.zero_le _⟩ (fun r47 H locs hw hP hS => ?_)
        obtain ⟨hi, hw⟩ := hw
        refine x_iast (ws2 := wM h cI cJ (xu S 20 (((24 : Int32) * v1) + v3).toNatClampNeg r47) L) hx hb hK hP (hD _ _) hS 20 0 wM_20 rfl hi dX7_item_50 (wM_u20 _ _) (fun H locs hP hS => ?_)
        refine lv_iconst (v := (1 : Int32)) hx hb dX7_item_51 (by decide) ?_
        exact hret _ _ _ _ _ _ hP hS hw dX7_item_52
      · replace hw := And.right hw hc
        refine lv_iload hx hb dX7_item_31 (lv_at hl 0 rfl) ?_
        exact hret _ _ _ _ _ _ hP hS hw dX7_item_33
    · replace hw := And.left hw hc
      refine lv_iconst (v := (-1 : Int32)) hx hb dX7_item_14 (by decide) ?_
      exact hret _ _ _ _ _ _ hP hS hw dX7_item_15
abbrev rX7_copy : Room := { frames := 2, cells := 0, slots := 0, locals := 45 }
set_option maxHeartbeats 4000000 in
set_option maxRecDepth 100000 in
theorem mX7_copy (l : Launch) (D : va_G) (h : Nat → Nat) (cI cJ : ClassId) (hh : xdis 22 h) (S : SX) (L : LX) (v1 : Int32) (v2 : Int32) (v3 : Int32) (v4 : Int32) (v5 : Int32) (post : Int32 → SX → Prop) (hw : kX7_copy S L v1 v2 v3 v4 v5 post) : Met l yX7_copy wsX7_copy rX7_copy (xPre D (wM h cI cJ) (mE D cI cJ) S L [.ref (h 0), .int v1, .int v2, .int v3, .int v4, .int v5]) (va_Qi (fun (r : Int32) (u : SX × LX) => post r u.1 ∧ u.2 = L) (xB D (wM h cI cJ)) (xA 22 h)) 0 0 (xA 22 h) := by
  refine Met.ofW (cc := cX7_copy) (maxL := 7) (ret := (some .int)) (by decide) rfl ?_
  intro p e s m args below meth c s₁ B hml hv
  obtain ⟨hargs, hP, hE⟩ := hv
  have hx := B.exec
  have hb := B.bytes
  have hr := B.returns
  have hlocks := B.notSynchronized
  have hts := atoms_spec (ws := wsX7_copy) B.pre
  have hown : s.vm.findClass RX7 = some m.cls := findClass_of_methodNamed B.named
  have hS : va_S (xA 22 h) s.heap s.heap [] := va_S.rf
  have hD : ∀ (S : SX) (L : LX), va_D (xA 22 h) (wM h cI cJ S L) := fun S L => wM_D hh cI cJ S L
  have hK := id hE
  have hst : xSt (xA 22 h) (mE D cI cJ) := mE_st D _ cI cJ
  have f0 := hts (.fieldLink RX7 73 "BookOfWillsModel" "items" "[I") (by decide +kernel)
  have inX7 : ∀ w ∈ u_ws RX7 TX7 28, w ∈ wsX7_copy := fun w hw9 => List.mem_cons_of_mem _ (List.mem_append_right _ hw9)
  have f2 := hts (.fieldLink RX7 76 "BookOfWillsModel" "moved" "[I") (by decide +kernel)
  have f3 := hts (.fieldLink RX7 67 "BookOfWillsModel" "lanes" "[I") (by decide +kernel)
  have hl := lv_entry ([.ref (h 0), .int v1, .int v2, .int v3, .int v4, .int v5]) (n := 7) (Nat.le_of_ble_eq_true rfl)
  have hen : entryFrame m args 7 = F0 m 0 ((lg_sl ([.ref (h 0), .int v1, .int v2, .int v3, .int v4, .int v5]) ++ List.replicate (7 - (lg_sl ([.ref (h 0), .int v1, .int v2, .int v3, .int v4, .int v5])).length) Slot.unset).toArray) [] := by rw [hargs]; exact lg_entry_eq m _ _
  rw [hen]
  generalize (lg_sl ([.ref (h 0), .int v1, .int v2, .int v3, .int v4, .int v5]) ++ List.replicate (7 - (lg_sl ([.ref (h 0), .int v1, .int v2, .int v3, .int v4, .int v5])).length) Slot.unset).toArray = ls at hl ⊢
  have hl : lv_has ls 7 [(0, .ref (h 0)), (1, .int v1), (2, .int v2), (3, .int v3), (4, .int v4), (5, .int v5)] := hl
  change W p l e rX7_copy s m args below meth c s.heap [] 0 0 (MQ below (va_Qi (fun (r : Int32) (u : SX × LX) => post r u.1 ∧ u.2 = L) (xB D (wM h cI cJ)) (xA 22 h)) args s 0 0 (xA 22 h)) (F0 m 0 ls [])
  have hret : ∀ (r : Int32) (S1 : SX) (H : Heap) (locs : List Loc) (ls : Array Slot) (pc : Nat), va_P D vwCl (wM h cI cJ S1 L) H → va_S (xA 22 h) s.heap H locs → post r S1 → decode cX7_copy pc = .ok (.ireturn, 1) → W p l e rX7_copy s m args below meth c H locs 0 0 (MQ below (va_Qi (fun (r : Int32) (u : SX × LX) => post r u.1 ∧ u.2 = L) (xB D (wM h cI cJ)) (xA 22 h)) args s 0 0 (xA 22 h)) (F0 m pc ls [.int r]) := fun r S1 H locs ls pc hP hS hw hd => W.iret hx hb hr (fun t ht hW => ⟨⟨r, (S1, L), rfl, ⟨hw, rfl⟩, show va_P D vwCl (wM h cI cJ S1 L) t.heap by rw [ht]; exact hP⟩, hS.F ht⟩) hS.2.2 hd
  generalize MQ below (va_Qi (fun (r : Int32) (u : SX × LX) => post r u.1 ∧ u.2 = L) (xB D (wM h cI cJ)) (xA 22 h)) args s 0 0 (xA 22 h) = Q at hret ⊢
  have b101 : ∀  (n101 : Nat) (v6 : Int32) (S : SX) (H : Heap) (locs : List Loc) (ls : Array Slot), lv_has ls 7 [(0, .ref (h 0)), (1, .int v1), (2, .int v2), (3, .int v3), (4, .int v4), (5, .int v5), (6, .int v6)] → va_P D vwCl (wM h cI cJ S L) H → va_S (xA 22 h) s.heap H locs → kX7_copy_b101 L v1 v2 v3 v4 v5 post n101 v6 S → W p l e rX7_copy s m args below meth c H locs 0 0 Q (F0 m 101 ls []) := by
    intro n101
    induction n101 with
    | zero => intro v6 S H locs ls hl hP hS hw; exact absurd hw id
    | succ n101 i101 =>
      have b138 : ∀  (n138 : Nat) (v6 : Int32) (S : SX) (H : Heap) (locs : List Loc) (ls : Array Slot), lv_has ls 7 [(0, .ref (h 0)), (3, .int v3), (4, .int v4), (5, .int v5), (6, .int v6)] → va_P D vwCl (wM h cI cJ S L) H → va_S (xA 22 h) s.heap H locs → kX7_copy_b138 L v1 v2 v3 v4 v5 post n138 v6 S → W p l e rX7_copy s m args below meth c H locs 0 0 Q (F0 m 138 ls []) := by
        intro n138
        induction n138 with
        | zero => intro v6 S H locs ls hl hP hS hw; exact absurd hw id
        | succ n138 i138 =>
          intro v6 S H locs ls hl hP hS hw
          unfold kX7_copy_b138 at hw
          refine lv_iload hx hb dX7_copy_138 (lv_at hl 4 rfl) ?_
          refine lv_iload hx hb dX7_copy_140 (lv_at hl 3 rfl) ?_
          refine lv_icmp_ge (tgt := 173) hx hb dX7_copy_142 (by decide) (fun hc => ?_) (fun hc => ?_)
          · replace hw := And.left hw hc
            refine lv_iload hx hb dX7_copy_173 (lv_at hl 3 rfl) ?_
            exact hret _ _ _ _ _ _ hP hS hw dX7_copy_175
          · replace hw := And.right hw hc
            refine lv_aload_n hx hb dX7_copy_145 rfl (lv_at hl 0 rfl) ?_
            refine va_get (D := D) (ci := 7) (v := .ref (h 20)) (C := RX7) (T := TX7) (N := 28) hx hb hts inX7 hown hK hP 0 wM_0 rfl 26 (by decide) f0 (fun _ h9 => h9) rfl dX7_copy_146 ?_
            refine lv_bipush (v := (24 : Int32)) hx hb dX7_copy_149 (by decide) ?_
            refine lv_iload_n hx hb dX7_copy_151 rfl (lv_at hl 1 rfl) ?_
            refine lv_imul hx hb dX7_copy_152 ?_
            refine lv_iload hx hb dX7_copy_153 (lv_at hl 2 rfl) ?_
            refine lv_iadd hx hb dX7_copy_155 ?_
            refine lv_iload hx hb dX7_copy_156 (lv_at hl 4 rfl) ?_
            refine lv_iadd hx hb dX7_copy_158 ?_
            refine lv_aload_n hx hb dX7_copy_159 rfl (lv_at hl 0 rfl) ?_
            refine va_get (D := D) (ci := 7) (v := .ref (h 21)) (C := RX7) (T := TX7) (N := 28) hx hb hts inX7 hown hK hP 0 wM_0 rfl 27 (by decide) f2 (fun _ h9 => h9) rfl dX7_copy_160 ?_
            refine lv_iload hx hb dX7_copy_163 (lv_at hl 4 rfl) ?_
            obtain ⟨hi, hw⟩ := hw
            refine va_iald hx hb hK hP 21 0 wM_21 rfl hi dX7_copy_165 ?_
            obtain ⟨hi, hw⟩ := hw
            refine x_iast (ws2 := wM h cI cJ (xu S 20 ((((24 : Int32) * v3) + v4) + v6).toNatClampNeg (S 21 v6.toNatClampNeg)) L) hx hb hK hP (hD _ _) hS 20 0 wM_20 rfl hi dX7_copy_166 (wM_u20 _ _) (fun H locs hP hS => ?_)
            refine lv_iinc (v := v6 + (1 : Int32)) (lv' := [(6, .int (v6 + (1 : Int32))), (0, .ref (h 0)), (3, .int v3), (4, .int v4), (5, .int v5)]) hx hb dX7_copy_167 hl (k := 4) rfl rfl (by decide) rfl (fun ls hl => ?_)
            refine lv_goto (tgt := 138) hx hb dX7_copy_170 (by decide) ?_
            exact i138 (v6 + (1 : Int32)) (xu S 20 ((((24 : Int32) * v3) + v4) + v6).toNatClampNeg (S 21 v6.toNatClampNeg)) _ _ _ (lv_sub hl [1, 2, 3, 4, 0] rfl) hP hS hw
      intro v6 S H locs ls hl hP hS hw
      unfold kX7_copy_b101 at hw
      refine lv_iload hx hb dX7_copy_101 (lv_at hl 6 rfl) ?_
      refine lv_iload hx hb dX7_copy_103 (lv_at hl 5 rfl) ?_
      refine lv_icmp_ge (tgt := 135) hx hb dX7_copy_105 (by decide) (fun hc => ?_) (fun hc => ?_)
      · replace hw := And.left hw hc
        refine lv_iconst (v := (0 : Int32)) hx hb dX7_copy_135 (by decide) ?_
        refine lv_istore (lv' := [(6, .int (0 : Int32)), (0, .ref (h 0)), (1, .int v1), (2, .int v2), (3, .int v3), (4, .int v4), (5, .int v5)]) hx hb dX7_copy_136 hl (by decide) rfl (fun ls hl => ?_)
        obtain ⟨n138, hw⟩ := hw
        exact b138  n138 (0 : Int32) S _ _ _ (lv_sub hl [1, 4, 5, 6, 0] rfl) hP hS hw
      · replace hw := And.right hw hc
        refine lv_aload_n hx hb dX7_copy_108 rfl (lv_at hl 0 rfl) ?_
        refine va_get (D := D) (ci := 7) (v := .ref (h 21)) (C := RX7) (T := TX7) (N := 28) hx hb hts inX7 hown hK hP 0 wM_0 rfl 27 (by decide) f2 (fun _ h9 => h9) rfl dX7_copy_109 ?_
        refine lv_iload hx hb dX7_copy_112 (lv_at hl 6 rfl) ?_
        refine lv_aload_n hx hb dX7_copy_114 rfl (lv_at hl 0 rfl) ?_
        refine va_get (D := D) (ci := 7) (v := .ref (h 20)) (C := RX7) (T := TX7) (N := 28) hx hb hts inX7 hown hK hP 0 wM_0 rfl 26 (by decide) f0 (fun _ h9 => h9) rfl dX7_copy_115 ?_
        refine lv_bipush (v := (24 : Int32)) hx hb dX7_copy_118 (by decide) ?_
        refine lv_iload_n hx hb dX7_copy_120 rfl (lv_at hl 1 rfl) ?_
        refine lv_imul hx hb dX7_copy_121 ?_
        refine lv_iload_n hx hb dX7_copy_122 rfl (lv_at hl 2 rfl) ?_
        refine lv_iadd hx hb dX7_copy_123 ?_
        refine lv_iload hx hb dX7_copy_124 (lv_at hl 6 rfl) ?_
        refine lv_iadd hx hb dX7_copy_126 ?_
        obtain ⟨hi, hw⟩ := hw
        refine va_iald hx hb hK hP 20 0 wM_20 rfl hi dX7_copy_127 ?_
        obtain ⟨hi, hw⟩ := hw
        refine x_iast (ws2 := wM h cI cJ (xu S 21 v6.toNatClampNeg (S 20 ((((24 : Int32) * v1) + v2) + v6).toNatClampNeg)) L) hx hb hK hP (hD _ _) hS 21 0 wM_21 rfl hi dX7_copy_128 (wM_u21 _ _) (fun H locs hP hS => ?_)
        refine lv_iinc (v := v6 + (1 : Int32)) (lv' := [(6, .int (v6 + (1 : Int32))), (0, .ref (h 0)), (1, .int v1), (2, .int v2), (3, .int v3), (4, .int v4), (5, .int v5)]) hx hb dX7_copy_129 hl (k := 6) rfl rfl (by decide) rfl (fun ls hl => ?_)
        refine lv_goto (tgt := 101) hx hb dX7_copy_132 (by decide) ?_
        exact i101 (v6 + (1 : Int32)) (xu S 21 v6.toNatClampNeg (S 20 ((((24 : Int32) * v1) + v2) + v6).toNatClampNeg)) _ _ _ (lv_sub hl [1, 2, 3, 4, 5, 6, 0] rfl) hP hS hw
  unfold kX7_copy at hw
  refine lv_iload_n hx hb dX7_copy_0 rfl (lv_at hl 1 rfl) ?_
  refine xSi0 (As := [.int v1]) (rest := []) hst hE hP hS ⟨hx, hb, hml, hown, hts⟩ (mX7_isSheet l D h cI cJ hh S L v1 _ hw) (va_cwS 1 hts gX7_copy_X7_isSheet rfl rfl rfl (by decide +kernel) ⟨Nat.le_of_ble_eq_true rfl, Nat.le_of_ble_eq_true rfl⟩) rfl hl.1 rfl (Nat.le_of_ble_eq_true rfl) dX7_copy_1 ⟨Nat.zero_le _, Nat.zero_le _⟩ (fun r1 H locs hw hP hS => ?_)
  refine lv_if_eq (tgt := 14) hx hb dX7_copy_4 (by decide) (fun hc => ?_) (fun hc => ?_)
  · replace hw := And.left hw hc
    refine lv_iconst (v := (-1 : Int32)) hx hb dX7_copy_14 (by decide) ?_
    exact hret _ _ _ _ _ _ hP hS hw dX7_copy_15
  · replace hw := And.right hw hc
    refine lv_iload_n hx hb dX7_copy_7 rfl (lv_at hl 3 rfl) ?_
    refine xSi0 (As := [.int v3]) (rest := []) hst hE hP hS ⟨hx, hb, hml, hown, hts⟩ (mX7_isSheet l D h cI cJ hh S L v3 _ hw) (va_cwS 1 hts gX7_copy_X7_isSheet rfl rfl rfl (by decide +kernel) ⟨Nat.le_of_ble_eq_true rfl, Nat.le_of_ble_eq_true rfl⟩) rfl hl.1 rfl (Nat.le_of_ble_eq_true rfl) dX7_copy_8 ⟨Nat.zero_le _, Nat.zero_le _⟩ (fun r8 H locs hw hP hS => ?_)
    refine lv_if_ne (tgt := 16) hx hb dX7_copy_11 (by decide) (fun hc => ?_) (fun hc => ?_)
    · replace hw := And.right hw hc
      refine lv_aload_n hx hb dX7_copy_16 rfl (lv_at hl 0 rfl) ?_
      refine va_get (D := D) (ci := 7) (v := .ref (h 18)) (C := RX7) (T := TX7) (N := 28) hx hb hts inX7 hown hK hP 0 wM_0 rfl 24 (by decide) f3 (fun _ h9 => h9) rfl dX7_copy_17 ?_
      refine lv_iload_n hx hb dX7_copy_20 rfl (lv_at hl 1 rfl) ?_
      obtain ⟨hi, hw⟩ := hw
      refine va_iald hx hb hK hP 18 0 wM_18 rfl hi dX7_copy_21 ?_
      refine lv_if_lt (tgt := 34) hx hb dX7_copy_22 (by decide) (fun hc => ?_) (fun hc => ?_)
      · replace hw := And.left hw hc
        refine lv_bipush (v := (-11 : Int32)) hx hb dX7_copy_34 (by decide) ?_
        exact hret _ _ _ _ _ _ hP hS hw dX7_copy_36
      · replace hw := And.right hw hc
        refine lv_aload_n hx hb dX7_copy_25 rfl (lv_at hl 0 rfl) ?_
        refine va_get (D := D) (ci := 7) (v := .ref (h 18)) (C := RX7) (T := TX7) (N := 28) hx hb hts inX7 hown hK hP 0 wM_0 rfl 24 (by decide) f3 (fun _ h9 => h9) rfl dX7_copy_26 ?_
        refine lv_iload_n hx hb dX7_copy_29 rfl (lv_at hl 3 rfl) ?_
        obtain ⟨hi, hw⟩ := hw
        refine va_iald hx hb hK hP 18 0 wM_18 rfl hi dX7_copy_30 ?_
        refine lv_if_ge (tgt := 37) hx hb dX7_copy_31 (by decide) (fun hc => ?_) (fun hc => ?_)
        · replace hw := And.left hw hc
          refine lv_aload_n hx hb dX7_copy_37 rfl (lv_at hl 0 rfl) ?_
          refine va_get (D := D) (ci := 7) (v := .ref (h 18)) (C := RX7) (T := TX7) (N := 28) hx hb hts inX7 hown hK hP 0 wM_0 rfl 24 (by decide) f3 (fun _ h9 => h9) rfl dX7_copy_38 ?_
          refine lv_iload_n hx hb dX7_copy_41 rfl (lv_at hl 1 rfl) ?_
          obtain ⟨hi, hw⟩ := hw
          refine va_iald hx hb hK hP 18 0 wM_18 rfl hi dX7_copy_42 ?_
          refine lv_aload_n hx hb dX7_copy_43 rfl (lv_at hl 0 rfl) ?_
          refine va_get (D := D) (ci := 7) (v := .ref (h 18)) (C := RX7) (T := TX7) (N := 28) hx hb hts inX7 hown hK hP 0 wM_0 rfl 24 (by decide) f3 (fun _ h9 => h9) rfl dX7_copy_44 ?_
          refine lv_iload_n hx hb dX7_copy_47 rfl (lv_at hl 3 rfl) ?_
          obtain ⟨hi, hw⟩ := hw
          refine va_iald hx hb hK hP 18 0 wM_18 rfl hi dX7_copy_48 ?_
          refine lv_icmp_eq (tgt := 55) hx hb dX7_copy_49 (by decide) (fun hc => ?_) (fun hc => ?_)
          · replace hw := And.left hw hc
            refine lv_iload hx hb dX7_copy_55 (lv_at hl 5 rfl) ?_
            refine lv_if_lt (tgt := 95) hx hb dX7_copy_57 (by decide) (fun hc => ?_) (fun hc => ?_)
            · replace hw := And.left hw hc
              refine lv_bipush (v := (-13 : Int32)) hx hb dX7_copy_95 (by decide) ?_
              exact hret _ _ _ _ _ _ hP hS hw dX7_copy_97
            · replace hw := And.right hw hc
              refine lv_aload_n hx hb dX7_copy_60 rfl (lv_at hl 0 rfl) ?_
              refine lv_iload_n hx hb dX7_copy_61 rfl (lv_at hl 1 rfl) ?_
              refine lv_aload_n hx hb dX7_copy_62 rfl (lv_at hl 0 rfl) ?_
              refine va_get (D := D) (ci := 7) (v := .ref (h 18)) (C := RX7) (T := TX7) (N := 28) hx hb hts inX7 hown hK hP 0 wM_0 rfl 24 (by decide) f3 (fun _ h9 => h9) rfl dX7_copy_63 ?_
              refine lv_iload_n hx hb dX7_copy_66 rfl (lv_at hl 1 rfl) ?_
              obtain ⟨hi, hw⟩ := hw
              refine va_iald hx hb hK hP 18 0 wM_18 rfl hi dX7_copy_67 ?_
              refine lv_iload_n hx hb dX7_copy_68 rfl (lv_at hl 2 rfl) ?_
              refine lv_iload hx hb dX7_copy_69 (lv_at hl 5 rfl) ?_
              refine xVi0 (As := [.int v1, .int (S 18 v1.toNatClampNeg), .int v2, .int v5]) (rest := []) hst hE hP hS ⟨hx, hb, hml, hown, hts⟩ (va_recv hK hP (ci := 7) (q := (RX7, TX7, 28)) rfl wM_0) (mX7_finds l D h cI cJ hh S L v1 (S 18 v1.toNatClampNeg) v2 v5 _ hw) (cwV 4 hts gX7_copy_X7_finds rfl rfl rfl (by decide +kernel) ⟨Nat.le_of_ble_eq_true rfl, Nat.le_of_ble_eq_true rfl⟩) rfl hl.1 rfl (Nat.le_of_ble_eq_true rfl) dX7_copy_71 ⟨Nat.zero_le _, Nat.zero_le _⟩ (fun r71 H locs hw hP hS => ?_)
              refine lv_if_lt (tgt := 95) hx hb dX7_copy_74 (by decide) (fun hc => ?_) (fun hc => ?_)
              · replace hw := And.left hw hc
                refine lv_bipush (v := (-13 : Int32)) hx hb dX7_copy_95 (by decide) ?_
                exact hret _ _ _ _ _ _ hP hS hw dX7_copy_97
              · replace hw := And.right hw hc
                refine lv_aload_n hx hb dX7_copy_77 rfl (lv_at hl 0 rfl) ?_
                refine lv_iload_n hx hb dX7_copy_78 rfl (lv_at hl 3 rfl) ?_
                refine lv_aload_n hx hb dX7_copy_79 rfl (lv_at hl 0 rfl) ?_
                refine va_get (D := D) (ci := 7) (v := .ref (h 18)) (C := RX7) (T := TX7) (N := 28) hx hb hts inX7 hown hK hP 0 wM_0 rfl 24 (by decide) f3 (fun _ h9 => h9) rfl dX7_copy_80 ?_
                refine lv_iload_n hx hb dX7_copy_83 rfl (lv_at hl 3 rfl) ?_
                obtain ⟨hi, hw⟩ := hw
                refine va_iald hx hb hK hP 18 0 wM_18 rfl hi dX7_copy_84 ?_
                refine lv_iload hx hb dX7_copy_85 (lv_at hl 4 rfl) ?_
                refine lv_iload hx hb dX7_copy_87 (lv_at hl 5 rfl) ?_
                refine xVi0 (As := [.int v3, .int (S 18 v3.toNatClampNeg), .int v4, .int v5]) (rest := []) hst hE hP hS ⟨hx, hb, hml, hown, hts⟩ (va_recv hK hP (ci := 7) (q := (RX7, TX7, 28)) rfl wM_0) (mX7_finds l D h cI cJ hh S L v3 (S 18 v3.toNatClampNeg) v4 v5 _ hw) (cwV 4 hts gX7_copy_X7_finds rfl rfl rfl (by decide +kernel) ⟨Nat.le_of_ble_eq_true rfl, Nat.le_of_ble_eq_true rfl⟩) rfl hl.1 rfl (Nat.le_of_ble_eq_true rfl) dX7_copy_89 ⟨Nat.zero_le _, Nat.zero_le _⟩ (fun r89 H locs hw hP hS => ?_)
                refine lv_if_ge (tgt := 98) hx hb dX7_copy_92 (by decide) (fun hc => ?_) (fun hc => ?_)
                · replace hw := And.left hw hc
                  refine lv_iconst (v := (0 : Int32)) hx hb dX7_copy_98 (by decide) ?_
                  refine lv_istore (lv' := [(6, .int (0 : Int32)), (0, .ref (h 0)), (1, .int v1), (2, .int v2), (3, .int v3), (4, .int v4), (5, .int v5)]) hx hb dX7_copy_99 hl (by decide) rfl (fun ls hl => ?_)
                  obtain ⟨n101, hw⟩ := hw
                  exact b101  n101 (0 : Int32) S _ _ _ (lv_sub hl [1, 2, 3, 4, 5, 6, 0] rfl) hP hS hw
                · replace hw := And.right hw hc
                  refine lv_bipush (v := (-13 : Int32)) hx hb dX7_copy_95 (by decide) ?_
                  exact hret _ _ _ _ _ _ hP hS hw dX7_copy_97
          · replace hw := And.right hw hc
            refine lv_bipush (v := (-12 : Int32)) hx hb dX7_copy_52 (by decide) ?_
            exact hret _ _ _ _ _ _ hP hS hw dX7_copy_54
        · replace hw := And.right hw hc
          refine lv_bipush (v := (-11 : Int32)) hx hb dX7_copy_34 (by decide) ?_
          exact hret _ _ _ _ _ _ hP hS hw dX7_copy_36
    · replace hw := And.left hw hc
      refine lv_iconst (v := (-1 : Int32)) hx hb dX7_copy_14 (by decide) ?_
      exact hret _ _ _ _ _ _ hP hS hw dX7_copy_15
