section LNEW
variable {p : Program} {l : Launch} {e : Env} {s : State} {m : MethodId} {below : List Frame} {meth : Method} {c : Code} {H : Heap} {locs : List Loc} {ls : Array Slot}
variable {b Ln : Nat} {xs : Nat → Int32} {D : va_G} {cI cJ : ClassId} {t0 i : Nat} {h g : Nat → Nat} {S M : SX} {L N : LX} {Q : State → Prop} {lv : List (Nat × Value)}
set_option maxHeartbeats 4000000 in
set_option maxRecDepth 100000 in
theorem lw_newX (C0 : lw_At p s m meth c b Ln xs) (hC : cE D cI cJ s) (hl : lv_has ls 4 lv) (kk : ∀ (h : Nat → Nat) (H : Heap) (locs : List Loc), va_P D vwCl (wX h cI cJ lw_S0 lw_L0) H → va_D (fun q : Nat => s.heap.size ≤ q) (wX h cI cJ lw_S0 lw_L0) → va_S (fun q => s.heap.size ≤ q) s.heap H locs → W p l e room_1 s m #[Value.ref b] below meth c H locs 53 1017 Q (F0 m 7 ls [.ref (h 0)])) : W p l e room_1 s m #[Value.ref b] below meth c s.heap [] 0 0 Q (F0 m 0 ls []) := by
  obtain ⟨hx, hb, hr, hml, hown, hts0, hX, hbl, hlocks, hgv⟩ := C0
  have hts : ∀ w ∈ wsL_law, w.before #[Value.ref b] s = true := fun w hw => hts0 w (wsL_law_in w hw)
  have hA : ∀ q : Nat, s.heap.size ≤ q → (fun q : Nat => s.heap.size ≤ q) q := fun _ h => h
  have hK := hC.1
  have hS : va_S (fun q : Nat => s.heap.size ≤ q) s.heap s.heap [] := va_S.rf
  have hP : va_P D vwCl [] s.heap := fun k q h => by simp at h
  have hD : va_D (fun q : Nat => s.heap.size ≤ q) [] := ⟨fun i j p q h => by simp at h, fun k q h => by simp at h⟩
  have f1 := lw_tb hts0 12 (w := .classLink RL 7 RX6) (by decide +kernel)
  have f2 := lw_tb hts0 13 (w := .instantiable RX6 8) (by decide +kernel)
  have f3 := lw_tb hts0 1 (w := .initialized RX6) (by decide +kernel)
  have f4 := lw_tb hts0 14 (w := .methodLink RL 9 yX6_init) (by decide +kernel)
  have f5 := lw_tb hts0 15 (w := .instanceMethod yX6_init) (by decide +kernel)
  refine va_new (ci := 6) (fs := [.null, .null, .int 0, .null, .null, .null, .null, .null]) (C := RX6) (T := TX6) (N := 8) hx hb hts inlX6 tyX6 tyX6_ok hown f1 f2 f3 hK hP hD hS hA rfl (fun j hj => by rcases (show j = 0 ∨ j = 1 ∨ j = 2 ∨ j = 3 ∨ j = 4 ∨ j = 5 ∨ j = 6 ∨ j = 7 by omega) with rfl | rfl | rfl | rfl | rfl | rfl | rfl | rfl <;> rfl) (Nat.le_of_ble_eq_true rfl) (Nat.le_of_ble_eq_true rfl) dL_law_0 (fun q0 H hP hD hS => ?_)
  have hP : va_P D vwCl [(q0, .inr (6, [.null, .null, .int 0, .null, .null, .null, .null, .null]))] H := hP
  have hD : va_D (fun q : Nat => s.heap.size ≤ q) [(q0, .inr (6, [.null, .null, .int 0, .null, .null, .null, .null, .null]))] := hD
  refine W.widen (k := 1) (n := 8) (by omega) (by omega) ?_
  refine lv_dup hx hb dL_law_3 rfl ?_
  have hPc := hP.sub (ws' := [(q0, .inr (6, [.null, .null, .int 0, .null, .null, .null, .null, .null]))]) [0] rfl
  have hDc := hD.sub (ws' := [(q0, .inr (6, [.null, .null, .int 0, .null, .null, .null, .null, .null]))]) [0] (by decide) rfl
  have hFc := va_free (wc := [(q0, .inr (6, [.null, .null, .int 0, .null, .null, .null, .null, .null]))]) hD hS hA [0] rfl
  refine va_callv (va_runI (As := []) (rest := [.ref q0]) ⟨hx, hb, hml, hown, hts⟩ (mX6_init l D cI cJ q0 H.size) (cwI 0 hts gL_law_X6_init rfl rfl rfl f3 f4 f5 rfl (by decide +kernel) ⟨Nat.le_of_ble_eq_true rfl, Nat.le_of_ble_eq_true rfl⟩) ⟨fun a U g mk q => by obtain ⟨q0, q1, qP, qK, qD⟩ := q; exact ⟨q0, q1, qP, cE_c qK g mk a, qD⟩, fun U hU hW => ⟨rfl, by rw [hU], by rw [hU]; exact hPc, cE_w hC hW, hDc.weaken (fun _ _ _ _ => trivial)⟩⟩ rfl rfl hl.1 rfl (lv_room (Nat.le_of_ble_eq_true rfl)) dL_law_4 ⟨Nat.le_of_ble_eq_true rfl, Nat.le_of_ble_eq_true rfl⟩) hS (fun q _ h => hFc q h) hFc (fun u t H1 locs ht hvm hw hB hz1 hk1 hS => ?_)
  obtain ⟨q5, q5_q7, q5_q19, q5_q19_q7, q5_q19_q15, q5_q19_q23, q5_q19_q31, q5_q30, q5_q30_q7, q5_q30_q15, q5_q30_q23, q5_q30_q31, q5_q43, q5_q51, q5_q59, q5_q67, q16, q16_q7, q16_q19, q16_q19_q7, q16_q19_q15, q16_q19_q23, q16_q19_q31, q16_q30, q16_q30_q7, q16_q30_q15, q16_q30_q23, q16_q30_q31, q16_q43, q16_q51, q16_q59, q16_q67, q27, q27_q7, q27_q15, q27_q23, q38, q38_q7, q49, q49_q7, q49_q15, q49_q23, q49_q31, q60, q60_q7, q60_q15, q60_q23, q60_q31, q71, q71_q6, q71_q13, q71_q21, hP1, hD1⟩ := hB
  rw [ht] at hP1
  have hP1 : va_P D vwCl (wX (lw_h [q0, q5, q5_q7, q5_q19, q5_q19_q7, q5_q19_q15, q5_q19_q23, q5_q19_q31, q5_q30, q5_q30_q7, q5_q30_q15, q5_q30_q23, q5_q30_q31, q5_q43, q5_q51, q5_q59, q5_q67, q16, q16_q7, q16_q19, q16_q19_q7, q16_q19_q15, q16_q19_q23, q16_q19_q31, q16_q30, q16_q30_q7, q16_q30_q15, q16_q30_q23, q16_q30_q31, q16_q43, q16_q51, q16_q59, q16_q67, q27, q27_q7, q27_q15, q27_q23, q38, q38_q7, q49, q49_q7, q49_q15, q49_q23, q49_q31, q60, q60_q7, q60_q15, q60_q23, q60_q31, q71, q71_q6, q71_q13, q71_q21]) cI cJ lw_S0 lw_L0) H1 := by rw [lw_w6]; exact hP1
  have hD1 : va_D (va_A [(q0, .inr (6, [.null, .null, .int 0, .null, .null, .null, .null, .null]))] H.size) (wX (lw_h [q0, q5, q5_q7, q5_q19, q5_q19_q7, q5_q19_q15, q5_q19_q23, q5_q19_q31, q5_q30, q5_q30_q7, q5_q30_q15, q5_q30_q23, q5_q30_q31, q5_q43, q5_q51, q5_q59, q5_q67, q16, q16_q7, q16_q19, q16_q19_q7, q16_q19_q15, q16_q19_q23, q16_q19_q31, q16_q30, q16_q30_q7, q16_q30_q15, q16_q30_q23, q16_q30_q31, q16_q43, q16_q51, q16_q59, q16_q67, q27, q27_q7, q27_q15, q27_q23, q38, q38_q7, q49, q49_q7, q49_q15, q49_q23, q49_q31, q60, q60_q7, q60_q15, q60_q23, q60_q31, q71, q71_q6, q71_q13, q71_q21]) cI cJ lw_S0 lw_L0) := by rw [lw_w6]; exact hD1
  have e0 : q0 = lw_h [q0, q5, q5_q7, q5_q19, q5_q19_q7, q5_q19_q15, q5_q19_q23, q5_q19_q31, q5_q30, q5_q30_q7, q5_q30_q15, q5_q30_q23, q5_q30_q31, q5_q43, q5_q51, q5_q59, q5_q67, q16, q16_q7, q16_q19, q16_q19_q7, q16_q19_q15, q16_q19_q23, q16_q19_q31, q16_q30, q16_q30_q7, q16_q30_q15, q16_q30_q23, q16_q30_q31, q16_q43, q16_q51, q16_q59, q16_q67, q27, q27_q7, q27_q15, q27_q23, q38, q38_q7, q49, q49_q7, q49_q15, q49_q23, q49_q31, q60, q60_q7, q60_q15, q60_q23, q60_q31, q71, q71_q6, q71_q13, q71_q21] 0 := rfl
  generalize lw_h [q0, q5, q5_q7, q5_q19, q5_q19_q7, q5_q19_q15, q5_q19_q23, q5_q19_q31, q5_q30, q5_q30_q7, q5_q30_q15, q5_q30_q23, q5_q30_q31, q5_q43, q5_q51, q5_q59, q5_q67, q16, q16_q7, q16_q19, q16_q19_q7, q16_q19_q15, q16_q19_q23, q16_q19_q31, q16_q30, q16_q30_q7, q16_q30_q15, q16_q30_q23, q16_q30_q31, q16_q43, q16_q51, q16_q59, q16_q67, q27, q27_q7, q27_q15, q27_q23, q38, q38_q7, q49, q49_q7, q49_q15, q49_q23, q49_q31, q60, q60_q7, q60_q15, q60_q23, q60_q31, q71, q71_q6, q71_q13, q71_q21] = h at hP1 hD1 e0
  obtain ⟨hP, hD⟩ := va_join (wr := []) (w1 := wX h cI cJ lw_S0 lw_L0) hP hD [0] [] rfl rfl (by decide) (by decide) hk1 hFc hP1 hD1
  rw [e0]
  exact W.widen (k := 53) (n := 1017) (Nat.le_of_ble_eq_true rfl) (Nat.le_of_ble_eq_true rfl) (kk h H1 locs hP hD hS)
set_option maxHeartbeats 4000000 in
set_option maxRecDepth 100000 in
theorem lw_newM (C0 : lw_At p s m meth c b Ln xs) (hC : cE D cI cJ s) (hl : lv_has ls 4 lv) (hP : va_P D vwCl (wX h cI cJ S L) H) (hD : va_D (fun q : Nat => s.heap.size ≤ q) (wX h cI cJ S L)) (hS : va_S (fun q => s.heap.size ≤ q) s.heap H locs) (kk : ∀ (g : Nat → Nat) (H : Heap) (locs : List Loc), va_P D vwCl (wX h cI cJ S L ++ wM g cI cJ lw_M0 lw_N0) H → va_D (fun q : Nat => s.heap.size ≤ q) (wX h cI cJ S L ++ wM g cI cJ lw_M0 lw_N0) → va_S (fun q => s.heap.size ≤ q) s.heap H locs → W p l e room_1 s m #[Value.ref b] below meth c H locs 75 1823 Q (F0 m 15 ls [.ref (g 0)])) : W p l e room_1 s m #[Value.ref b] below meth c H locs 53 1017 Q (F0 m 8 ls []) := by
  obtain ⟨hx, hb, hr, hml, hown, hts0, hX, hbl, hlocks, hgv⟩ := C0
  have hts : ∀ w ∈ wsL_law, w.before #[Value.ref b] s = true := fun w hw => hts0 w (wsL_law_in w hw)
  have hA : ∀ q : Nat, s.heap.size ≤ q → (fun q : Nat => s.heap.size ≤ q) q := fun _ h => h
  have hK := hC.1
  have f1 := lw_tb hts0 679 (w := .classLink RL 10 RX7) (by decide +kernel)
  have f2 := lw_tb hts0 680 (w := .instantiable RX7 28) (by decide +kernel)
  have f3 := lw_tb hts0 8 (w := .initialized RX7) (by decide +kernel)
  have f4 := lw_tb hts0 681 (w := .methodLink RL 12 yX7_init) (by decide +kernel)
  have f5 := lw_tb hts0 682 (w := .instanceMethod yX7_init) (by decide +kernel)
  refine va_new (ci := 7) (fs := [.null, .int 0, .int 0, .int 0, .null, .null, .null, .null, .null, .null, .null, .null, .null, .null, .null, .null, .null, .int 0, .int 0, .int 0, .null, .null, .null, .int 0, .null, .null, .null, .null]) (C := RX7) (T := TX7) (N := 28) hx hb hts inlX7 tyX7 tyX7_ok hown f1 f2 f3 hK hP hD hS hA rfl (fun j hj => by rcases (show j = 0 ∨ j = 1 ∨ j = 2 ∨ j = 3 ∨ j = 4 ∨ j = 5 ∨ j = 6 ∨ j = 7 ∨ j = 8 ∨ j = 9 ∨ j = 10 ∨ j = 11 ∨ j = 12 ∨ j = 13 ∨ j = 14 ∨ j = 15 ∨ j = 16 ∨ j = 17 ∨ j = 18 ∨ j = 19 ∨ j = 20 ∨ j = 21 ∨ j = 22 ∨ j = 23 ∨ j = 24 ∨ j = 25 ∨ j = 26 ∨ j = 27 by omega) with rfl | rfl | rfl | rfl | rfl | rfl | rfl | rfl | rfl | rfl | rfl | rfl | rfl | rfl | rfl | rfl | rfl | rfl | rfl | rfl | rfl | rfl | rfl | rfl | rfl | rfl | rfl | rfl <;> rfl) (Nat.le_of_ble_eq_true rfl) (Nat.le_of_ble_eq_true rfl) dL_law_8 (fun q0 H hP hD hS => ?_)
  have hP : va_P D vwCl (wX h cI cJ S L ++ [(q0, .inr (7, [.null, .int 0, .int 0, .int 0, .null, .null, .null, .null, .null, .null, .null, .null, .null, .null, .null, .null, .null, .int 0, .int 0, .int 0, .null, .null, .null, .int 0, .null, .null, .null, .null]))]) H := hP
  have hD : va_D (fun q : Nat => s.heap.size ≤ q) (wX h cI cJ S L ++ [(q0, .inr (7, [.null, .int 0, .int 0, .int 0, .null, .null, .null, .null, .null, .null, .null, .null, .null, .null, .null, .null, .null, .int 0, .int 0, .int 0, .null, .null, .null, .int 0, .null, .null, .null, .null]))]) := hD
  refine W.widen (k := 54) (n := 1045) (by omega) (by omega) ?_
  refine lv_dup hx hb dL_law_11 rfl ?_
  have hPc := (lw_P2 hP).2
  have hDc := (lw_D2 hD).2.1
  have hFc := va_free (wc := [(q0, .inr (7, [.null, .int 0, .int 0, .int 0, .null, .null, .null, .null, .null, .null, .null, .null, .null, .null, .null, .null, .null, .int 0, .int 0, .int 0, .null, .null, .null, .int 0, .null, .null, .null, .null]))]) hD hS hA [53] rfl
  refine va_callv (va_runI (As := []) (rest := [.ref q0]) ⟨hx, hb, hml, hown, hts⟩ (mX7_init l D cI cJ q0 H.size) (cwI 0 hts gL_law_X7_init rfl rfl rfl f3 f4 f5 rfl (by decide +kernel) ⟨Nat.le_of_ble_eq_true rfl, Nat.le_of_ble_eq_true rfl⟩) ⟨fun a U g mk q => by obtain ⟨q0, q1, qP, qK, qD⟩ := q; exact ⟨q0, q1, qP, cE_c qK g mk a, qD⟩, fun U hU hW => ⟨rfl, by rw [hU], by rw [hU]; exact hPc, cE_w hC hW, hDc.weaken (fun _ _ _ _ => trivial)⟩⟩ rfl rfl hl.1 rfl (lv_room (Nat.le_of_ble_eq_true rfl)) dL_law_12 ⟨Nat.le_of_ble_eq_true rfl, Nat.le_of_ble_eq_true rfl⟩) hS (fun q _ h => hFc q h) hFc (fun u t H1 locs ht hvm hw hB hz1 hk1 hS => ?_)
  obtain ⟨q7, q21, q29, q37, q45, q53, q61, q69, q77, q85, q93, q101, q109, q117, q125, q134, q142, q149, q156, q164, q172, hP1, hD1⟩ := hB
  rw [ht] at hP1
  have hP1 : va_P D vwCl (wM (lw_h [q0, q7, q21, q29, q37, q45, q53, q61, q69, q77, q85, q93, q101, q109, q117, q125, q134, q142, q149, q156, q164, q172]) cI cJ lw_M0 lw_N0) H1 := by rw [lw_w7]; exact hP1
  have hD1 : va_D (va_A [(q0, .inr (7, [.null, .int 0, .int 0, .int 0, .null, .null, .null, .null, .null, .null, .null, .null, .null, .null, .null, .null, .null, .int 0, .int 0, .int 0, .null, .null, .null, .int 0, .null, .null, .null, .null]))] H.size) (wM (lw_h [q0, q7, q21, q29, q37, q45, q53, q61, q69, q77, q85, q93, q101, q109, q117, q125, q134, q142, q149, q156, q164, q172]) cI cJ lw_M0 lw_N0) := by rw [lw_w7]; exact hD1
  have e0 : q0 = lw_h [q0, q7, q21, q29, q37, q45, q53, q61, q69, q77, q85, q93, q101, q109, q117, q125, q134, q142, q149, q156, q164, q172] 0 := rfl
  generalize lw_h [q0, q7, q21, q29, q37, q45, q53, q61, q69, q77, q85, q93, q101, q109, q117, q125, q134, q142, q149, q156, q164, q172] = g at hP1 hD1 e0
  obtain ⟨hP, hD⟩ := va_join (wr := wX h cI cJ S L) (w1 := wM g cI cJ lw_M0 lw_N0) hP hD [53] [0, 1, 2, 3, 4, 5, 6, 7, 8, 9, 10, 11, 12, 13, 14, 15, 16, 17, 18, 19, 20, 21, 22, 23, 24, 25, 26, 27, 28, 29, 30, 31, 32, 33, 34, 35, 36, 37, 38, 39, 40, 41, 42, 43, 44, 45, 46, 47, 48, 49, 50, 51, 52] rfl rfl (by decide +kernel) (by decide +kernel) hk1 hFc hP1 hD1
  rw [e0]
  exact W.widen (k := 75) (n := 1823) (Nat.le_of_ble_eq_true rfl) (Nat.le_of_ble_eq_true rfl) (kk g H1 locs hP hD hS)
end LNEW
