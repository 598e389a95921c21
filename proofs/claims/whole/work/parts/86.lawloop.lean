section LLOOP
variable {p : Program} {l : Launch} {e : Env} {s : State} {m : MethodId} {below : List Frame} {meth : Method} {c : Code} {H : Heap} {locs : List Loc} {ls : Array Slot}
variable {b Ln : Nat} {xs : Nat → Int32} {D : va_G} {cI cJ : ClassId} {t0 i : Nat} {h g : Nat → Nat} {S M : SX} {L N : LX} {Q : State → Prop} {lv : List (Nat × Value)}
theorem lw_six {n i : Nat} (hn : n ≤ 384) (hi : i ≤ n) (h : ¬ Int32.ofNat n - 6 < nI i) : i + 6 ≤ n := by
  rcases Nat.lt_or_ge n 6 with q | q
  · exact absurd ((by decide +kernel : ∀ n, n < 6 → ∀ i, i < 6 → Int32.ofNat n - 6 < nI i) n q i (by omega)) h
  · obtain ⟨k, rfl⟩ : ∃ k, n = k + 6 := ⟨n - 6, by omega⟩
    have e : Int32.ofNat (k + 6) - 6 = nI k := by
      show nI (k + 6) - 6 = nI k
      rw [← nI_add]
      exact Int32.add_sub_cancel (nI k) 6
    rw [e] at h
    rcases Nat.lt_or_ge k i with z | z
    · exact absurd (nI_lt z (by omega)) h
    · omega
theorem lw_sw (v : Int32) (h : ¬ (v.toInt < 0 ∨ 32 < v.toInt)) : ∃ j : Nat, j ≤ 32 ∧ v = nI j := by
  refine ⟨v.toInt.toNat, by omega, Int32.toInt_inj.mp ?_⟩
  rw [nI_toInt (by omega)]
  omega
set_option maxHeartbeats 4000000 in
set_option maxRecDepth 100000 in
theorem lk_switch (C0 : lw_At p s m meth c b Ln xs) (hE : lE D cI cJ t0 s.heap.size s) (hO : lw_ok h g s.heap.size) (hi : i + 6 ≤ Ln) (hL : Ln ≤ 384) (hl : lv_has ls 4 [(0, .ref b), (1, .ref (h 0)), (2, .ref (g 0)), (3, .int (nI i))]) (hR : bw_R S L M N) (hPX : va_P D vwCl (wX h cI cJ S L) H) (hPM : va_P D vwCl (wM g cI cJ M N) H) (hS : va_S (fun q => s.heap.size ≤ q) s.heap H locs) (v : Int32) (kk : lw_K p l e s m below meth c b D cI cJ h g ls) : W p l e room_1 s m #[Value.ref b] below meth c H locs 75 1823 (lw_Z below #[Value.ref b] s) (F0 m 33 ls [.int v]) := by
  obtain ⟨hx, hb, hr, hml, hown, hts0, hX, hbl, hlocks, hgv⟩ := id C0
  by_cases hv : v.toInt < 0 ∨ 32 < v.toInt
  · exact lv_tableOut (tgt := 1493) hx hb dL_law_33 hv (by decide) (kk _ _ _ _ _ _ hR hPX hPM hS)
  · obtain ⟨j, hj, rfl⟩ := lw_sw v hv
    rcases (show j = 0 ∨ j = 1 ∨ j = 2 ∨ j = 3 ∨ j = 4 ∨ j = 5 ∨ j = 6 ∨ j = 7 ∨ j = 8 ∨ j = 9 ∨ j = 10 ∨ j = 11 ∨ j = 12 ∨ j = 13 ∨ j = 14 ∨ j = 15 ∨ j = 16 ∨ j = 17 ∨ j = 18 ∨ j = 19 ∨ j = 20 ∨ j = 21 ∨ j = 22 ∨ j = 23 ∨ j = 24 ∨ j = 25 ∨ j = 26 ∨ j = 27 ∨ j = 28 ∨ j = 29 ∨ j = 30 ∨ j = 31 ∨ j = 32 by omega) with rfl | rfl | rfl | rfl | rfl | rfl | rfl | rfl | rfl | rfl | rfl | rfl | rfl | rfl | rfl | rfl | rfl | rfl | rfl | rfl | rfl | rfl | rfl | rfl | rfl | rfl | rfl | rfl | rfl | rfl | rfl | rfl | rfl
    · exact lv_tableIn (off := 147) (tgt := 180) hx hb dL_law_33 (by decide +kernel) (by decide +kernel) (by decide +kernel) (by decide) (lk_lives C0 hE hO hi hL hl hR hPX hPM hS kk)
    · exact lv_tableIn (off := 180) (tgt := 213) hx hb dL_law_33 (by decide +kernel) (by decide +kernel) (by decide +kernel) (by decide) (lk_set C0 hE hO hi hL hl hR hPX hPM hS kk)
    · exact lv_tableIn (off := 213) (tgt := 246) hx hb dL_law_33 (by decide +kernel) (by decide +kernel) (by decide +kernel) (by decide) (lk_will C0 hE hO hi hL hl hR hPX hPM hS kk)
    · exact lv_tableIn (off := 266) (tgt := 299) hx hb dL_law_33 (by decide +kernel) (by decide +kernel) (by decide +kernel) (by decide) (lk_had C0 hE hO hi hL hl hR hPX hPM hS kk)
    · exact lv_tableIn (off := 309) (tgt := 342) hx hb dL_law_33 (by decide +kernel) (by decide +kernel) (by decide +kernel) (by decide) (lk_told C0 hE hO hi hL hl hR hPX hPM hS kk)
    · exact lv_tableIn (off := 342) (tgt := 375) hx hb dL_law_33 (by decide +kernel) (by decide +kernel) (by decide +kernel) (by decide) (lk_burn C0 hE hO hi hL hl hR hPX hPM hS kk)
    · exact lv_tableIn (off := 365) (tgt := 398) hx hb dL_law_33 (by decide +kernel) (by decide +kernel) (by decide +kernel) (by decide) (lk_type C0 hE hO hi hL hl hR hPX hPM hS kk)
    · exact lv_tableIn (off := 428) (tgt := 461) hx hb dL_law_33 (by decide +kernel) (by decide +kernel) (by decide +kernel) (by decide) (lk_rules C0 hE hO hi hL hl hR hPX hPM hS kk)
    · exact lv_tableIn (off := 441) (tgt := 474) hx hb dL_law_33 (by decide +kernel) (by decide +kernel) (by decide +kernel) (by decide) (lk_rule C0 hE hO hi hL hl hR hPX hPM hS kk)
    · exact lv_tableIn (off := 474) (tgt := 507) hx hb dL_law_33 (by decide +kernel) (by decide +kernel) (by decide +kernel) (by decide) (lk_wills C0 hE hO hi hL hl hR hPX hPM hS kk)
    · exact lv_tableIn (off := 487) (tgt := 520) hx hb dL_law_33 (by decide +kernel) (by decide +kernel) (by decide +kernel) (by decide) (lk_draw C0 hE hO hi hL hl hR hPX hPM hS kk)
    · exact lv_tableIn (off := 560) (tgt := 593) hx hb dL_law_33 (by decide +kernel) (by decide +kernel) (by decide +kernel) (by decide) (lk_people C0 hE hO hi hL hl hR hPX hPM hS kk)
    · exact lv_tableIn (off := 603) (tgt := 636) hx hb dL_law_33 (by decide +kernel) (by decide +kernel) (by decide +kernel) (by decide) (lk_count C0 hE hO hi hL hl hR hPX hPM hS kk)
    · exact lv_tableIn (off := 626) (tgt := 659) hx hb dL_law_33 (by decide +kernel) (by decide +kernel) (by decide +kernel) (by decide) (lk_total C0 hE hO hi hL hl hR hPX hPM hS kk)
    · exact lv_tableIn (off := 660) (tgt := 693) hx hb dL_law_33 (by decide +kernel) (by decide +kernel) (by decide +kernel) (by decide) (lk_share C0 hE hO hi hL hl hR hPX hPM hS kk)
    · exact lv_tableIn (off := 704) (tgt := 737) hx hb dL_law_33 (by decide +kernel) (by decide +kernel) (by decide +kernel) (by decide) (lk_maker C0 hE hO hi hL hl hR hPX hPM hS kk)
    · exact lv_tableIn (off := 747) (tgt := 780) hx hb dL_law_33 (by decide +kernel) (by decide +kernel) (by decide +kernel) (by decide) (lk_span C0 hE hO hi hL hl hR hPX hPM hS kk)
    · exact lv_tableIn (off := 790) (tgt := 823) hx hb dL_law_33 (by decide +kernel) (by decide +kernel) (by decide +kernel) (by decide) (lk_smooth C0 hE hO hi hL hl hR hPX hPM hS kk)
    · exact lv_tableIn (off := 833) (tgt := 866) hx hb dL_law_33 (by decide +kernel) (by decide +kernel) (by decide +kernel) (by decide) (lk_jump C0 hE hO hi hL hl hR hPX hPM hS kk)
    · exact lv_tableIn (off := 866) (tgt := 899) hx hb dL_law_33 (by decide +kernel) (by decide +kernel) (by decide +kernel) (by decide) (lk_alone C0 hE hO hi hL hl hR hPX hPM hS kk)
    · exact lv_tableIn (off := 910) (tgt := 943) hx hb dL_law_33 (by decide +kernel) (by decide +kernel) (by decide +kernel) (by decide) (lk_bounds C0 hE hO hi hL hl hR hPX hPM hS kk)
    · exact lv_tableIn (off := 953) (tgt := 986) hx hb dL_law_33 (by decide +kernel) (by decide +kernel) (by decide +kernel) (by decide) (lk_heap C0 hE hO hi hL hl hR hPX hPM hS kk)
    · exact lv_tableIn (off := 996) (tgt := 1029) hx hb dL_law_33 (by decide +kernel) (by decide +kernel) (by decide +kernel) (by decide) (lk_beside C0 hE hO hi hL hl hR hPX hPM hS kk)
    · exact lv_tableIn (off := 1099) (tgt := 1132) hx hb dL_law_33 (by decide +kernel) (by decide +kernel) (by decide +kernel) (by decide) (lk_fights C0 hE hO hi hL hl hR hPX hPM hS kk)
    · exact lv_tableIn (off := 1112) (tgt := 1145) hx hb dL_law_33 (by decide +kernel) (by decide +kernel) (by decide +kernel) (by decide) (lk_fall C0 hE hO hi hL hl hR hPX hPM hS kk)
    · exact lv_tableIn (off := 1156) (tgt := 1189) hx hb dL_law_33 (by decide +kernel) (by decide +kernel) (by decide +kernel) (by decide) (lk_image C0 hE hO hi hL hl hR hPX hPM hS kk)
    · exact lv_tableIn (off := 1169) (tgt := 1202) hx hb dL_law_33 (by decide +kernel) (by decide +kernel) (by decide +kernel) (by decide) (lk_restore C0 hE hO hi hL hl hR hPX hPM hS kk)
    · exact lv_tableIn (off := 1182) (tgt := 1215) hx hb dL_law_33 (by decide +kernel) (by decide +kernel) (by decide +kernel) (by decide) (lk_book C0 hE hO hi hL hl hR hPX hPM hS kk)
    · exact lv_tableIn (off := 1235) (tgt := 1268) hx hb dL_law_33 (by decide +kernel) (by decide +kernel) (by decide +kernel) (by decide) (lk_crowds C0 hE hO hi hL hl hR hPX hPM hS kk)
    · exact lv_tableIn (off := 1278) (tgt := 1311) hx hb dL_law_33 (by decide +kernel) (by decide +kernel) (by decide +kernel) (by decide) (lk_sheet C0 hE hO hi hL hl hR hPX hPM hS kk)
    · exact lv_tableIn (off := 1321) (tgt := 1354) hx hb dL_law_33 (by decide +kernel) (by decide +kernel) (by decide +kernel) (by decide) (lk_drop C0 hE hO hi hL hl hR hPX hPM hS kk)
    · exact lv_tableIn (off := 1344) (tgt := 1377) hx hb dL_law_33 (by decide +kernel) (by decide +kernel) (by decide +kernel) (by decide) (lk_item C0 hE hO hi hL hl hR hPX hPM hS kk)
    · exact lv_tableIn (off := 1397) (tgt := 1430) hx hb dL_law_33 (by decide +kernel) (by decide +kernel) (by decide +kernel) (by decide) (lk_copy C0 hE hO hi hL hl hR hPX hPM hS kk)
set_option maxHeartbeats 4000000 in
set_option maxRecDepth 100000 in
theorem lw_loop (C0 : lw_At p s m meth c b Ln xs) (hE : lE D cI cJ t0 s.heap.size s) (hO : lw_ok h g s.heap.size) (hL : Ln ≤ 384) : ∀ (n i : Nat), i ≤ Ln → Ln + 1 ≤ i + n → ∀ (S : SX) (L : LX) (M : SX) (N : LX) (H : Heap) (locs : List Loc) (ls : Array Slot), bw_R S L M N → va_P D vwCl (wX h cI cJ S L) H → va_P D vwCl (wM g cI cJ M N) H → va_S (fun q => s.heap.size ≤ q) s.heap H locs → lv_has ls 4 [(0, .ref b), (1, .ref (h 0)), (2, .ref (g 0)), (3, .int (nI i))] → W p l e room_1 s m #[Value.ref b] below meth c H locs 75 1823 (lw_Z below #[Value.ref b] s) (F0 m 18 ls []) := by
  obtain ⟨hx, hb, hr, hml, hown, hts0, hX, hbl, hlocks, hgv⟩ := id C0
  have hbA : ¬ (fun q : Nat => s.heap.size ≤ q) b := Nat.not_le.mpr hbl
  intro n
  induction n with
  | zero =>
    intro i h1 h2
    exact absurd h2 (by omega)
  | succ n ih =>
    intro i hi hin S L M N H locs ls hR hPX hPM hS hl
    refine lv_iload_n hx hb dL_law_18 rfl (lv_at hl 3 rfl) ?_
    refine lv_aload_n hx hb dL_law_19 rfl (lv_at hl 0 rfl) ?_
    refine va_slen hx hb hX hbl hbA hS dL_law_20 ?_
    refine lv_bipush (v := 6) hx hb dL_law_21 (by decide) ?_
    refine lv_isub hx hb dL_law_23 ?_
    refine lv_icmp_gt (tgt := 1499) hx hb dL_law_24 (by decide) (fun c9 => ?_) (fun c9 => ?_)
    · refine lv_iconst (v := 1) hx hb dL_law_1499 (by decide) ?_
      refine va_forget (fun q hq => hS.2.2 q hq) ?_
      exact lw_ret hx hb hr hlocks dL_law_1500
    · have hi6 : i + 6 ≤ Ln := lw_six hL hi c9
      refine lv_aload_n hx hb dL_law_27 rfl (lv_at hl 0 rfl) ?_
      refine lv_iload_n hx hb dL_law_28 rfl (lv_at hl 3 rfl) ?_
      refine va_sld hx hb hX hbl hbA hS (pk_in i Ln (by omega)) dL_law_29 ?_
      refine lv_bipush (v := 63) hx hb dL_law_30 (by decide) ?_
      refine lv_iand hx hb dL_law_32 ?_
      refine lk_switch C0 hE hO hi6 hL hl hR hPX hPM hS _ (fun S1 L1 M1 N1 H1 locs1 hR1 hPX1 hPM1 hS1 => ?_)
      refine lv_iinc (v := nI (i + 6)) (lv' := [(3, .int (nI (i + 6))), (0, .ref b), (1, .ref (h 0)), (2, .ref (g 0))]) hx hb dL_law_1493 hl (k := 3) rfl (nI_add i 6) (by decide) rfl (fun ls hl => ?_)
      refine lv_goto (tgt := 18) hx hb dL_law_1496 (by decide) ?_
      exact ih (i + 6) hi6 (by omega) _ _ _ _ _ _ ls hR1 hPX1 hPM1 hS1 (lv_sub hl [1, 2, 3, 0] rfl)
end LLOOP
