def R_law : String := "BookOfWillsLaw"
def lw_P (b : Addr) (xs : List Int32) (args : Array Value) (s : State) : Prop := args = #[.ref b] ∧ s.IntsAt b xs ∧ xs.length ≤ 384 ∧ (Jvm.Cond.and given_1 narrow_1).before args s = true
def lw_Q (_ : Array Value) (s : State) (o : Outcome) (t : State) : Prop := o = .returned (some (.int 1)) ∧ Framed s o t [] 75 1823
def lw_Z (below : List Frame) (a : Array Value) (s : State) : State → Prop := fun t => ∃ o, t.status = .running ∧ Ended t below o ∧ lw_Q a s o t
/-- the law's own end, with 1 on the stack, nothing written that was there before, its room as the claim has it -/
theorem lw_ret {p : Program} {l : Launch} {e : Env} {s : State} {m : MethodId} {below : List Frame} {meth : Method} {c : Code} {b : Nat} (hx : p.tables.exec = Jvm.exec) (hb : c.code = code) (hr : meth.sig.returnType = ret) (hlocks : meth.locks = false) {pc : Nat} {H : Heap} {ls : Array Slot} (hdg : decode code pc = .ok (.ireturn, 1)) : W p l e room_1 s m #[Value.ref b] below meth c H [] 75 1823 (lw_Z below #[Value.ref b] s) (F0 m pc ls [.int 1]) := by
  intro T hT X
  obtain ⟨fs, hret, hrun, hended, hW, hframe⟩ := X.leave (v := some (.int 1)) (hlocks := hlocks) (fun h => by rw [hr] at h; cases h)
  have hmeth' : T.vm.method? m = some meth := X.method'
  refine ⟨T.setFrames fs, ?_, .returned (some (.int 1)), hrun, hended, rfl, ⟨_, rfl⟩, hW, hframe⟩
  jvm_step X.here [X.here.top, hx, hb, hdg, hmeth', hr, ret, narrow_b1]
  (try refine ⟨rfl, ?_⟩); (try refine ⟨rfl, ?_⟩)
  first | (intro acts; rw [hret _ acts rfl rfl rfl]) | rw [hret _ _ rfl rfl rfl]
  exact Steps.refl _
/-- what holds at the law's entry: the machine, the code, the tables' words (any of lw_tbl by 'hts w (by decide +kernel)'), the script of L ints xs at the cell b, what the Statement gives of the start (any of its parts by flat_of_before) -/
def lw_At (p : Program) (s : State) (m : MethodId) (meth : Method) (c : Code) (b L : Nat) (xs : Nat → Int32) : Prop :=
  p.tables.exec = Jvm.exec ∧ c.code = code ∧ meth.sig.returnType = ret ∧ c.maxLocals = 4 ∧ s.vm.findClass R_law = some m.cls ∧ (∀ w ∈ lw_tbl, w.before #[Value.ref b] s = true) ∧ va_X b L xs s s.heap ∧ b < s.heap.size ∧ meth.locks = false ∧ (Jvm.Cond.and given_1 narrow_1).before #[Value.ref b] s = true

/-! ===== the law: its two worlds, a call of each ===== -/
def lE (D : va_G) (cI cJ : ClassId) (t0 B : Nat) (U : State) : Prop := va_K D vwCl [(cI, .int), (cJ, .long)] U ∧ va_Nw nTape U ∧ va_Nw nLiving U ∧ va_Nw nWorld U ∧ va_Z "BookOfWills$Tape" "MARK_SIGNS" "[C" (.ref t0) (fun q => B ≤ q) U U.heap ∧ va_T .char t0 4 (fun j => .int (xmk j)) (fun q => B ≤ q) U U.heap
def lw_ok (h g : Nat → Nat) (B : Nat) : Prop := xdis 53 h ∧ xdis 22 g ∧ (∀ k, k < 53 → B ≤ h k) ∧ (∀ k, k < 22 → B ≤ g k) ∧ ∀ i j, i < 53 → j < 22 → h i ≠ g j
theorem lE_x {D : va_G} {cI cJ : ClassId} {t0 : Nat} {h : Nat → Nat} {s U : State} {locs : List Loc} (hE : lE D cI cJ t0 s.heap.size s) (hS : va_S (fun q => s.heap.size ≤ q) s.heap U.heap locs) (hW : s.WarmedH U.vm) (hh : ∀ k, k < 53 → s.heap.size ≤ h k) : xE D h cI cJ t0 U := by
  obtain ⟨h1, h2, h3, h4, h5, h6⟩ := hE
  have hn : ∀ q, xA 53 h q → s.heap.size ≤ q := fun q hq => by obtain ⟨k, hk, rfl⟩ := hq; exact hh k hk
  exact ⟨va_K.moved hW.alike h1, va_Nw.warmM hW h2, va_Nw.warmM hW h3, va_Nw.warmM hW h4, ((h5.moved hW.alike).kept hS.2.1).narrow hn, ((h6.moved hW.alike).kept hS.2.1).narrow hn⟩
theorem lw_keys {w : va_W} {N : Nat} {g : Nat → Nat} (hm : w.map Prod.fst = (List.range N).map g) {k : Nat} {q : Nat × va_E} (hq : w[k]? = some q) : ∃ j, j < N ∧ q.1 = g j := by
  have h1 : (w.map Prod.fst)[k]? = some q.1 := by rw [List.getElem?_map, hq]; rfl
  rw [hm, List.getElem?_map] at h1
  by_cases hk : k < N
  · rw [List.getElem?_range hk] at h1
    exact ⟨k, hk, (Option.some.inj h1).symm⟩
  · rw [List.getElem?_eq_none (by rw [List.length_range]; omega)] at h1
    exact absurd h1 (by simp)
theorem wX_key {h : Nat → Nat} {cI cJ : ClassId} {S : SX} {L : LX} {k : Nat} {q : Nat × va_E} (hq : (wX h cI cJ S L)[k]? = some q) : ∃ j, j < 53 ∧ q.1 = h j := lw_keys (by rfl) hq
theorem wM_key {h : Nat → Nat} {cI cJ : ClassId} {S : SX} {L : LX} {k : Nat} {q : Nat × va_E} (hq : (wM h cI cJ S L)[k]? = some q) : ∃ j, j < 22 ∧ q.1 = h j := lw_keys (by rfl) hq
section LCALL
variable {p : Program} {l : Launch} {e : Env} {R : Room} {s : State} {m : MethodId} {args : Array Value} {below : List Frame} {meth : Method} {c : Code} {H : Heap} {locs : List Loc} {cells slots : Nat} {Q : State → Prop}
variable {y : MethodName} {bytes cc : ByteArray} {maxL nL n index pc : Nat} {ret : Option FieldType} {ws : List Cond} {rm : Room} {Ts : List Cond} {own : String} {As rest st : List Value} {ls : Array Slot}
variable {D : va_G} {cI cJ : ClassId} {t0 : Nat} {h g : Nat → Nat} {S M : SX} {L N : LX}

theorem lcXi {P' : Int32 → SX × LX → Prop} (hE : lE D cI cJ t0 s.heap.size s) (hO : lw_ok h g s.heap.size) (hPX : va_P D vwCl (wX h cI cJ S L) H) (hPM : va_P D vwCl (wM g cI cJ M N) H) (hS : va_S (fun q => s.heap.size ≤ q) s.heap H locs) (fx : CallFix p m c cc nL s args Ts own)
    (hM : Met l y ws rm (xPre D (wX h cI cJ) (xE D h cI cJ t0) S L (.ref (h 0) :: As)) (va_Qi P' (xB D (wX h cI cJ)) (xA 53 h)) 0 0 (xA 53 h)) (cw : CallW R s args own RX6 index y bytes maxL ret ws rm 0 0 n) (hn : As.length = n) (hz : ls.size = nL) (hk : st = As.reverse ++ .ref (h 0) :: rest) (hr : (rest.map fun v => v.category).sum ≤ 8) (hdg : decode cc pc = .ok (.invokevirtual index, 3)) (hf : cells ≤ R.cells ∧ slots ≤ R.slots)
    (kk : ∀ (r : Int32) (u : SX × LX) (H1 : Heap) (locs1 : List Loc), P' r u → va_P D vwCl (wX h cI cJ u.1 u.2) H1 → va_P D vwCl (wM g cI cJ M N) H1 → va_S (fun q => s.heap.size ≤ q) s.heap H1 locs1 → W p l e R s m args below meth c H1 locs1 cells slots Q (F0 m (pc + 3) ls (.int r :: rest))) : W p l e R s m args below meth c H locs cells slots Q (F0 m pc ls st) := by
  have hA : ∀ q, xA 53 h q → s.heap.size ≤ q := fun q hq => by obtain ⟨k, hk, rfl⟩ := hq; exact hO.2.2.1 k hk
  refine va_calli (va_runV (g := F0 m pc ls st) (As := As) (rest := rest) fx hM cw ⟨fun a U gg mk q => ⟨q.1, q.2.1, (xE_st D h cI cJ t0).2 a U gg mk q.2.2⟩, va_recv hE.1 hPX (ci := 6) (q := (RX6, TX6, 8)) rfl wX_0, fun U hU hW => ⟨rfl, by rw [hU]; exact hPX, lE_x hE (by rw [hU]; exact hS) hW hO.2.2.1⟩⟩ rfl hn hz hk (lv_room hr) hdg hf) hS (fun q _ hq => hA q hq) hA (fun r u t H1 locs1 ht _ hp hB _ hk1 hS1 => kk r u H1 locs1 hp (by rw [← ht]; exact hB) (hPM.kept (fun k q hq => hk1 q.1 (hPM k q hq).lt (fun z => ?_))) hS1)
  obtain ⟨i, hi, ei⟩ := z
  obtain ⟨j, hj, ej⟩ := wM_key hq
  exact hO.2.2.2.2 i j hi hj (ei.symm.trans ej)
theorem lcMi {P' : Int32 → SX × LX → Prop} (hE : lE D cI cJ t0 s.heap.size s) (hO : lw_ok h g s.heap.size) (hPX : va_P D vwCl (wX h cI cJ S L) H) (hPM : va_P D vwCl (wM g cI cJ M N) H) (hS : va_S (fun q => s.heap.size ≤ q) s.heap H locs) (fx : CallFix p m c cc nL s args Ts own)
    (hM : Met l y ws rm (xPre D (wM g cI cJ) (mE D cI cJ) M N (.ref (g 0) :: As)) (va_Qi P' (xB D (wM g cI cJ)) (xA 22 g)) 0 0 (xA 22 g)) (cw : CallW R s args own RX7 index y bytes maxL ret ws rm 0 0 n) (hn : As.length = n) (hz : ls.size = nL) (hk : st = As.reverse ++ .ref (g 0) :: rest) (hr : (rest.map fun v => v.category).sum ≤ 8) (hdg : decode cc pc = .ok (.invokevirtual index, 3)) (hf : cells ≤ R.cells ∧ slots ≤ R.slots)
    (kk : ∀ (r : Int32) (u : SX × LX) (H1 : Heap) (locs1 : List Loc), P' r u → va_P D vwCl (wX h cI cJ S L) H1 → va_P D vwCl (wM g cI cJ u.1 u.2) H1 → va_S (fun q => s.heap.size ≤ q) s.heap H1 locs1 → W p l e R s m args below meth c H1 locs1 cells slots Q (F0 m (pc + 3) ls (.int r :: rest))) : W p l e R s m args below meth c H locs cells slots Q (F0 m pc ls st) := by
  have hA : ∀ q, xA 22 g q → s.heap.size ≤ q := fun q hq => by obtain ⟨k, hk, rfl⟩ := hq; exact hO.2.2.2.1 k hk
  refine va_calli (va_runV (g := F0 m pc ls st) (As := As) (rest := rest) fx hM cw ⟨fun a U gg mk q => ⟨q.1, q.2.1, (mE_st D (xA 22 g) cI cJ).2 a U gg mk q.2.2⟩, va_recv hE.1 hPM (ci := 7) (q := (RX7, TX7, 28)) rfl wM_0, fun U hU hW => ⟨rfl, by rw [hU]; exact hPM, va_K.moved hW.alike hE.1⟩⟩ rfl hn hz hk (lv_room hr) hdg hf) hS (fun q _ hq => hA q hq) hA (fun r u t H1 locs1 ht _ hp hB _ hk1 hS1 => kk r u H1 locs1 hp (hPX.kept (fun k q hq => hk1 q.1 (hPX k q hq).lt (fun z => ?_))) (by rw [← ht]; exact hB) hS1)
  obtain ⟨i, hi, ei⟩ := z
  obtain ⟨j, hj, ej⟩ := wX_key hq
  exact hO.2.2.2.2 j i hj hi (ej.symm.trans ei)

theorem lcXl {P' : Int64 → SX × LX → Prop} (hE : lE D cI cJ t0 s.heap.size s) (hO : lw_ok h g s.heap.size) (hPX : va_P D vwCl (wX h cI cJ S L) H) (hPM : va_P D vwCl (wM g cI cJ M N) H) (hS : va_S (fun q => s.heap.size ≤ q) s.heap H locs) (fx : CallFix p m c cc nL s args Ts own)
    (hM : Met l y ws rm (xPre D (wX h cI cJ) (xE D h cI cJ t0) S L (.ref (h 0) :: As)) (va_Ql P' (xB D (wX h cI cJ)) (xA 53 h)) 0 0 (xA 53 h)) (cw : CallW R s args own RX6 index y bytes maxL ret ws rm 0 0 n) (hn : As.length = n) (hz : ls.size = nL) (hk : st = As.reverse ++ .ref (h 0) :: rest) (hr : (rest.map fun v => v.category).sum ≤ 8) (hdg : decode cc pc = .ok (.invokevirtual index, 3)) (hf : cells ≤ R.cells ∧ slots ≤ R.slots)
    (kk : ∀ (r : Int64) (u : SX × LX) (H1 : Heap) (locs1 : List Loc), P' r u → va_P D vwCl (wX h cI cJ u.1 u.2) H1 → va_P D vwCl (wM g cI cJ M N) H1 → va_S (fun q => s.heap.size ≤ q) s.heap H1 locs1 → W p l e R s m args below meth c H1 locs1 cells slots Q (F0 m (pc + 3) ls (.long r :: rest))) : W p l e R s m args below meth c H locs cells slots Q (F0 m pc ls st) := by
  have hA : ∀ q, xA 53 h q → s.heap.size ≤ q := fun q hq => by obtain ⟨k, hk, rfl⟩ := hq; exact hO.2.2.1 k hk
  refine va_calll (va_runV (g := F0 m pc ls st) (As := As) (rest := rest) fx hM cw ⟨fun a U gg mk q => ⟨q.1, q.2.1, (xE_st D h cI cJ t0).2 a U gg mk q.2.2⟩, va_recv hE.1 hPX (ci := 6) (q := (RX6, TX6, 8)) rfl wX_0, fun U hU hW => ⟨rfl, by rw [hU]; exact hPX, lE_x hE (by rw [hU]; exact hS) hW hO.2.2.1⟩⟩ rfl hn hz hk (lv_room hr) hdg hf) hS (fun q _ hq => hA q hq) hA (fun r u t H1 locs1 ht _ hp hB _ hk1 hS1 => kk r u H1 locs1 hp (by rw [← ht]; exact hB) (hPM.kept (fun k q hq => hk1 q.1 (hPM k q hq).lt (fun z => ?_))) hS1)
  obtain ⟨i, hi, ei⟩ := z
  obtain ⟨j, hj, ej⟩ := wM_key hq
  exact hO.2.2.2.2 i j hi hj (ei.symm.trans ej)
theorem lcMl {P' : Int64 → SX × LX → Prop} (hE : lE D cI cJ t0 s.heap.size s) (hO : lw_ok h g s.heap.size) (hPX : va_P D vwCl (wX h cI cJ S L) H) (hPM : va_P D vwCl (wM g cI cJ M N) H) (hS : va_S (fun q => s.heap.size ≤ q) s.heap H locs) (fx : CallFix p m c cc nL s args Ts own)
    (hM : Met l y ws rm (xPre D (wM g cI cJ) (mE D cI cJ) M N (.ref (g 0) :: As)) (va_Ql P' (xB D (wM g cI cJ)) (xA 22 g)) 0 0 (xA 22 g)) (cw : CallW R s args own RX7 index y bytes maxL ret ws rm 0 0 n) (hn : As.length = n) (hz : ls.size = nL) (hk : st = As.reverse ++ .ref (g 0) :: rest) (hr : (rest.map fun v => v.category).sum ≤ 8) (hdg : decode cc pc = .ok (.invokevirtual index, 3)) (hf : cells ≤ R.cells ∧ slots ≤ R.slots)
    (kk : ∀ (r : Int64) (u : SX × LX) (H1 : Heap) (locs1 : List Loc), P' r u → va_P D vwCl (wX h cI cJ S L) H1 → va_P D vwCl (wM g cI cJ u.1 u.2) H1 → va_S (fun q => s.heap.size ≤ q) s.heap H1 locs1 → W p l e R s m args below meth c H1 locs1 cells slots Q (F0 m (pc + 3) ls (.long r :: rest))) : W p l e R s m args below meth c H locs cells slots Q (F0 m pc ls st) := by
  have hA : ∀ q, xA 22 g q → s.heap.size ≤ q := fun q hq => by obtain ⟨k, hk, rfl⟩ := hq; exact hO.2.2.2.1 k hk
  refine va_calll (va_runV (g := F0 m pc ls st) (As := As) (rest := rest) fx hM cw ⟨fun a U gg mk q => ⟨q.1, q.2.1, (mE_st D (xA 22 g) cI cJ).2 a U gg mk q.2.2⟩, va_recv hE.1 hPM (ci := 7) (q := (RX7, TX7, 28)) rfl wM_0, fun U hU hW => ⟨rfl, by rw [hU]; exact hPM, va_K.moved hW.alike hE.1⟩⟩ rfl hn hz hk (lv_room hr) hdg hf) hS (fun q _ hq => hA q hq) hA (fun r u t H1 locs1 ht _ hp hB _ hk1 hS1 => kk r u H1 locs1 hp (hPX.kept (fun k q hq => hk1 q.1 (hPX k q hq).lt (fun z => ?_))) (by rw [← ht]; exact hB) hS1)
  obtain ⟨i, hi, ei⟩ := z
  obtain ⟨j, hj, ej⟩ := wX_key hq
  exact hO.2.2.2.2 j i hj hi (ej.symm.trans ei)

/-- a number of the script -/
theorem lw_arg {b Ln : Nat} {xs : Nat → Int32} {i : Nat} {lv : List (Nat × Value)} (hx : p.tables.exec = Jvm.exec) (hb : c.code = cc) (hX : va_X b Ln xs s s.heap) (hbl : b < s.heap.size) (hS : va_S (fun q => s.heap.size ≤ q) s.heap H locs) (hl : lv_has ls 4 ((0, .ref b) :: (1, .ref (h 0)) :: (2, .ref (g 0)) :: (3, .int (nI i)) :: lv)) (hi : i + 6 ≤ Ln) (hL : Ln ≤ 384) (k : Nat) (hk : k < 6) {kz : Int} (hkz : Int32.ofInt kz = nI k) {p1 p2 p3 p4 p5 : Nat} (d0 : decode cc pc = .ok (.aload_n 0, 1)) (d1 : decode cc p1 = .ok (.iload_n 3, 1)) (d2 : decode cc p2 = .ok (.iconst kz, 1)) (d3 : decode cc p3 = .ok (.iadd, 1)) (d4 : decode cc p4 = .ok (.iaload, 1)) (e1 : p1 = pc + 1) (e2 : p2 = pc + 2) (e3 : p3 = pc + 3) (e4 : p4 = pc + 4) (e5 : p5 = pc + 5)
    (kk : W p l e R s m args below meth c H locs cells slots Q (F0 m p5 ls (.int (xs (i + k)) :: st))) : W p l e R s m args below meth c H locs cells slots Q (F0 m pc ls st) := by
  subst e1 e2 e3 e4 e5
  have hbA : ¬ (fun q : Nat => s.heap.size ≤ q) b := Nat.not_le.mpr hbl
  refine lv_aload_n hx hb d0 rfl (lv_at hl 0 rfl) ?_
  refine lv_iload_n hx hb d1 rfl (lv_at hl 3 rfl) ?_
  refine lv_iconst hx hb d2 hkz ?_
  refine lv_iadd hx hb d3 ?_
  rw [nI_add]
  refine va_sld hx hb hX hbl hbA hS (pk_in (i + k) Ln (by omega)) d4 ?_
  rw [nI_clamp (show i + k < 2 ^ 31 by omega)]
  exact kk
abbrev lw_lo (a d : Int32) : Int64 := (a.toInt64 <<< ((32 : Int32).toInt64 &&& 63)) ||| (d.toInt64 &&& (4294967295 : Int64))
end LCALL
