-- ===== end of PART A; then your names; then what follows =====
/-! THE CLAIM OUT OF ONE WALK OF THE LAW'S BODY. Your part is whole_start (and what it stands on); all else here is the same for every law, but numbers. -/
def R_law : String := "TurningShopLaw"
def lw_P (b : Addr) (xs : List Int32) (args : Array Value) (s : State) : Prop := args = #[.ref b] ∧ s.IntsAt b xs ∧ xs.length ≤ 2048 ∧ (Jvm.Cond.and given_1 narrow_1).before args s = true ∧ heapFits s = true
/-- what a walk over the start with the record d0 says of its end, said of the start itself -/
theorem lw_closed {s t : State} {o : Outcome} {d0 : Drawn} {L : List Loc} {k n : Nat} (hd0 : s.drawn.sameBut d0 lw_cs) (hv : ∃ v, o = .returned v) (hW : (s.setDrawn d0).WarmedH t.vm) (hs : (s.setDrawn d0).sameButNew ({ t with vm := s.vm } : State) L k n) : State.butDraws s t lw_cs (fun t1 => Framed s o t1 L k n) := by
  have h2 : t.drawn = d0 := congrArg State.drawn hs.1
  refine ⟨⟨hv, hW, State.sameButNew.setDrawn hs s.drawn⟩, ?_, by decide⟩
  rw [h2]
  exact hd0
def lw_Q (_ : Array Value) (s : State) (o : Outcome) (t : State) : Prop := o = .returned (some (.int 1)) ∧ State.butDraws s t lw_cs (fun t1 => Framed s o t1 [] 600000 7302250)
def lw_Z (below : List Frame) (a : Array Value) (s : State) : State → Prop := fun t => ∃ o, t.status = .running ∧ Ended t below o ∧ lw_Q a s o t
/-- the law's own end, with 1 on the stack, nothing written that was there before, its room as the claim has it; d0: the record of draws at this point (at the entry s.drawn: begin with 'refine W.base ?_' and 'have hd0 := Drawn.sameBut.refl s.drawn lw_cs') -/
theorem lw_ret {p : Program} {l : Launch} {e : Env} {s : State} {m : MethodId} {below : List Frame} {meth : Method} {c : Code} {b : Nat} {d0 : Drawn} (hd0 : s.drawn.sameBut d0 lw_cs) (hx : p.tables.exec = Jvm.exec) (hb : c.code = code) (hr : meth.sig.returnType = ret) (hlocks : meth.locks = false) {pc : Nat} {H : Heap} {ls : Array Slot} (hdg : decode code pc = .ok (.ireturn, 1)) : W p l e room_1 (s.setDrawn d0) m #[Value.ref b] below meth c H [] 600000 7302250 (lw_Z below #[Value.ref b] s) (F0 m pc ls [.int 1]) := by
  intro T hT X
  obtain ⟨fs, hret, hrun, hended, hW, hframe⟩ := X.leave (v := some (.int 1)) (hlocks := hlocks) (fun h => by rw [hr] at h; cases h)
  have hmeth' : T.vm.method? m = some meth := X.method'
  refine ⟨T.setFrames fs, ?_, .returned (some (.int 1)), hrun, hended, rfl, lw_closed hd0 ⟨_, rfl⟩ hW hframe⟩
  jvm_step X.here [X.here.top, hx, hb, hdg, hmeth', hr, ret, narrow_b1]
  (try refine ⟨rfl, ?_⟩); (try refine ⟨rfl, ?_⟩)
  first | (intro acts; rw [hret _ acts rfl rfl rfl]) | rw [hret _ _ rfl rfl rfl]
  exact Steps.refl _
/-- what holds at the law's entry: the machine, the code, the tables' words (any of lw_tbl by 'hts w (by decide +kernel)'), the script of L ints xs at the cell b, what the Statement gives of the start (any of its parts by flat_of_before) -/
def lw_At (p : Program) (s : State) (m : MethodId) (meth : Method) (c : Code) (b L : Nat) (xs : Nat → Int32) : Prop :=
  p.tables.exec = Jvm.exec ∧ c.code = code ∧ meth.sig.returnType = ret ∧ c.maxLocals = 4 ∧ s.vm.findClass R_law = some m.cls ∧ (∀ w ∈ lw_tbl, w.before #[Value.ref b] s = true) ∧ va_X b L xs s s.heap ∧ b < s.heap.size ∧ meth.locks = false ∧ (Jvm.Cond.and given_1 narrow_1).before #[Value.ref b] s = true ∧ heapFits s = true
/-! ===== what the start gives ===== -/
abbrev lwA (s : State) : Nat → Prop := fun q => s.heap.size ≤ q
theorem lw_nA {s : State} : ∀ a : Nat, a < s.heap.size → ¬ lwA s a := fun _ h q => absurd q (Nat.not_le.mpr h)
/-- an int row of the start holds ints alone -/
theorem lw_ints {s : State} (hf : heapFits s = true) {t : Nat} {cell : Cell} (hc : s.heap[t]? = some cell) (hof : s.isArrayOf cell .int) : ∃ xs : Nat → Int32, ∀ j : Nat, j < cell.slots.size → cell.slots[j]? = some (.int (xs j)) := by
  have key : ∀ j : Nat, ∃ z : Int32, j < cell.slots.size → cell.slots[j]? = some (.int z) := by
    intro j
    by_cases hj : j < cell.slots.size
    · have hm : cell ∈ s.heap := Array.mem_of_getElem? hc
      have h1 := (Array.all_eq_true_iff_forall_mem.mp hf) cell hm
      have h2 := (List.all_eq_true.mp h1) j (List.mem_range.mpr hj)
      have hv : cell.slots[j]? = some cell.slots[j] := Array.getElem?_eq_getElem hj
      rw [hv] at h2
      obtain ⟨hns, k, hk, comp, hkind⟩ := hof
      have h3 : s.fitsSlot cell.cls cell.vm j cell.slots[j] = true := h2
      have hty : s.slotType? cell.cls cell.vm j = some .int := by
        unfold State.slotType?
        rw [hk]
        cases hvm : cell.vm with
        | statics q => exact absurd hvm (hns q)
        | _ => simp [hkind]
      unfold State.fitsSlot at h3
      rw [hty] at h3
      cases hz : cell.slots[j] with
      | int z => exact ⟨z, fun _ => by rw [hv, hz]⟩
      | _ => rw [hz] at h3; simp [fits] at h3
    · exact ⟨0, fun h => absurd h hj⟩
  exact Classical.skolem.mp key
theorem lw_tab {args : Array Value} {s : State} {tm : Term} {i : Nat} (hf : heapFits s = true) (harr : (Cond.arrayOf tm .int).before args s = true) (hlen : (Cond.eq (Term.length tm) (.int 10)).before args s = true) (hel : ∀ j : Nat, j < 10 → (Term.elem tm (.int (Int32.ofNat j))).eval args s none [] s = some (.int (iN (tv i j)))) : ∃ t : Nat, tm.eval args s none [] s = some (.ref t) ∧ tX t i s s.heap ∧ t < s.heap.size ∧ ¬ lwA s t := by
  obtain ⟨t, ht, cell, hc, hof, hkn, hN, hI, hv, hA⟩ := va_Tof (N := 10) (f := fun j => .int (iN (tv i j))) (A := lwA s) (by decide) harr (va_eqt hlen) hel lw_nA
  obtain ⟨xs, hxs⟩ := lw_ints hf hc hof
  refine ⟨t, ht, ⟨cell.slots.size, xs, ⟨hN, hI.trans (by decide)⟩, ⟨cell, hc, hof, hkn, rfl, hxs⟩, fun j hj => ?_⟩, (Array.getElem?_eq_some_iff.mp hc).1, hA⟩
  have h1 := hxs j (by omega)
  rw [hv j hj] at h1
  exact (Value.int.inj (Option.some.inj h1)).symm
theorem lw_t0 {s : State} {b : Nat} (hg : (Jvm.Cond.and given_1 narrow_1).before #[Value.ref b] s = true) (hf : heapFits s = true) : ∃ t : Nat, (Term.static "TurningShop" "PRICE" "[I").eval #[Value.ref b] s none [] s = some (.ref t) ∧ tX t 0 s s.heap ∧ t < s.heap.size ∧ ¬ lwA s t := by
  have hs := flat_of_before _ hg
  refine lw_tab hf (hs _ (List.mem_of_getElem? (i := 109) (by decide +kernel))) (hs _ (List.mem_of_getElem? (i := 110) (by decide +kernel))) ?_
  intro j hj
  match j, hj with
    | 0, _ => exact va_eqt (z := 0) (hs _ (List.mem_of_getElem? (i := 111) (by decide +kernel)))
    | 1, _ => exact va_eqt (z := 3) (hs _ (List.mem_of_getElem? (i := 112) (by decide +kernel)))
    | 2, _ => exact va_eqt (z := 6) (hs _ (List.mem_of_getElem? (i := 113) (by decide +kernel)))
    | 3, _ => exact va_eqt (z := 2) (hs _ (List.mem_of_getElem? (i := 114) (by decide +kernel)))
    | 4, _ => exact va_eqt (z := 8) (hs _ (List.mem_of_getElem? (i := 115) (by decide +kernel)))
    | 5, _ => exact va_eqt (z := 0) (hs _ (List.mem_of_getElem? (i := 116) (by decide +kernel)))
    | 6, _ => exact va_eqt (z := 5) (hs _ (List.mem_of_getElem? (i := 117) (by decide +kernel)))
    | 7, _ => exact va_eqt (z := 5) (hs _ (List.mem_of_getElem? (i := 118) (by decide +kernel)))
    | 8, _ => exact va_eqt (z := 4) (hs _ (List.mem_of_getElem? (i := 119) (by decide +kernel)))
    | 9, _ => exact va_eqt (z := 3) (hs _ (List.mem_of_getElem? (i := 120) (by decide +kernel)))
    | j + 10, hj => exact absurd hj (by omega)
theorem lw_t1 {s : State} {b : Nat} (hg : (Jvm.Cond.and given_1 narrow_1).before #[Value.ref b] s = true) (hf : heapFits s = true) : ∃ t : Nat, (Term.static "TurningShop" "GIVES_COINS" "[I").eval #[Value.ref b] s none [] s = some (.ref t) ∧ tX t 1 s s.heap ∧ t < s.heap.size ∧ ¬ lwA s t := by
  have hs := flat_of_before _ hg
  refine lw_tab hf (hs _ (List.mem_of_getElem? (i := 31) (by decide +kernel))) (hs _ (List.mem_of_getElem? (i := 32) (by decide +kernel))) ?_
  intro j hj
  match j, hj with
    | 0, _ => exact va_eqt (z := 1) (hs _ (List.mem_of_getElem? (i := 33) (by decide +kernel)))
    | 1, _ => exact va_eqt (z := 2) (hs _ (List.mem_of_getElem? (i := 34) (by decide +kernel)))
    | 2, _ => exact va_eqt (z := 3) (hs _ (List.mem_of_getElem? (i := 35) (by decide +kernel)))
    | 3, _ => exact va_eqt (z := 0) (hs _ (List.mem_of_getElem? (i := 36) (by decide +kernel)))
    | 4, _ => exact va_eqt (z := 0) (hs _ (List.mem_of_getElem? (i := 37) (by decide +kernel)))
    | 5, _ => exact va_eqt (z := 0) (hs _ (List.mem_of_getElem? (i := 38) (by decide +kernel)))
    | 6, _ => exact va_eqt (z := 0) (hs _ (List.mem_of_getElem? (i := 39) (by decide +kernel)))
    | 7, _ => exact va_eqt (z := 1) (hs _ (List.mem_of_getElem? (i := 40) (by decide +kernel)))
    | 8, _ => exact va_eqt (z := 0) (hs _ (List.mem_of_getElem? (i := 41) (by decide +kernel)))
    | 9, _ => exact va_eqt (z := 0) (hs _ (List.mem_of_getElem? (i := 42) (by decide +kernel)))
    | j + 10, hj => exact absurd hj (by omega)
theorem lw_t2 {s : State} {b : Nat} (hg : (Jvm.Cond.and given_1 narrow_1).before #[Value.ref b] s = true) (hf : heapFits s = true) : ∃ t : Nat, (Term.static "TurningShop" "GIVES_CARDS" "[I").eval #[Value.ref b] s none [] s = some (.ref t) ∧ tX t 2 s s.heap ∧ t < s.heap.size ∧ ¬ lwA s t := by
  have hs := flat_of_before _ hg
  refine lw_tab hf (hs _ (List.mem_of_getElem? (i := 44) (by decide +kernel))) (hs _ (List.mem_of_getElem? (i := 45) (by decide +kernel))) ?_
  intro j hj
  match j, hj with
    | 0, _ => exact va_eqt (z := 0) (hs _ (List.mem_of_getElem? (i := 46) (by decide +kernel)))
    | 1, _ => exact va_eqt (z := 0) (hs _ (List.mem_of_getElem? (i := 47) (by decide +kernel)))
    | 2, _ => exact va_eqt (z := 0) (hs _ (List.mem_of_getElem? (i := 48) (by decide +kernel)))
    | 3, _ => exact va_eqt (z := 0) (hs _ (List.mem_of_getElem? (i := 49) (by decide +kernel)))
    | 4, _ => exact va_eqt (z := 0) (hs _ (List.mem_of_getElem? (i := 50) (by decide +kernel)))
    | 5, _ => exact va_eqt (z := 0) (hs _ (List.mem_of_getElem? (i := 51) (by decide +kernel)))
    | 6, _ => exact va_eqt (z := 2) (hs _ (List.mem_of_getElem? (i := 52) (by decide +kernel)))
    | 7, _ => exact va_eqt (z := 1) (hs _ (List.mem_of_getElem? (i := 53) (by decide +kernel)))
    | 8, _ => exact va_eqt (z := 0) (hs _ (List.mem_of_getElem? (i := 54) (by decide +kernel)))
    | 9, _ => exact va_eqt (z := 2) (hs _ (List.mem_of_getElem? (i := 55) (by decide +kernel)))
    | j + 10, hj => exact absurd hj (by omega)
theorem lw_t3 {s : State} {b : Nat} (hg : (Jvm.Cond.and given_1 narrow_1).before #[Value.ref b] s = true) (hf : heapFits s = true) : ∃ t : Nat, (Term.static "TurningShop" "GIVES_BUYS" "[I").eval #[Value.ref b] s none [] s = some (.ref t) ∧ tX t 3 s s.heap ∧ t < s.heap.size ∧ ¬ lwA s t := by
  have hs := flat_of_before _ hg
  refine lw_tab hf (hs _ (List.mem_of_getElem? (i := 57) (by decide +kernel))) (hs _ (List.mem_of_getElem? (i := 58) (by decide +kernel))) ?_
  intro j hj
  match j, hj with
    | 0, _ => exact va_eqt (z := 0) (hs _ (List.mem_of_getElem? (i := 59) (by decide +kernel)))
    | 1, _ => exact va_eqt (z := 0) (hs _ (List.mem_of_getElem? (i := 60) (by decide +kernel)))
    | 2, _ => exact va_eqt (z := 0) (hs _ (List.mem_of_getElem? (i := 61) (by decide +kernel)))
    | 3, _ => exact va_eqt (z := 0) (hs _ (List.mem_of_getElem? (i := 62) (by decide +kernel)))
    | 4, _ => exact va_eqt (z := 0) (hs _ (List.mem_of_getElem? (i := 63) (by decide +kernel)))
    | 5, _ => exact va_eqt (z := 0) (hs _ (List.mem_of_getElem? (i := 64) (by decide +kernel)))
    | 6, _ => exact va_eqt (z := 0) (hs _ (List.mem_of_getElem? (i := 65) (by decide +kernel)))
    | 7, _ => exact va_eqt (z := 1) (hs _ (List.mem_of_getElem? (i := 66) (by decide +kernel)))
    | 8, _ => exact va_eqt (z := 0) (hs _ (List.mem_of_getElem? (i := 67) (by decide +kernel)))
    | 9, _ => exact va_eqt (z := 0) (hs _ (List.mem_of_getElem? (i := 68) (by decide +kernel)))
    | j + 10, hj => exact absurd hj (by omega)
theorem lw_t4 {s : State} {b : Nat} (hg : (Jvm.Cond.and given_1 narrow_1).before #[Value.ref b] s = true) (hf : heapFits s = true) : ∃ t : Nat, (Term.static "TurningShop" "GIVES_ACTIONS" "[I").eval #[Value.ref b] s none [] s = some (.ref t) ∧ tX t 4 s s.heap ∧ t < s.heap.size ∧ ¬ lwA s t := by
  have hs := flat_of_before _ hg
  refine lw_tab hf (hs _ (List.mem_of_getElem? (i := 70) (by decide +kernel))) (hs _ (List.mem_of_getElem? (i := 71) (by decide +kernel))) ?_
  intro j hj
  match j, hj with
    | 0, _ => exact va_eqt (z := 0) (hs _ (List.mem_of_getElem? (i := 72) (by decide +kernel)))
    | 1, _ => exact va_eqt (z := 0) (hs _ (List.mem_of_getElem? (i := 73) (by decide +kernel)))
    | 2, _ => exact va_eqt (z := 0) (hs _ (List.mem_of_getElem? (i := 74) (by decide +kernel)))
    | 3, _ => exact va_eqt (z := 0) (hs _ (List.mem_of_getElem? (i := 75) (by decide +kernel)))
    | 4, _ => exact va_eqt (z := 0) (hs _ (List.mem_of_getElem? (i := 76) (by decide +kernel)))
    | 5, _ => exact va_eqt (z := 0) (hs _ (List.mem_of_getElem? (i := 77) (by decide +kernel)))
    | 6, _ => exact va_eqt (z := 0) (hs _ (List.mem_of_getElem? (i := 78) (by decide +kernel)))
    | 7, _ => exact va_eqt (z := 1) (hs _ (List.mem_of_getElem? (i := 79) (by decide +kernel)))
    | 8, _ => exact va_eqt (z := 1) (hs _ (List.mem_of_getElem? (i := 80) (by decide +kernel)))
    | 9, _ => exact va_eqt (z := 1) (hs _ (List.mem_of_getElem? (i := 81) (by decide +kernel)))
    | j + 10, hj => exact absurd hj (by omega)
theorem lw_t5 {s : State} {b : Nat} (hg : (Jvm.Cond.and given_1 narrow_1).before #[Value.ref b] s = true) (hf : heapFits s = true) : ∃ t : Nat, (Term.static "TurningShop" "GIVES_CURSES" "[I").eval #[Value.ref b] s none [] s = some (.ref t) ∧ tX t 5 s s.heap ∧ t < s.heap.size ∧ ¬ lwA s t := by
  have hs := flat_of_before _ hg
  refine lw_tab hf (hs _ (List.mem_of_getElem? (i := 83) (by decide +kernel))) (hs _ (List.mem_of_getElem? (i := 84) (by decide +kernel))) ?_
  intro j hj
  match j, hj with
    | 0, _ => exact va_eqt (z := 0) (hs _ (List.mem_of_getElem? (i := 85) (by decide +kernel)))
    | 1, _ => exact va_eqt (z := 0) (hs _ (List.mem_of_getElem? (i := 86) (by decide +kernel)))
    | 2, _ => exact va_eqt (z := 0) (hs _ (List.mem_of_getElem? (i := 87) (by decide +kernel)))
    | 3, _ => exact va_eqt (z := 0) (hs _ (List.mem_of_getElem? (i := 88) (by decide +kernel)))
    | 4, _ => exact va_eqt (z := 0) (hs _ (List.mem_of_getElem? (i := 89) (by decide +kernel)))
    | 5, _ => exact va_eqt (z := 0) (hs _ (List.mem_of_getElem? (i := 90) (by decide +kernel)))
    | 6, _ => exact va_eqt (z := 1) (hs _ (List.mem_of_getElem? (i := 91) (by decide +kernel)))
    | 7, _ => exact va_eqt (z := 0) (hs _ (List.mem_of_getElem? (i := 92) (by decide +kernel)))
    | 8, _ => exact va_eqt (z := 0) (hs _ (List.mem_of_getElem? (i := 93) (by decide +kernel)))
    | 9, _ => exact va_eqt (z := 0) (hs _ (List.mem_of_getElem? (i := 94) (by decide +kernel)))
    | j + 10, hj => exact absurd hj (by omega)
theorem lw_t6 {s : State} {b : Nat} (hg : (Jvm.Cond.and given_1 narrow_1).before #[Value.ref b] s = true) (hf : heapFits s = true) : ∃ t : Nat, (Term.static "TurningShop" "GIVES_SCRAPS" "[I").eval #[Value.ref b] s none [] s = some (.ref t) ∧ tX t 6 s s.heap ∧ t < s.heap.size ∧ ¬ lwA s t := by
  have hs := flat_of_before _ hg
  refine lw_tab hf (hs _ (List.mem_of_getElem? (i := 96) (by decide +kernel))) (hs _ (List.mem_of_getElem? (i := 97) (by decide +kernel))) ?_
  intro j hj
  match j, hj with
    | 0, _ => exact va_eqt (z := 0) (hs _ (List.mem_of_getElem? (i := 98) (by decide +kernel)))
    | 1, _ => exact va_eqt (z := 0) (hs _ (List.mem_of_getElem? (i := 99) (by decide +kernel)))
    | 2, _ => exact va_eqt (z := 0) (hs _ (List.mem_of_getElem? (i := 100) (by decide +kernel)))
    | 3, _ => exact va_eqt (z := 0) (hs _ (List.mem_of_getElem? (i := 101) (by decide +kernel)))
    | 4, _ => exact va_eqt (z := 0) (hs _ (List.mem_of_getElem? (i := 102) (by decide +kernel)))
    | 5, _ => exact va_eqt (z := 0) (hs _ (List.mem_of_getElem? (i := 103) (by decide +kernel)))
    | 6, _ => exact va_eqt (z := 0) (hs _ (List.mem_of_getElem? (i := 104) (by decide +kernel)))
    | 7, _ => exact va_eqt (z := 0) (hs _ (List.mem_of_getElem? (i := 105) (by decide +kernel)))
    | 8, _ => exact va_eqt (z := 1) (hs _ (List.mem_of_getElem? (i := 106) (by decide +kernel)))
    | 9, _ => exact va_eqt (z := 0) (hs _ (List.mem_of_getElem? (i := 107) (by decide +kernel)))
    | j + 10, hj => exact absurd hj (by omega)
theorem lw_t7 {s : State} {b : Nat} (hg : (Jvm.Cond.and given_1 narrow_1).before #[Value.ref b] s = true) (hf : heapFits s = true) : ∃ t : Nat, (Term.static "TurningShop" "POINTS" "[I").eval #[Value.ref b] s none [] s = some (.ref t) ∧ tX t 7 s s.heap ∧ t < s.heap.size ∧ ¬ lwA s t := by
  have hs := flat_of_before _ hg
  refine lw_tab hf (hs _ (List.mem_of_getElem? (i := 122) (by decide +kernel))) (hs _ (List.mem_of_getElem? (i := 123) (by decide +kernel))) ?_
  intro j hj
  match j, hj with
    | 0, _ => exact va_eqt (z := 0) (hs _ (List.mem_of_getElem? (i := 124) (by decide +kernel)))
    | 1, _ => exact va_eqt (z := 0) (hs _ (List.mem_of_getElem? (i := 125) (by decide +kernel)))
    | 2, _ => exact va_eqt (z := 0) (hs _ (List.mem_of_getElem? (i := 126) (by decide +kernel)))
    | 3, _ => exact va_eqt (z := 1) (hs _ (List.mem_of_getElem? (i := 127) (by decide +kernel)))
    | 4, _ => exact va_eqt (z := 6) (hs _ (List.mem_of_getElem? (i := 128) (by decide +kernel)))
    | 5, _ => exact va_eqt (z := (-1)) (hs _ (List.mem_of_getElem? (i := 129) (by decide +kernel)))
    | 6, _ => exact va_eqt (z := 0) (hs _ (List.mem_of_getElem? (i := 130) (by decide +kernel)))
    | 7, _ => exact va_eqt (z := 0) (hs _ (List.mem_of_getElem? (i := 131) (by decide +kernel)))
    | 8, _ => exact va_eqt (z := 0) (hs _ (List.mem_of_getElem? (i := 132) (by decide +kernel)))
    | 9, _ => exact va_eqt (z := 0) (hs _ (List.mem_of_getElem? (i := 133) (by decide +kernel)))
    | j + 10, hj => exact absurd hj (by omega)
theorem lw_t8 {s : State} {b : Nat} (hg : (Jvm.Cond.and given_1 narrow_1).before #[Value.ref b] s = true) (hf : heapFits s = true) : ∃ t : Nat, (Term.static "TurningShop" "FIRST_PILES" "[I").eval #[Value.ref b] s none [] s = some (.ref t) ∧ tX t 8 s s.heap ∧ t < s.heap.size ∧ ¬ lwA s t := by
  have hs := flat_of_before _ hg
  refine lw_tab hf (hs _ (List.mem_of_getElem? (i := 5) (by decide +kernel))) (hs _ (List.mem_of_getElem? (i := 6) (by decide +kernel))) ?_
  intro j hj
  match j, hj with
    | 0, _ => exact va_eqt (z := 60) (hs _ (List.mem_of_getElem? (i := 7) (by decide +kernel)))
    | 1, _ => exact va_eqt (z := 20) (hs _ (List.mem_of_getElem? (i := 8) (by decide +kernel)))
    | 2, _ => exact va_eqt (z := 12) (hs _ (List.mem_of_getElem? (i := 9) (by decide +kernel)))
    | 3, _ => exact va_eqt (z := 24) (hs _ (List.mem_of_getElem? (i := 10) (by decide +kernel)))
    | 4, _ => exact va_eqt (z := 6) (hs _ (List.mem_of_getElem? (i := 11) (by decide +kernel)))
    | 5, _ => exact va_eqt (z := 10) (hs _ (List.mem_of_getElem? (i := 12) (by decide +kernel)))
    | 6, _ => exact va_eqt (z := 8) (hs _ (List.mem_of_getElem? (i := 13) (by decide +kernel)))
    | 7, _ => exact va_eqt (z := 8) (hs _ (List.mem_of_getElem? (i := 14) (by decide +kernel)))
    | 8, _ => exact va_eqt (z := 8) (hs _ (List.mem_of_getElem? (i := 15) (by decide +kernel)))
    | 9, _ => exact va_eqt (z := 8) (hs _ (List.mem_of_getElem? (i := 16) (by decide +kernel)))
    | j + 10, hj => exact absurd hj (by omega)
theorem lw_t9 {s : State} {b : Nat} (hg : (Jvm.Cond.and given_1 narrow_1).before #[Value.ref b] s = true) (hf : heapFits s = true) : ∃ t : Nat, (Term.static "TurningShop" "FIRST_DECK" "[I").eval #[Value.ref b] s none [] s = some (.ref t) ∧ tX t 9 s s.heap ∧ t < s.heap.size ∧ ¬ lwA s t := by
  have hs := flat_of_before _ hg
  refine lw_tab hf (hs _ (List.mem_of_getElem? (i := 18) (by decide +kernel))) (hs _ (List.mem_of_getElem? (i := 19) (by decide +kernel))) ?_
  intro j hj
  match j, hj with
    | 0, _ => exact va_eqt (z := 0) (hs _ (List.mem_of_getElem? (i := 20) (by decide +kernel)))
    | 1, _ => exact va_eqt (z := 0) (hs _ (List.mem_of_getElem? (i := 21) (by decide +kernel)))
    | 2, _ => exact va_eqt (z := 3) (hs _ (List.mem_of_getElem? (i := 22) (by decide +kernel)))
    | 3, _ => exact va_eqt (z := 0) (hs _ (List.mem_of_getElem? (i := 23) (by decide +kernel)))
    | 4, _ => exact va_eqt (z := 0) (hs _ (List.mem_of_getElem? (i := 24) (by decide +kernel)))
    | 5, _ => exact va_eqt (z := 3) (hs _ (List.mem_of_getElem? (i := 25) (by decide +kernel)))
    | 6, _ => exact va_eqt (z := 0) (hs _ (List.mem_of_getElem? (i := 26) (by decide +kernel)))
    | 7, _ => exact va_eqt (z := 0) (hs _ (List.mem_of_getElem? (i := 27) (by decide +kernel)))
    | 8, _ => exact va_eqt (z := 3) (hs _ (List.mem_of_getElem? (i := 28) (by decide +kernel)))
    | 9, _ => exact va_eqt (z := 0) (hs _ (List.mem_of_getElem? (i := 29) (by decide +kernel)))
    | j + 10, hj => exact absurd hj (by omega)
theorem lw_tB {s : State} {b : Nat} (hts : ∀ w ∈ lw_tbl, w.before #[Value.ref b] s = true) (hg : (Jvm.Cond.and given_1 narrow_1).before #[Value.ref b] s = true) (hf : heapFits s = true) : ∃ tb : Nat → Nat, tB tb (lwA s) s s.heap := by
  have hini : (Cond.initialized "TurningShop").before #[Value.ref b] s = true := hts _ (List.mem_append_right _ (List.mem_append_left _ (List.mem_of_getElem? (i := 1) rfl)))
  have key : ∀ i : Nat, ∃ t : Nat, i < 10 → va_Z "TurningShop" (tn i) "[I" (.ref t) (lwA s) s s.heap ∧ tX t i s s.heap ∧ t < s.heap.size ∧ ¬ lwA s t ∧ va_Nw (.fieldLinkNest RX0 (tx i) "TurningShop" (tn i) "[I" "TurningShop") s := by
    intro i
    by_cases hi : i < 10
    · match i, hi with
      | 0, _ =>
        obtain ⟨t, h1, h2, h3, h4⟩ := lw_t0 hg hf
        exact ⟨t, fun _ => ⟨va_Zof (hts _ (List.mem_append_right _ (List.mem_append_left _ (List.mem_of_getElem? (i := 215) rfl)))) hini h1 lw_nA, h2, h3, h4, hts (.fieldLinkNest "TurningShop$Game" 125 "TurningShop" "PRICE" "[I" "TurningShop") (List.mem_append_right _ (List.mem_append_left _ (List.mem_of_getElem? (i := 214) rfl)))⟩⟩
      | 1, _ =>
        obtain ⟨t, h1, h2, h3, h4⟩ := lw_t1 hg hf
        exact ⟨t, fun _ => ⟨va_Zof (hts _ (List.mem_append_right _ (List.mem_append_left _ (List.mem_of_getElem? (i := 175) rfl)))) hini h1 lw_nA, h2, h3, h4, hts (.fieldLinkNest "TurningShop$Game" 94 "TurningShop" "GIVES_COINS" "[I" "TurningShop") (List.mem_append_right _ (List.mem_append_left _ (List.mem_of_getElem? (i := 174) rfl)))⟩⟩
      | 2, _ =>
        obtain ⟨t, h1, h2, h3, h4⟩ := lw_t2 hg hf
        exact ⟨t, fun _ => ⟨va_Zof (hts _ (List.mem_append_right _ (List.mem_append_left _ (List.mem_of_getElem? (i := 177) rfl)))) hini h1 lw_nA, h2, h3, h4, hts (.fieldLinkNest "TurningShop$Game" 97 "TurningShop" "GIVES_CARDS" "[I" "TurningShop") (List.mem_append_right _ (List.mem_append_left _ (List.mem_of_getElem? (i := 176) rfl)))⟩⟩
      | 3, _ =>
        obtain ⟨t, h1, h2, h3, h4⟩ := lw_t3 hg hf
        exact ⟨t, fun _ => ⟨va_Zof (hts _ (List.mem_append_right _ (List.mem_append_left _ (List.mem_of_getElem? (i := 179) rfl)))) hini h1 lw_nA, h2, h3, h4, hts (.fieldLinkNest "TurningShop$Game" 100 "TurningShop" "GIVES_BUYS" "[I" "TurningShop") (List.mem_append_right _ (List.mem_append_left _ (List.mem_of_getElem? (i := 178) rfl)))⟩⟩
      | 4, _ =>
        obtain ⟨t, h1, h2, h3, h4⟩ := lw_t4 hg hf
        exact ⟨t, fun _ => ⟨va_Zof (hts _ (List.mem_append_right _ (List.mem_append_left _ (List.mem_of_getElem? (i := 181) rfl)))) hini h1 lw_nA, h2, h3, h4, hts (.fieldLinkNest "TurningShop$Game" 103 "TurningShop" "GIVES_ACTIONS" "[I" "TurningShop") (List.mem_append_right _ (List.mem_append_left _ (List.mem_of_getElem? (i := 180) rfl)))⟩⟩
      | 5, _ =>
        obtain ⟨t, h1, h2, h3, h4⟩ := lw_t5 hg hf
        exact ⟨t, fun _ => ⟨va_Zof (hts _ (List.mem_append_right _ (List.mem_append_left _ (List.mem_of_getElem? (i := 183) rfl)))) hini h1 lw_nA, h2, h3, h4, hts (.fieldLinkNest "TurningShop$Game" 106 "TurningShop" "GIVES_CURSES" "[I" "TurningShop") (List.mem_append_right _ (List.mem_append_left _ (List.mem_of_getElem? (i := 182) rfl)))⟩⟩
      | 6, _ =>
        obtain ⟨t, h1, h2, h3, h4⟩ := lw_t6 hg hf
        exact ⟨t, fun _ => ⟨va_Zof (hts _ (List.mem_append_right _ (List.mem_append_left _ (List.mem_of_getElem? (i := 197) rfl)))) hini h1 lw_nA, h2, h3, h4, hts (.fieldLinkNest "TurningShop$Game" 112 "TurningShop" "GIVES_SCRAPS" "[I" "TurningShop") (List.mem_append_right _ (List.mem_append_left _ (List.mem_of_getElem? (i := 196) rfl)))⟩⟩
      | 7, _ =>
        obtain ⟨t, h1, h2, h3, h4⟩ := lw_t7 hg hf
        exact ⟨t, fun _ => ⟨va_Zof (hts _ (List.mem_append_right _ (List.mem_append_right _ (List.mem_append_left _ (List.mem_of_getElem? (i := 51) rfl))))) hini h1 lw_nA, h2, h3, h4, hts (.fieldLinkNest "TurningShop$Game" 158 "TurningShop" "POINTS" "[I" "TurningShop") (List.mem_append_right _ (List.mem_append_right _ (List.mem_append_left _ (List.mem_of_getElem? (i := 85) rfl))))⟩⟩
      | 8, _ =>
        obtain ⟨t, h1, h2, h3, h4⟩ := lw_t8 hg hf
        exact ⟨t, fun _ => ⟨va_Zof (hts _ (List.mem_append_right _ (List.mem_append_left _ (List.mem_of_getElem? (i := 83) rfl)))) hini h1 lw_nA, h2, h3, h4, hts (.fieldLinkNest "TurningShop$Game" 63 "TurningShop" "FIRST_PILES" "[I" "TurningShop") (List.mem_append_right _ (List.mem_append_left _ (List.mem_of_getElem? (i := 82) rfl)))⟩⟩
      | 9, _ =>
        obtain ⟨t, h1, h2, h3, h4⟩ := lw_t9 hg hf
        exact ⟨t, fun _ => ⟨va_Zof (hts _ (List.mem_append_right _ (List.mem_append_left _ (List.mem_of_getElem? (i := 95) rfl)))) hini h1 lw_nA, h2, h3, h4, hts (.fieldLinkNest "TurningShop$Game" 82 "TurningShop" "FIRST_DECK" "[I" "TurningShop") (List.mem_append_right _ (List.mem_append_left _ (List.mem_of_getElem? (i := 94) rfl)))⟩⟩
      | j + 10, hi => exact absurd hi (by omega)
    · exact ⟨0, fun h => absurd h hi⟩
  obtain ⟨tb, h⟩ := Classical.skolem.mp key
  exact ⟨tb, fun i hi => h i hi⟩
theorem lw_K {s : State} {b : Nat} (hts : ∀ w ∈ lw_tbl, w.before #[Value.ref b] s = true) : va_AO "TurningShop$Game" s ∧ ∃ (D : va_G) (ci : Nat → ClassId), va_K D vwCl (xmT ci) s := by
  have hl : ∀ w ∈ wsL_law, w.before #[Value.ref b] s = true := fun w hw => hts w (wsL_law_in w hw)
  have hAO : va_AO "TurningShop$Game" s := hts (.arrayOver (.object "TurningShop$Game")) (List.mem_append_right _ (List.mem_append_left _ (List.mem_of_getElem? (i := 76) rfl)))
  refine ⟨hAO, ?_⟩
  obtain ⟨c0, iS0, hKn0⟩ := u_known (C := RX0) (T := TX0) (N := 14) (n := 14) hts inX0 (hl (.instantiable RX0 14) (tw_in1 _ (List.mem_of_getElem? (i := 13) rfl)))
  obtain ⟨c1, iS1, hKn1⟩ := u_known (C := RX1) (T := TX1) (N := 9) (n := 9) hts inX1 (hl (.instantiable RX1 9) (tw_in1 _ (List.mem_of_getElem? (i := 1) rfl)))
  obtain ⟨c2, iS2, hKn2⟩ := u_known (C := RX2) (T := TX2) (N := 13) (n := 13) hts inX2 (hl (.instantiable RX2 13) (tw_in1 _ (List.mem_of_getElem? (i := 4) rfl)))
  obtain ⟨cA, kA, compA, a1, a2, a3⟩ := Cond.arrayClass_spec (hl (.arrayClass .int) (tw_in2 _ (List.mem_of_getElem? (i := 1) rfl)))
  obtain ⟨cC, kC, compC, d1, d2, d3⟩ := Cond.arrayClass_spec (hl (.arrayClass .char) (tw_in1 _ (List.mem_of_getElem? (i := 18) rfl)))
  obtain ⟨comp, cG, kG, e1, e2, e3, e4, e5⟩ := Cond.arrayOver_spec (va_AO.use (A := #[Value.ref b]) hAO)
  refine ⟨(fun k => if k = 0 then c0 else if k = 1 then c1 else c2, fun k => if k = 0 then iS0 else if k = 1 then iS1 else iS2), fun k => if k = 0 then cA else if k = 1 then cG else cC, fun k q hq => ?_, fun k q hq => ?_⟩
  · match k, hq with
    | 0, hq => cases hq; exact hKn0
    | 1, hq => cases hq; exact hKn1
    | 2, hq => cases hq; exact hKn2
    | k + 3, hq => simp [vwCl] at hq
  · match k, hq with
    | 0, hq => cases hq; exact ⟨fun n z => ⟨fun k h => (by cases h), kA, a2, compA, a3⟩, a1⟩
    | 1, hq => cases hq; exact ⟨fun n z => ⟨fun k h => (by cases h), kG, e3, comp, e4⟩, kG, comp, e3, e4, e1, e5⟩
    | 2, hq => cases hq; exact ⟨fun n z => ⟨fun k h => (by cases h), kC, d2, compC, d3⟩, d1⟩
    | k + 3, hq => simp [xmT] at hq
/-! ===== the law's world: the object, the model ===== -/
def lwW (ci : Nat → ClassId) (xa : Nat → Nat) (ga : GA) (gx : XS) (ma : Nat → Nat) (gm : GS) : va_W := xmR ci xa ga gx ++ mmW (ci 0) ma gm
def lwB (D : va_G) (s : State) (ci : Nat → ClassId) (xa : Nat → Nat) (ga : GA) (gx : XS) (ma : Nat → Nat) (gm : GS) (H : Heap) (locs : List Loc) : Prop := va_P D vwCl (lwW ci xa ga gx ma gm) H ∧ va_D (lwA s) (lwW ci xa ga gx ma gm) ∧ va_S (lwA s) s.heap H locs
section LWR
variable {p : Program} {l : Launch} {e : Env} {R : Room} {s : State} {m : MethodId} {args : Array Value} {below : List Frame} {meth : Method} {c : Code} {H : Heap} {locs : List Loc} {cells slots : Nat} {Q : State → Prop}
variable {cc : ByteArray} {pc nL : Nat} {ls : Array Slot} {rest : List Value} {D : va_G} {ci : Nat → ClassId} {xa ma : Nat → Nat} {ga : GA} {gx : XS} {gm : GS} {own : String} {i : Nat} {tb : Nat → Nat}
theorem xl_B (hw : lwB D s ci xa ga gx ma gm H locs) : xmB D (lwA s) s ci xa ga gx H locs := ⟨hw.1.sub [0, 1, 2, 3, 4, 5, 6, 7, 8, 9, 10, 11, 12, 13, 14, 15, 16, 17, 18, 19, 20, 21, 22, 23, 24, 25, 26, 27, 28, 29, 30, 31, 32] rfl, hw.2.1.sub [0, 1, 2, 3, 4, 5, 6, 7, 8, 9, 10, 11, 12, 13, 14, 15, 16, 17, 18, 19, 20, 21, 22, 23, 24, 25, 26, 27, 28, 29, 30, 31, 32] (by decide) rfl, hw.2.2⟩
theorem ml_B (hw : lwB D s ci xa ga gx ma gm H locs) : mmB D (lwA s) s (ci 0) ma gm H locs := ⟨hw.1.sub [33, 34, 35, 36, 37] rfl, hw.2.1.sub [33, 34, 35, 36, 37] (by decide) rfl, hw.2.2⟩
theorem lx_calli {y : MethodName} {b : ByteArray} {n : Nat} {ty : FieldType} {rm : Room} {as : List Value} {P : Int → XS → Prop} {lv : List (Nat × Value)} (cx : CallFix p m c cc nL s args wsL_law own) (hK : va_K D vwCl (xmT ci) s) (hT : tB tb (lwA s) s s.heap) (hw : lwB D s ci xa ga gx ma gm H locs) (hl : lv_has ls nL lv) (hM : xmMi l y (wU y b n (some ty)) rm as gx P) (hG : GoodIn wsL_law (wsV own i RX1 y (wU y b n (some ty)))) (hrc : rm.cells = 0 ∧ rm.slots = 0) (na : Nat) (hna : as.length = na) (hd : y.cls = RX1 ∧ y.cls ≠ "java/lang/invoke/MethodHandle" ∧ y.cls ≠ "java/lang/invoke/VarHandle" ∧ (parseMethodDescriptor y.desc).map (fun d => d.parameters.length) = some na) (hR : rm.frames + 1 ≤ R.frames ∧ 8 + (n + 11) + rm.locals ≤ R.locals) (hf : cells ≤ R.cells ∧ slots ≤ R.slots) (hc : (rest.map fun v => v.category).sum ≤ 8) (hdg : decode cc pc = .ok (.invokevirtual i, 3)) {st : List Value} (hst : st = as.reverse ++ .ref (xa 0) :: rest) (kk : ∀ (z : Int) (ga1 : GA) (g1 : XS) (H1 : Heap) (locs1 : List Loc), P z g1 → lwB D s ci xa ga1 g1 ma gm H1 locs1 → W p l e R s m args below meth c H1 locs1 cells slots Q (F0 m (pc + 3) ls (.int (iN z) :: rest))) : W p l e R s m args below meth c H locs cells slots Q (F0 m pc ls st) := by
  have hA : ∀ q, s.heap.size ≤ q → lwA s q := fun _ h => h
  have hF := xm_free (xl_B hw) hA
  refine va_calli (va_runV (g := F0 m pc ls st) (As := as) (rest := rest) cx (hM D ci tb xa ga H.size) (cwV na cx.2.2.2.2 hG rfl hrc.1 hrc.2 hd hR) ⟨fun a U gf mk q => ⟨q.1, xmPre_blind gf mk a q.2⟩, va_recv hK (xl_B hw).1 (ci := 1) (q0 := 0) rfl rfl, fun U hU hW => ⟨rfl, xmPre_call hK hT hA (xl_B hw) hU hW⟩⟩ rfl hna hl.1 hst (lv_room hc) hdg ⟨by omega, by omega⟩) hw.2.2 (fun q _ h => hF q h) hF (fun r u t H1 locs1 ht hvm hq hB hz1 hk1 hS => ?_)
  obtain ⟨hP1, hD1⟩ := hB
  rw [ht] at hP1
  obtain ⟨z, rfl, hP⟩ := hq
  obtain ⟨hP2, hD2⟩ := va_join (wr := mmW (ci 0) ma gm) (wc := xmR ci xa ga gx) (w1 := xmR ci xa u.1 u.2) hw.1 hw.2.1 [0, 1, 2, 3, 4, 5, 6, 7, 8, 9, 10, 11, 12, 13, 14, 15, 16, 17, 18, 19, 20, 21, 22, 23, 24, 25, 26, 27, 28, 29, 30, 31, 32] [33, 34, 35, 36, 37] rfl rfl (by decide) (by decide) hk1 hF hP1 hD1
  exact kk z u.1 u.2 H1 locs1 hP ⟨hP2.sub (ws' := lwW ci xa u.1 u.2 ma gm) [5, 6, 7, 8, 9, 10, 11, 12, 13, 14, 15, 16, 17, 18, 19, 20, 21, 22, 23, 24, 25, 26, 27, 28, 29, 30, 31, 32, 33, 34, 35, 36, 37, 0, 1, 2, 3, 4] rfl, hD2.sub (ws' := lwW ci xa u.1 u.2 ma gm) [5, 6, 7, 8, 9, 10, 11, 12, 13, 14, 15, 16, 17, 18, 19, 20, 21, 22, 23, 24, 25, 26, 27, 28, 29, 30, 31, 32, 33, 34, 35, 36, 37, 0, 1, 2, 3, 4] (by decide) rfl, hS⟩
theorem lm_calli {y : MethodName} {b : ByteArray} {n : Nat} {ty : FieldType} {rm : Room} {as : List Value} {P : Int → GS → Prop} {lv : List (Nat × Value)} (cx : CallFix p m c cc nL s args wsL_law own) (hK : va_K D vwCl (xmT ci) s) (hw : lwB D s ci xa ga gx ma gm H locs) (hl : lv_has ls nL lv) (hM : mmMi l y (wU y b n (some ty)) rm as gm P) (hG : GoodIn wsL_law (wsV own i RX2 y (wU y b n (some ty)))) (hrc : rm.cells = 0 ∧ rm.slots = 0) (na : Nat) (hna : as.length = na) (hd : y.cls = RX2 ∧ y.cls ≠ "java/lang/invoke/MethodHandle" ∧ y.cls ≠ "java/lang/invoke/VarHandle" ∧ (parseMethodDescriptor y.desc).map (fun d => d.parameters.length) = some na) (hR : rm.frames + 1 ≤ R.frames ∧ 8 + (n + 11) + rm.locals ≤ R.locals) (hf : cells ≤ R.cells ∧ slots ≤ R.slots) (hc : (rest.map fun v => v.category).sum ≤ 8) (hdg : decode cc pc = .ok (.invokevirtual i, 3)) {st : List Value} (hst : st = as.reverse ++ .ref (ma 0) :: rest) (kk : ∀ (z : Int) (g1 : GS) (H1 : Heap) (locs1 : List Loc), P z g1 → lwB D s ci xa ga gx ma g1 H1 locs1 → W p l e R s m args below meth c H1 locs1 cells slots Q (F0 m (pc + 3) ls (.int (iN z) :: rest))) : W p l e R s m args below meth c H locs cells slots Q (F0 m pc ls st) := by
  have hA : ∀ q, s.heap.size ≤ q → lwA s q := fun _ h => h
  have hF := mm_free (ml_B hw) hA
  refine va_calli (va_runV (g := F0 m pc ls st) (As := as) (rest := rest) cx (hM D (ci 0) (fun _ => 0) ma H.size) (cwV na cx.2.2.2.2 hG rfl hrc.1 hrc.2 hd hR) ⟨fun a U gf mk q => ⟨q.1, mmPre_blind gf mk a q.2⟩, va_recv (xm_K0 hK) (ml_B hw).1 (ci := 2) (q0 := 0) rfl rfl, fun U hU hW => ⟨rfl, mmPre_call (xm_K0 hK) hA (ml_B hw) hU hW⟩⟩ rfl hna hl.1 hst (lv_room hc) hdg ⟨by omega, by omega⟩) hw.2.2 (fun q _ h => hF q h) hF (fun r u t H1 locs1 ht hvm hq hB hz1 hk1 hS => ?_)
  obtain ⟨hP1, hD1⟩ := hB
  rw [ht] at hP1
  obtain ⟨z, rfl, hP⟩ := hq
  obtain ⟨hP2, hD2⟩ := va_join (wr := xmR ci xa ga gx) (wc := mmW (ci 0) ma gm) (w1 := mmW (ci 0) ma u) hw.1 hw.2.1 [33, 34, 35, 36, 37] [0, 1, 2, 3, 4, 5, 6, 7, 8, 9, 10, 11, 12, 13, 14, 15, 16, 17, 18, 19, 20, 21, 22, 23, 24, 25, 26, 27, 28, 29, 30, 31, 32] rfl rfl (by decide) (by decide) hk1 hF hP1 hD1
  exact kk z u H1 locs1 hP ⟨hP2, hD2, hS⟩
/-- the script's ints -/
theorem ls_ld {b L : Nat} {xs : Nat → Int32} (hx : p.tables.exec = Jvm.exec) (hb : c.code = cc) (hL : L ≤ 2048) (hX : va_X b L xs s s.heap) (hbl : b < s.heap.size) (hS : va_S (lwA s) s.heap H locs) (k : Nat) {x : Int} (hk : x = (k : Int) ∧ k < L) (hdg : decode cc pc = .ok (.iaload, 1)) (kk : ∀ z : Int, z = (xs k).toInt → (-2147483648 ≤ z ∧ z ≤ 2147483647) → W p l e R s m args below meth c H locs cells slots Q (F0 m (pc + 1) ls (.int (iN z) :: rest))) : W p l e R s m args below meth c H locs cells slots Q (F0 m pc ls (.int (iN x) :: .ref b :: rest)) := by
  refine va_sld hx hb hX hbl (Nat.not_le.mpr hbl) hS (iN_in hk.1 hk.2 (by omega)) hdg ?_
  rw [iN_k hk.1 hk.2 (by omega)]
  have h1 := Int32.le_toInt (xs k)
  have h2 := Int32.toInt_lt (xs k)
  have h3 := kk (xs k).toInt rfl (by omega)
  rw [iN_toInt] at h3
  exact h3
theorem ls_and (hx : p.tables.exec = Jvm.exec) (hb : c.code = cc) {x : Int} (hdg : decode cc pc = .ok (.iand, 1)) (kk : ∀ z : Int, (0 ≤ z ∧ z ≤ 31) → W p l e R s m args below meth c H locs cells slots Q (F0 m (pc + 1) ls (.int (iN z) :: rest))) : W p l e R s m args below meth c H locs cells slots Q (F0 m pc ls (.int (iN 31) :: .int (iN x) :: rest)) := by
  refine lv_iand hx hb hdg ?_
  have h := vp_in_iff.mp (pk_andIn (iN x) (m := iN 31) 5 (by decide) (by decide))
  have h2 := kk (iN x &&& iN 31).toInt (by have : ((2 ^ 5 : Nat) : Int) = 32 := by decide
                                           omega)
  rw [iN_toInt] at h2
  exact h2
end LWR
theorem VT_perf {T : TT} (hv : VT T) : VT (stepT T (perfO T)) := by
  refine VT_step hv (fun _ => ?_)
  unfold perfO
  split
  · exact hv.1
  · exact (goT_VS _ _ _ _ _ _ hv.1 (Int.le_refl 0)).1
theorem FM_MO {g g1 : GS} {T : TT} (hf : FM g T) (h : RM g1 T.1 ∧ MO g1 g) : FM g1 T := FM_keep hf h.1 h.2.1 h.2.2.1 ⟨congrFun h.2.2.2 3, congrFun h.2.2.2 5⟩
set_option maxHeartbeats 8000000 in
set_option maxRecDepth 100000 in
/-- the law's loop -/
theorem law_loop {p : Program} {e : Env} {s : State} {m : MethodId} {below : List Frame} {meth : Method} {c : Code} (l : Launch) {b L : Nat} {xs : Nat → Int32} (hL : L ≤ 2048) (cx : CallFix p m c code 4 s #[Value.ref b] wsL_law RL) (hr : meth.sig.returnType = ret) (hlocks : meth.locks = false) (hX : va_X b L xs s s.heap) (hbl : b < s.heap.size) {D : va_G} {ci : Nat → ClassId} {tb xa ma : Nat → Nat} (hK : va_K D vwCl (xmT ci) s) (hT : tB tb (lwA s) s s.heap) : ∀ (fu k : Nat) (iz : Int) (T : TT) (ga : GA) (gx : XS) (gm : GS) (hmu : L + 4 - 4 * k < fu) (hk : iz = 4 * (k : Int) ∧ 4 * k ≤ L + 4) (hv : VT T) (hfx : FX gx T) (hfm : FM gm T) (H : Heap) (locs : List Loc) (hw : lwB D s ci xa ga gx ma gm H locs) (ls : Array Slot) (hl : lv_has ls 4 [(0, .ref b), (1, .ref (xa 0)), (2, .ref (ma 0)), (3, .int (iN iz))]), W p l e room_1 s m #[Value.ref b] below meth c H locs 600000 7302250 (lw_Z below #[Value.ref b] s) (F0 m 18 ls []) := by
  have hx := cx.1
  have hb := cx.2.1
  have hA : ∀ q, s.heap.size ≤ q → lwA s q := fun _ h => h
  intro fu
  induction fu with
  | zero => intro k iz T ga gx gm hmu; exact absurd hmu (Nat.not_lt_zero _)
  | succ fu ih =>
    intro k iz T ga gx gm hmu hk hv hfx hfm H locs hw ls hl
    refine lv_iload_n hx hb dL_law_18 rfl (lv_at hl 3 rfl) ?_
    refine lv_aload_n hx hb dL_law_19 rfl (lv_at hl 0 rfl) ?_
    refine va_slen hx hb hX hbl (Nat.not_le.mpr hbl) hw.2.2 dL_law_20 ?_
    rw [show Int32.ofNat L = iN (L : Int) from (Int32.ofInt_eq_ofNat).symm]
    refine ts_iconst (n := 4) hx hb dL_law_21 ?_
    refine ts_isub hx hb dL_law_22 (fun z22 hz22 => ?_)
    refine ts_icmp_gt (tgt := 658) hx hb (by omega) dL_law_23 (by decide) (fun c23 => ?_) (fun c23 => ?_)
    · refine ts_iconst (n := 1) hx hb dL_law_658 ?_
      refine va_forget (fun q hq => hw.2.2.2.2 q hq) ?_
      exact lw_ret (s := s) (d0 := s.drawn) (Drawn.sameBut.refl s.drawn lw_cs) hx hb hr hlocks dL_law_659
    · have cut652 : ∀ (T : TT) (ga : GA) (gx : XS) (gm : GS) (hv : VT T) (hfx : FX gx T) (hfm : FM gm T) (H : Heap) (locs : List Loc) (hw : lwB D s ci xa ga gx ma gm H locs) (ls : Array Slot) (hl : lv_has ls 4 [(0, .ref b), (1, .ref (xa 0)), (2, .ref (ma 0)), (3, .int (iN iz))]), W p l e room_1 s m #[Value.ref b] below meth c H locs 600000 7302250 (lw_Z below #[Value.ref b] s) (F0 m 652 ls []) := by
        intro T ga gx gm hv hfx hfm H locs hw ls hl
        obtain ⟨i4, hi4⟩ : ∃ z : Int, z = iz + 4 := ⟨_, rfl⟩
        refine lv_iinc (v := iN i4) (lv' := [(3, .int (iN i4)), (0, .ref b), (1, .ref (xa 0)), (2, .ref (ma 0))]) hx hb dL_law_652 hl (k := 3) rfl (by rw [hi4]; exact iN_add _ _) (by decide) rfl (fun ls hl => ?_)
        refine lv_goto (tgt := 18) hx hb dL_law_655 (by decide) ?_
        exact ih (k + 1) i4 T ga gx gm (by omega) (by omega) hv hfx hfm H locs hw ls (lv_sub hl [1, 2, 3, 0] rfl)
      refine lv_aload_n hx hb dL_law_26 rfl (lv_at hl 0 rfl) ?_
      refine lv_iload_n hx hb dL_law_27 rfl (lv_at hl 3 rfl) ?_
      refine ls_ld hx hb hL hX hbl hw.2.2 (4 * k) (by omega) dL_law_28 (fun z28 hz28 hb28 => ?_)
      refine ts_bipush (n := 31) hx hb dL_law_29 (by decide) ?_
      refine ls_and hx hb dL_law_31 (fun z31 hz31 => ?_)
      by_cases c32 : z31 < 0 ∨ 21 < z31
      · refine lv_tableOut (tgt := 652) hx hb dL_law_32 (by rw [toInt_iN (by omega)]; exact c32) (by decide) ?_
        exact cut652 T ga gx gm hv hfx hfm H locs hw ls hl
      · have c32_ : z31 = 0 ∨ z31 = 1 ∨ z31 = 2 ∨ z31 = 3 ∨ z31 = 4 ∨ z31 = 5 ∨ z31 = 6 ∨ z31 = 7 ∨ z31 = 8 ∨ z31 = 9 ∨ z31 = 10 ∨ z31 = 11 ∨ z31 = 12 ∨ z31 = 13 ∨ z31 = 14 ∨ z31 = 15 ∨ z31 = 16 ∨ z31 = 17 ∨ z31 = 18 ∨ z31 = 19 ∨ z31 = 20 ∨ z31 = 21 := by omega
        rcases c32_ with c32 | c32 | c32 | c32 | c32 | c32 | c32 | c32 | c32 | c32 | c32 | c32 | c32 | c32 | c32 | c32 | c32 | c32 | c32 | c32 | c32 | c32
        · refine lv_tableIn (off := 104) (tgt := 136) hx hb dL_law_32 (by rw [toInt_iN (by omega)]; omega) (by rw [toInt_iN (by omega)]; omega) (by rw [toInt_iN (by omega), c32]; rfl) (by decide) ?_
          refine lv_aload_n hx hb dL_law_136 rfl (lv_at hl 1 rfl) ?_
          refine lv_aload_n hx hb dL_law_137 rfl (lv_at hl 0 rfl) ?_
          refine lv_iload_n hx hb dL_law_138 rfl (lv_at hl 3 rfl) ?_
          refine ts_iconst (n := 1) hx hb dL_law_139 ?_
          refine ts_iadd hx hb dL_law_140 (fun a137 ha137 => ?_)
          refine ls_ld hx hb hL hX hbl hw.2.2 (4 * k + 1) (by omega) dL_law_141 (fun x1 hx1 bx1 => ?_)
          refine lx_calli (rest := []) cx hK hT hw hl (c_X1_begin l x1 gx T hfx hv bx1) tg_RL_13 ⟨rfl, rfl⟩ 1 rfl (by decide +kernel) ⟨Nat.le_of_ble_eq_true rfl, Nat.le_of_ble_eq_true rfl⟩ ⟨Nat.le_of_ble_eq_true rfl, Nat.le_of_ble_eq_true rfl⟩ (Nat.le_of_ble_eq_true rfl) dL_law_142 rfl (fun zx ga2 gx2 H locs hqx hw => ?_)
          refine lv_aload_n hx hb dL_law_145 rfl (lv_at hl 2 rfl) ?_
          refine lv_aload_n hx hb dL_law_146 rfl (lv_at hl 0 rfl) ?_
          refine lv_iload_n hx hb dL_law_147 rfl (lv_at hl 3 rfl) ?_
          refine ts_iconst (n := 1) hx hb dL_law_148 ?_
          refine ts_iadd hx hb dL_law_149 (fun a146 ha146 => ?_)
          refine ls_ld hx hb hL hX hbl hw.2.2 (4 * k + 1) (by omega) dL_law_150 (fun m1 hm1 bm1 => ?_)
          refine lm_calli (rest := [.int (iN zx)]) cx hK hw hl (c_X2_begin l m1 gm T hfm hv bm1) tg_RL_17 ⟨rfl, rfl⟩ 1 rfl (by decide +kernel) ⟨Nat.le_of_ble_eq_true rfl, Nat.le_of_ble_eq_true rfl⟩ ⟨Nat.le_of_ble_eq_true rfl, Nat.le_of_ble_eq_true rfl⟩ (Nat.le_of_ble_eq_true rfl) dL_law_151 rfl (fun zm gm2 H locs hqm hw => ?_)
          rw [show m1 = x1 from hm1.trans hx1.symm] at hqm
          have he : zx = zm := hqx.1.trans hqm.1.symm
          refine lv_icmp_eq (tgt := 652) hx hb dL_law_154 (by decide) (fun _ => ?_) (fun q => absurd (by rw [he]) q)
          exact cut652 (stepT T (begO T.1 x1)) ga2 gx2 gm2 (VT_step hv (fun _ => (VS_ops hv.1).2.2.2.2.1 x1)) hqx.2 hqm.2 _ _ hw _ hl
        · refine lv_tableIn (off := 127) (tgt := 159) hx hb dL_law_32 (by rw [toInt_iN (by omega)]; omega) (by rw [toInt_iN (by omega)]; omega) (by rw [toInt_iN (by omega), c32]; rfl) (by decide) ?_
          refine lv_aload_n hx hb dL_law_159 rfl (lv_at hl 1 rfl) ?_
          refine lv_aload_n hx hb dL_law_160 rfl (lv_at hl 0 rfl) ?_
          refine lv_iload_n hx hb dL_law_161 rfl (lv_at hl 3 rfl) ?_
          refine ts_iconst (n := 1) hx hb dL_law_162 ?_
          refine ts_iadd hx hb dL_law_163 (fun a160 ha160 => ?_)
          refine ls_ld hx hb hL hX hbl hw.2.2 (4 * k + 1) (by omega) dL_law_164 (fun x1 hx1 bx1 => ?_)
          refine lx_calli (rest := []) cx hK hT hw hl (c_X1_play l x1 gx T hfx hv bx1) tg_RL_18 ⟨rfl, rfl⟩ 1 rfl (by decide +kernel) ⟨Nat.le_of_ble_eq_true rfl, Nat.le_of_ble_eq_true rfl⟩ ⟨Nat.le_of_ble_eq_true rfl, Nat.le_of_ble_eq_true rfl⟩ (Nat.le_of_ble_eq_true rfl) dL_law_165 rfl (fun zx ga2 gx2 H locs hqx hw => ?_)
          refine lv_aload_n hx hb dL_law_168 rfl (lv_at hl 2 rfl) ?_
          refine lv_aload_n hx hb dL_law_169 rfl (lv_at hl 0 rfl) ?_
          refine lv_iload_n hx hb dL_law_170 rfl (lv_at hl 3 rfl) ?_
          refine ts_iconst (n := 1) hx hb dL_law_171 ?_
          refine ts_iadd hx hb dL_law_172 (fun a169 ha169 => ?_)
          refine ls_ld hx hb hL hX hbl hw.2.2 (4 * k + 1) (by omega) dL_law_173 (fun m1 hm1 bm1 => ?_)
          refine lm_calli (rest := [.int (iN zx)]) cx hK hw hl (c_X2_play l m1 gm T hfm hv bm1) tg_RL_21 ⟨rfl, rfl⟩ 1 rfl (by decide +kernel) ⟨Nat.le_of_ble_eq_true rfl, Nat.le_of_ble_eq_true rfl⟩ ⟨Nat.le_of_ble_eq_true rfl, Nat.le_of_ble_eq_true rfl⟩ (Nat.le_of_ble_eq_true rfl) dL_law_174 rfl (fun zm gm2 H locs hqm hw => ?_)
          rw [show m1 = x1 from hm1.trans hx1.symm] at hqm
          have he : zx = zm := hqx.1.trans hqm.1.symm
          refine lv_icmp_eq (tgt := 652) hx hb dL_law_177 (by decide) (fun _ => ?_) (fun q => absurd (by rw [he]) q)
          exact cut652 (stepT T (playO T.1 x1)) ga2 gx2 gm2 (VT_step hv (fun _ => (VS_ops hv.1).1 x1)) hqx.2 hqm.2 _ _ hw _ hl
        · refine lv_tableIn (off := 150) (tgt := 182) hx hb dL_law_32 (by rw [toInt_iN (by omega)]; omega) (by rw [toInt_iN (by omega)]; omega) (by rw [toInt_iN (by omega), c32]; rfl) (by decide) ?_
          refine lv_aload_n hx hb dL_law_182 rfl (lv_at hl 1 rfl) ?_
          refine lv_aload_n hx hb dL_law_183 rfl (lv_at hl 0 rfl) ?_
          refine lv_iload_n hx hb dL_law_184 rfl (lv_at hl 3 rfl) ?_
          refine ts_iconst (n := 1) hx hb dL_law_185 ?_
          refine ts_iadd hx hb dL_law_186 (fun a183 ha183 => ?_)
          refine ls_ld hx hb hL hX hbl hw.2.2 (4 * k + 1) (by omega) dL_law_187 (fun x1 hx1 bx1 => ?_)
          refine lx_calli (rest := []) cx hK hT hw hl (c_X1_buy l x1 gx T hfx hv bx1) tg_RL_22 ⟨rfl, rfl⟩ 1 rfl (by decide +kernel) ⟨Nat.le_of_ble_eq_true rfl, Nat.le_of_ble_eq_true rfl⟩ ⟨Nat.le_of_ble_eq_true rfl, Nat.le_of_ble_eq_true rfl⟩ (Nat.le_of_ble_eq_true rfl) dL_law_188 rfl (fun zx ga2 gx2 H locs hqx hw => ?_)
          refine lv_aload_n hx hb dL_law_191 rfl (lv_at hl 2 rfl) ?_
          refine lv_aload_n hx hb dL_law_192 rfl (lv_at hl 0 rfl) ?_
          refine lv_iload_n hx hb dL_law_193 rfl (lv_at hl 3 rfl) ?_
          refine ts_iconst (n := 1) hx hb dL_law_194 ?_
          refine ts_iadd hx hb dL_law_195 (fun a192 ha192 => ?_)
          refine ls_ld hx hb hL hX hbl hw.2.2 (4 * k + 1) (by omega) dL_law_196 (fun m1 hm1 bm1 => ?_)
          refine lm_calli (rest := [.int (iN zx)]) cx hK hw hl (c_X2_buy l m1 gm T hfm hv bm1) tg_RL_25 ⟨rfl, rfl⟩ 1 rfl (by decide +kernel) ⟨Nat.le_of_ble_eq_true rfl, Nat.le_of_ble_eq_true rfl⟩ ⟨Nat.le_of_ble_eq_true rfl, Nat.le_of_ble_eq_true rfl⟩ (Nat.le_of_ble_eq_true rfl) dL_law_197 rfl (fun zm gm2 H locs hqm hw => ?_)
          rw [show m1 = x1 from hm1.trans hx1.symm] at hqm
          have he : zx = zm := hqx.1.trans hqm.1.symm
          refine lv_icmp_eq (tgt := 652) hx hb dL_law_200 (by decide) (fun _ => ?_) (fun q => absurd (by rw [he]) q)
          exact cut652 (stepT T (buyO T.1 x1)) ga2 gx2 gm2 (VT_step hv (fun _ => (VS_ops hv.1).2.1 x1)) hqx.2 hqm.2 _ _ hw _ hl
        · refine lv_tableIn (off := 173) (tgt := 205) hx hb dL_law_32 (by rw [toInt_iN (by omega)]; omega) (by rw [toInt_iN (by omega)]; omega) (by rw [toInt_iN (by omega), c32]; rfl) (by decide) ?_
          refine lv_aload_n hx hb dL_law_205 rfl (lv_at hl 1 rfl) ?_
          refine lv_aload_n hx hb dL_law_206 rfl (lv_at hl 0 rfl) ?_
          refine lv_iload_n hx hb dL_law_207 rfl (lv_at hl 3 rfl) ?_
          refine ts_iconst (n := 1) hx hb dL_law_208 ?_
          refine ts_iadd hx hb dL_law_209 (fun a206 ha206 => ?_)
          refine ls_ld hx hb hL hX hbl hw.2.2 (4 * k + 1) (by omega) dL_law_210 (fun x1 hx1 bx1 => ?_)
          refine lx_calli (rest := []) cx hK hT hw hl (c_X1_scrap l x1 gx T hfx hv bx1) tg_RL_26 ⟨rfl, rfl⟩ 1 rfl (by decide +kernel) ⟨Nat.le_of_ble_eq_true rfl, Nat.le_of_ble_eq_true rfl⟩ ⟨Nat.le_of_ble_eq_true rfl, Nat.le_of_ble_eq_true rfl⟩ (Nat.le_of_ble_eq_true rfl) dL_law_211 rfl (fun zx ga2 gx2 H locs hqx hw => ?_)
          refine lv_aload_n hx hb dL_law_214 rfl (lv_at hl 2 rfl) ?_
          refine lv_aload_n hx hb dL_law_215 rfl (lv_at hl 0 rfl) ?_
          refine lv_iload_n hx hb dL_law_216 rfl (lv_at hl 3 rfl) ?_
          refine ts_iconst (n := 1) hx hb dL_law_217 ?_
          refine ts_iadd hx hb dL_law_218 (fun a215 ha215 => ?_)
          refine ls_ld hx hb hL hX hbl hw.2.2 (4 * k + 1) (by omega) dL_law_219 (fun m1 hm1 bm1 => ?_)
          refine lm_calli (rest := [.int (iN zx)]) cx hK hw hl (c_X2_scrap l m1 gm T hfm hv bm1) tg_RL_29 ⟨rfl, rfl⟩ 1 rfl (by decide +kernel) ⟨Nat.le_of_ble_eq_true rfl, Nat.le_of_ble_eq_true rfl⟩ ⟨Nat.le_of_ble_eq_true rfl, Nat.le_of_ble_eq_true rfl⟩ (Nat.le_of_ble_eq_true rfl) dL_law_220 rfl (fun zm gm2 H locs hqm hw => ?_)
          rw [show m1 = x1 from hm1.trans hx1.symm] at hqm
          have he : zx = zm := hqx.1.trans hqm.1.symm
          refine lv_icmp_eq (tgt := 652) hx hb dL_law_223 (by decide) (fun _ => ?_) (fun q => absurd (by rw [he]) q)
          exact cut652 (stepT T (scrO T.1 x1)) ga2 gx2 gm2 (VT_step hv (fun _ => (VS_ops hv.1).2.2.1 x1)) hqx.2 hqm.2 _ _ hw _ hl
        · refine lv_tableIn (off := 196) (tgt := 228) hx hb dL_law_32 (by rw [toInt_iN (by omega)]; omega) (by rw [toInt_iN (by omega)]; omega) (by rw [toInt_iN (by omega), c32]; rfl) (by decide) ?_
          refine lv_aload_n hx hb dL_law_228 rfl (lv_at hl 1 rfl) ?_
          refine lx_calli (rest := []) cx hK hT hw hl (c_X1_end l gx T hfx hv) tg_RL_30 ⟨rfl, rfl⟩ 0 rfl (by decide +kernel) ⟨Nat.le_of_ble_eq_true rfl, Nat.le_of_ble_eq_true rfl⟩ ⟨Nat.le_of_ble_eq_true rfl, Nat.le_of_ble_eq_true rfl⟩ (Nat.le_of_ble_eq_true rfl) dL_law_229 rfl (fun zx ga2 gx2 H locs hqx hw => ?_)
          refine lv_aload_n hx hb dL_law_232 rfl (lv_at hl 2 rfl) ?_
          refine lm_calli (rest := [.int (iN zx)]) cx hK hw hl (c_X2_end l gm T hfm hv) tg_RL_34 ⟨rfl, rfl⟩ 0 rfl (by decide +kernel) ⟨Nat.le_of_ble_eq_true rfl, Nat.le_of_ble_eq_true rfl⟩ ⟨Nat.le_of_ble_eq_true rfl, Nat.le_of_ble_eq_true rfl⟩ (Nat.le_of_ble_eq_true rfl) dL_law_233 rfl (fun zm gm2 H locs hqm hw => ?_)
          have he : zx = zm := hqx.1.trans hqm.1.symm
          refine lv_icmp_eq (tgt := 652) hx hb dL_law_236 (by decide) (fun _ => ?_) (fun q => absurd (by rw [he]) q)
          exact cut652 (stepT T (endO T.1)) ga2 gx2 gm2 (VT_step hv (fun _ => (VS_ops hv.1).2.2.2.1)) hqx.2 hqm.2 _ _ hw _ hl
        · refine lv_tableIn (off := 209) (tgt := 241) hx hb dL_law_32 (by rw [toInt_iN (by omega)]; omega) (by rw [toInt_iN (by omega)]; omega) (by rw [toInt_iN (by omega), c32]; rfl) (by decide) ?_
          refine lv_aload_n hx hb dL_law_241 rfl (lv_at hl 1 rfl) ?_
          refine lv_aload_n hx hb dL_law_242 rfl (lv_at hl 0 rfl) ?_
          refine lv_iload_n hx hb dL_law_243 rfl (lv_at hl 3 rfl) ?_
          refine ts_iconst (n := 1) hx hb dL_law_244 ?_
          refine ts_iadd hx hb dL_law_245 (fun a242 ha242 => ?_)
          refine ls_ld hx hb hL hX hbl hw.2.2 (4 * k + 1) (by omega) dL_law_246 (fun x1 hx1 bx1 => ?_)
          refine lx_calli (rest := []) cx hK hT hw hl (c_X1_alike l x1 gx T hfx hv bx1) tg_RL_35 ⟨rfl, rfl⟩ 1 rfl (by decide +kernel) ⟨Nat.le_of_ble_eq_true rfl, Nat.le_of_ble_eq_true rfl⟩ ⟨Nat.le_of_ble_eq_true rfl, Nat.le_of_ble_eq_true rfl⟩ (Nat.le_of_ble_eq_true rfl) dL_law_247 rfl (fun zx ga2 gx2 H locs hqx hw => ?_)
          refine lv_aload_n hx hb dL_law_250 rfl (lv_at hl 2 rfl) ?_
          refine lv_aload_n hx hb dL_law_251 rfl (lv_at hl 0 rfl) ?_
          refine lv_iload_n hx hb dL_law_252 rfl (lv_at hl 3 rfl) ?_
          refine ts_iconst (n := 1) hx hb dL_law_253 ?_
          refine ts_iadd hx hb dL_law_254 (fun a251 ha251 => ?_)
          refine ls_ld hx hb hL hX hbl hw.2.2 (4 * k + 1) (by omega) dL_law_255 (fun m1 hm1 bm1 => ?_)
          refine lm_calli (rest := [.int (iN zx)]) cx hK hw hl (c_X2_alike l m1 gm T hfm hv bm1) tg_RL_38 ⟨rfl, rfl⟩ 1 rfl (by decide +kernel) ⟨Nat.le_of_ble_eq_true rfl, Nat.le_of_ble_eq_true rfl⟩ ⟨Nat.le_of_ble_eq_true rfl, Nat.le_of_ble_eq_true rfl⟩ (Nat.le_of_ble_eq_true rfl) dL_law_256 rfl (fun zm gm2 H locs hqm hw => ?_)
          rw [show m1 = x1 from hm1.trans hx1.symm] at hqm
          have he : zx = zm := hqx.1.trans hqm.1.symm
          refine lv_icmp_eq (tgt := 652) hx hb dL_law_259 (by decide) (fun _ => ?_) (fun q => absurd (by rw [he]) q)
          exact cut652 (stepT T (alikeO T.1 x1)) ga2 gx2 gm2 (VT_step hv (fun _ => (VS_ops hv.1).2.2.2.2.2.1 x1)) hqx.2 hqm.2 _ _ hw _ hl
        · refine lv_tableIn (off := 232) (tgt := 264) hx hb dL_law_32 (by rw [toInt_iN (by omega)]; omega) (by rw [toInt_iN (by omega)]; omega) (by rw [toInt_iN (by omega), c32]; rfl) (by decide) ?_
          refine lv_aload_n hx hb dL_law_264 rfl (lv_at hl 1 rfl) ?_
          refine lv_aload_n hx hb dL_law_265 rfl (lv_at hl 0 rfl) ?_
          refine lv_iload_n hx hb dL_law_266 rfl (lv_at hl 3 rfl) ?_
          refine ts_iconst (n := 1) hx hb dL_law_267 ?_
          refine ts_iadd hx hb dL_law_268 (fun a265 ha265 => ?_)
          refine ls_ld hx hb hL hX hbl hw.2.2 (4 * k + 1) (by omega) dL_law_269 (fun x1 hx1 bx1 => ?_)
          refine lv_aload_n hx hb dL_law_270 rfl (lv_at hl 0 rfl) ?_
          refine lv_iload_n hx hb dL_law_271 rfl (lv_at hl 3 rfl) ?_
          refine ts_iconst (n := 2) hx hb dL_law_272 ?_
          refine ts_iadd hx hb dL_law_273 (fun a270 ha270 => ?_)
          refine ls_ld hx hb hL hX hbl hw.2.2 (4 * k + 2) (by omega) dL_law_274 (fun x2 hx2 bx2 => ?_)
          refine lx_calli (rest := []) cx hK hT hw hl (c_X1_set l x1 x2 gx T hfx hv ⟨bx1, bx2⟩) tg_RL_39 ⟨rfl, rfl⟩ 2 rfl (by decide +kernel) ⟨Nat.le_of_ble_eq_true rfl, Nat.le_of_ble_eq_true rfl⟩ ⟨Nat.le_of_ble_eq_true rfl, Nat.le_of_ble_eq_true rfl⟩ (Nat.le_of_ble_eq_true rfl) dL_law_275 rfl (fun zx ga2 gx2 H locs hqx hw => ?_)
          refine lv_aload_n hx hb dL_law_278 rfl (lv_at hl 2 rfl) ?_
          refine lv_aload_n hx hb dL_law_279 rfl (lv_at hl 0 rfl) ?_
          refine lv_iload_n hx hb dL_law_280 rfl (lv_at hl 3 rfl) ?_
          refine ts_iconst (n := 1) hx hb dL_law_281 ?_
          refine ts_iadd hx hb dL_law_282 (fun a279 ha279 => ?_)
          refine ls_ld hx hb hL hX hbl hw.2.2 (4 * k + 1) (by omega) dL_law_283 (fun m1 hm1 bm1 => ?_)
          refine lv_aload_n hx hb dL_law_284 rfl (lv_at hl 0 rfl) ?_
          refine lv_iload_n hx hb dL_law_285 rfl (lv_at hl 3 rfl) ?_
          refine ts_iconst (n := 2) hx hb dL_law_286 ?_
          refine ts_iadd hx hb dL_law_287 (fun a284 ha284 => ?_)
          refine ls_ld hx hb hL hX hbl hw.2.2 (4 * k + 2) (by omega) dL_law_288 (fun m2 hm2 bm2 => ?_)
          refine lm_calli (rest := [.int (iN zx)]) cx hK hw hl (c_X2_set l m1 m2 gm T hfm hv ⟨bm1, bm2⟩) tg_RL_43 ⟨rfl, rfl⟩ 2 rfl (by decide +kernel) ⟨Nat.le_of_ble_eq_true rfl, Nat.le_of_ble_eq_true rfl⟩ ⟨Nat.le_of_ble_eq_true rfl, Nat.le_of_ble_eq_true rfl⟩ (Nat.le_of_ble_eq_true rfl) dL_law_289 rfl (fun zm gm2 H locs hqm hw => ?_)
          rw [show m1 = x1 from hm1.trans hx1.symm, show m2 = x2 from hm2.trans hx2.symm] at hqm
          have he : zx = zm := hqx.1.trans hqm.1.symm
          refine lv_icmp_eq (tgt := 652) hx hb dL_law_292 (by decide) (fun _ => ?_) (fun q => absurd (by rw [he]) q)
          exact cut652 (stepT T (setO T.1 x1 x2)) ga2 gx2 gm2 (VT_step hv (fun _ => (VS_ops hv.1).2.2.2.2.2.2 x1 x2)) hqx.2 hqm.2 _ _ hw _ hl
        · refine lv_tableIn (off := 265) (tgt := 297) hx hb dL_law_32 (by rw [toInt_iN (by omega)]; omega) (by rw [toInt_iN (by omega)]; omega) (by rw [toInt_iN (by omega), c32]; rfl) (by decide) ?_
          refine lv_aload_n hx hb dL_law_297 rfl (lv_at hl 1 rfl) ?_
          refine lv_aload_n hx hb dL_law_298 rfl (lv_at hl 0 rfl) ?_
          refine lv_iload_n hx hb dL_law_299 rfl (lv_at hl 3 rfl) ?_
          refine ts_iconst (n := 1) hx hb dL_law_300 ?_
          refine ts_iadd hx hb dL_law_301 (fun a298 ha298 => ?_)
          refine ls_ld hx hb hL hX hbl hw.2.2 (4 * k + 1) (by omega) dL_law_302 (fun x1 hx1 bx1 => ?_)
          refine lv_aload_n hx hb dL_law_303 rfl (lv_at hl 0 rfl) ?_
          refine lv_iload_n hx hb dL_law_304 rfl (lv_at hl 3 rfl) ?_
          refine ts_iconst (n := 2) hx hb dL_law_305 ?_
          refine ts_iadd hx hb dL_law_306 (fun a303 ha303 => ?_)
          refine ls_ld hx hb hL hX hbl hw.2.2 (4 * k + 2) (by omega) dL_law_307 (fun x2 hx2 bx2 => ?_)
          refine lv_aload_n hx hb dL_law_308 rfl (lv_at hl 0 rfl) ?_
          refine lv_iload_n hx hb dL_law_309 rfl (lv_at hl 3 rfl) ?_
          refine ts_iconst (n := 3) hx hb dL_law_310 ?_
          refine ts_iadd hx hb dL_law_311 (fun a308 ha308 => ?_)
          refine ls_ld hx hb hL hX hbl hw.2.2 (4 * k + 3) (by omega) dL_law_312 (fun x3 hx3 bx3 => ?_)
          refine xm_callr (rest := []) cx hK hT hA (xl_B hw) hl (c_X1_card l x1 x2 x3 gx T.1 hfx.1 hv.1 ⟨bx1, bx2, bx3⟩) tg_RL_44 ⟨rfl, rfl⟩ 3 rfl (by decide +kernel) ⟨Nat.le_of_ble_eq_true rfl, Nat.le_of_ble_eq_true rfl⟩ ⟨Nat.le_of_ble_eq_true rfl, Nat.le_of_ble_eq_true rfl⟩ (Nat.le_of_ble_eq_true rfl) dL_law_313 rfl (fun zx hzx => ?_)
          refine lv_aload_n hx hb dL_law_316 rfl (lv_at hl 2 rfl) ?_
          refine lv_aload_n hx hb dL_law_317 rfl (lv_at hl 0 rfl) ?_
          refine lv_iload_n hx hb dL_law_318 rfl (lv_at hl 3 rfl) ?_
          refine ts_iconst (n := 1) hx hb dL_law_319 ?_
          refine ts_iadd hx hb dL_law_320 (fun a317 ha317 => ?_)
          refine ls_ld hx hb hL hX hbl hw.2.2 (4 * k + 1) (by omega) dL_law_321 (fun m1 hm1 bm1 => ?_)
          refine lv_aload_n hx hb dL_law_322 rfl (lv_at hl 0 rfl) ?_
          refine lv_iload_n hx hb dL_law_323 rfl (lv_at hl 3 rfl) ?_
          refine ts_iconst (n := 2) hx hb dL_law_324 ?_
          refine ts_iadd hx hb dL_law_325 (fun a322 ha322 => ?_)
          refine ls_ld hx hb hL hX hbl hw.2.2 (4 * k + 2) (by omega) dL_law_326 (fun m2 hm2 bm2 => ?_)
          refine lv_aload_n hx hb dL_law_327 rfl (lv_at hl 0 rfl) ?_
          refine lv_iload_n hx hb dL_law_328 rfl (lv_at hl 3 rfl) ?_
          refine ts_iconst (n := 3) hx hb dL_law_329 ?_
          refine ts_iadd hx hb dL_law_330 (fun a327 ha327 => ?_)
          refine ls_ld hx hb hL hX hbl hw.2.2 (4 * k + 3) (by omega) dL_law_331 (fun m3 hm3 bm3 => ?_)
          refine mm_callr (rest := [.int (iN zx)]) cx (xm_K0 hK) hA (ml_B hw) hl (c_X2_card l m1 m2 m3 gm T.1 hfm.1 hv.1 ⟨bm1, bm2, bm3⟩) tg_RL_48 ⟨rfl, rfl⟩ 3 rfl (by decide +kernel) ⟨Nat.le_of_ble_eq_true rfl, Nat.le_of_ble_eq_true rfl⟩ ⟨Nat.le_of_ble_eq_true rfl, Nat.le_of_ble_eq_true rfl⟩ (Nat.le_of_ble_eq_true rfl) dL_law_332 rfl (fun zm hzm => ?_)
          have he : zx = zm := by rw [hzx, hzm, show m1 = x1 from hm1.trans hx1.symm, show m2 = x2 from hm2.trans hx2.symm, show m3 = x3 from hm3.trans hx3.symm]
          refine lv_icmp_eq (tgt := 652) hx hb dL_law_335 (by decide) (fun _ => ?_) (fun q => absurd (by rw [he]) q)
          exact cut652 T ga gx gm hv hfx hfm _ _ hw _ hl
        · refine lv_tableIn (off := 308) (tgt := 340) hx hb dL_law_32 (by rw [toInt_iN (by omega)]; omega) (by rw [toInt_iN (by omega)]; omega) (by rw [toInt_iN (by omega), c32]; rfl) (by decide) ?_
          refine lv_aload_n hx hb dL_law_340 rfl (lv_at hl 1 rfl) ?_
          refine lv_aload_n hx hb dL_law_341 rfl (lv_at hl 0 rfl) ?_
          refine lv_iload_n hx hb dL_law_342 rfl (lv_at hl 3 rfl) ?_
          refine ts_iconst (n := 1) hx hb dL_law_343 ?_
          refine ts_iadd hx hb dL_law_344 (fun a341 ha341 => ?_)
          refine ls_ld hx hb hL hX hbl hw.2.2 (4 * k + 1) (by omega) dL_law_345 (fun x1 hx1 bx1 => ?_)
          refine lv_aload_n hx hb dL_law_346 rfl (lv_at hl 0 rfl) ?_
          refine lv_iload_n hx hb dL_law_347 rfl (lv_at hl 3 rfl) ?_
          refine ts_iconst (n := 2) hx hb dL_law_348 ?_
          refine ts_iadd hx hb dL_law_349 (fun a346 ha346 => ?_)
          refine ls_ld hx hb hL hX hbl hw.2.2 (4 * k + 2) (by omega) dL_law_350 (fun x2 hx2 bx2 => ?_)
          refine lv_aload_n hx hb dL_law_351 rfl (lv_at hl 0 rfl) ?_
          refine lv_iload_n hx hb dL_law_352 rfl (lv_at hl 3 rfl) ?_
          refine ts_iconst (n := 3) hx hb dL_law_353 ?_
          refine ts_iadd hx hb dL_law_354 (fun a351 ha351 => ?_)
          refine ls_ld hx hb hL hX hbl hw.2.2 (4 * k + 3) (by omega) dL_law_355 (fun x3 hx3 bx3 => ?_)
          refine xm_callr (rest := []) cx hK hT hA (xl_B hw) hl (c_X1_many l x1 x2 x3 gx T.1 hfx.1 hv.1 ⟨bx1, bx2, bx3⟩) tg_RL_49 ⟨rfl, rfl⟩ 3 rfl (by decide +kernel) ⟨Nat.le_of_ble_eq_true rfl, Nat.le_of_ble_eq_true rfl⟩ ⟨Nat.le_of_ble_eq_true rfl, Nat.le_of_ble_eq_true rfl⟩ (Nat.le_of_ble_eq_true rfl) dL_law_356 rfl (fun zx hzx => ?_)
          refine lv_aload_n hx hb dL_law_359 rfl (lv_at hl 2 rfl) ?_
          refine lv_aload_n hx hb dL_law_360 rfl (lv_at hl 0 rfl) ?_
          refine lv_iload_n hx hb dL_law_361 rfl (lv_at hl 3 rfl) ?_
          refine ts_iconst (n := 1) hx hb dL_law_362 ?_
          refine ts_iadd hx hb dL_law_363 (fun a360 ha360 => ?_)
          refine ls_ld hx hb hL hX hbl hw.2.2 (4 * k + 1) (by omega) dL_law_364 (fun m1 hm1 bm1 => ?_)
          refine lv_aload_n hx hb dL_law_365 rfl (lv_at hl 0 rfl) ?_
          refine lv_iload_n hx hb dL_law_366 rfl (lv_at hl 3 rfl) ?_
          refine ts_iconst (n := 2) hx hb dL_law_367 ?_
          refine ts_iadd hx hb dL_law_368 (fun a365 ha365 => ?_)
          refine ls_ld hx hb hL hX hbl hw.2.2 (4 * k + 2) (by omega) dL_law_369 (fun m2 hm2 bm2 => ?_)
          refine lv_aload_n hx hb dL_law_370 rfl (lv_at hl 0 rfl) ?_
          refine lv_iload_n hx hb dL_law_371 rfl (lv_at hl 3 rfl) ?_
          refine ts_iconst (n := 3) hx hb dL_law_372 ?_
          refine ts_iadd hx hb dL_law_373 (fun a370 ha370 => ?_)
          refine ls_ld hx hb hL hX hbl hw.2.2 (4 * k + 3) (by omega) dL_law_374 (fun m3 hm3 bm3 => ?_)
          refine mm_callr (rest := [.int (iN zx)]) cx (xm_K0 hK) hA (ml_B hw) hl (c_X2_many l m1 m2 m3 gm T.1 hfm.1 hv.1 ⟨bm1, bm2, bm3⟩) tg_RL_52 ⟨rfl, rfl⟩ 3 rfl (by decide +kernel) ⟨Nat.le_of_ble_eq_true rfl, Nat.le_of_ble_eq_true rfl⟩ ⟨Nat.le_of_ble_eq_true rfl, Nat.le_of_ble_eq_true rfl⟩ (Nat.le_of_ble_eq_true rfl) dL_law_375 rfl (fun zm hzm => ?_)
          have he : zx = zm := by rw [hzx, hzm, show m1 = x1 from hm1.trans hx1.symm, show m2 = x2 from hm2.trans hx2.symm, show m3 = x3 from hm3.trans hx3.symm]
          refine lv_icmp_eq (tgt := 652) hx hb dL_law_378 (by decide) (fun _ => ?_) (fun q => absurd (by rw [he]) q)
          exact cut652 T ga gx gm hv hfx hfm _ _ hw _ hl
        · refine lv_tableIn (off := 351) (tgt := 383) hx hb dL_law_32 (by rw [toInt_iN (by omega)]; omega) (by rw [toInt_iN (by omega)]; omega) (by rw [toInt_iN (by omega), c32]; rfl) (by decide) ?_
          refine lv_aload_n hx hb dL_law_383 rfl (lv_at hl 1 rfl) ?_
          refine lv_aload_n hx hb dL_law_384 rfl (lv_at hl 0 rfl) ?_
          refine lv_iload_n hx hb dL_law_385 rfl (lv_at hl 3 rfl) ?_
          refine ts_iconst (n := 1) hx hb dL_law_386 ?_
          refine ts_iadd hx hb dL_law_387 (fun a384 ha384 => ?_)
          refine ls_ld hx hb hL hX hbl hw.2.2 (4 * k + 1) (by omega) dL_law_388 (fun x1 hx1 bx1 => ?_)
          refine xm_callr (rest := []) cx hK hT hA (xl_B hw) hl (c_X1_points l x1 gx T.1 hfx.1 hv.1 bx1) tg_RL_53 ⟨rfl, rfl⟩ 1 rfl (by decide +kernel) ⟨Nat.le_of_ble_eq_true rfl, Nat.le_of_ble_eq_true rfl⟩ ⟨Nat.le_of_ble_eq_true rfl, Nat.le_of_ble_eq_true rfl⟩ (Nat.le_of_ble_eq_true rfl) dL_law_389 rfl (fun zx hzx => ?_)
          refine lv_aload_n hx hb dL_law_392 rfl (lv_at hl 2 rfl) ?_
          refine lv_aload_n hx hb dL_law_393 rfl (lv_at hl 0 rfl) ?_
          refine lv_iload_n hx hb dL_law_394 rfl (lv_at hl 3 rfl) ?_
          refine ts_iconst (n := 1) hx hb dL_law_395 ?_
          refine ts_iadd hx hb dL_law_396 (fun a393 ha393 => ?_)
          refine ls_ld hx hb hL hX hbl hw.2.2 (4 * k + 1) (by omega) dL_law_397 (fun m1 hm1 bm1 => ?_)
          refine mm_callr (rest := [.int (iN zx)]) cx (xm_K0 hK) hA (ml_B hw) hl (c_X2_points l m1 gm T.1 hfm.1 hv.1 bm1) tg_RL_56 ⟨rfl, rfl⟩ 1 rfl (by decide +kernel) ⟨Nat.le_of_ble_eq_true rfl, Nat.le_of_ble_eq_true rfl⟩ ⟨Nat.le_of_ble_eq_true rfl, Nat.le_of_ble_eq_true rfl⟩ (Nat.le_of_ble_eq_true rfl) dL_law_398 rfl (fun zm hzm => ?_)
          have he : zx = zm := by rw [hzx, hzm, show m1 = x1 from hm1.trans hx1.symm]
          refine lv_icmp_eq (tgt := 652) hx hb dL_law_401 (by decide) (fun _ => ?_) (fun q => absurd (by rw [he]) q)
          exact cut652 T ga gx gm hv hfx hfm _ _ hw _ hl
        · refine lv_tableIn (off := 374) (tgt := 406) hx hb dL_law_32 (by rw [toInt_iN (by omega)]; omega) (by rw [toInt_iN (by omega)]; omega) (by rw [toInt_iN (by omega), c32]; rfl) (by decide) ?_
          refine lv_aload_n hx hb dL_law_406 rfl (lv_at hl 1 rfl) ?_
          refine lv_aload_n hx hb dL_law_407 rfl (lv_at hl 0 rfl) ?_
          refine lv_iload_n hx hb dL_law_408 rfl (lv_at hl 3 rfl) ?_
          refine ts_iconst (n := 1) hx hb dL_law_409 ?_
          refine ts_iadd hx hb dL_law_410 (fun a407 ha407 => ?_)
          refine ls_ld hx hb hL hX hbl hw.2.2 (4 * k + 1) (by omega) dL_law_411 (fun x1 hx1 bx1 => ?_)
          refine lv_aload_n hx hb dL_law_412 rfl (lv_at hl 0 rfl) ?_
          refine lv_iload_n hx hb dL_law_413 rfl (lv_at hl 3 rfl) ?_
          refine ts_iconst (n := 2) hx hb dL_law_414 ?_
          refine ts_iadd hx hb dL_law_415 (fun a412 ha412 => ?_)
          refine ls_ld hx hb hL hX hbl hw.2.2 (4 * k + 2) (by omega) dL_law_416 (fun x2 hx2 bx2 => ?_)
          refine xm_callr (rest := []) cx hK hT hA (xl_B hw) hl (c_X1_kindOf l x1 x2 gx T.1 hfx.1 hv.1 ⟨bx1, bx2⟩) tg_RL_57 ⟨rfl, rfl⟩ 2 rfl (by decide +kernel) ⟨Nat.le_of_ble_eq_true rfl, Nat.le_of_ble_eq_true rfl⟩ ⟨Nat.le_of_ble_eq_true rfl, Nat.le_of_ble_eq_true rfl⟩ (Nat.le_of_ble_eq_true rfl) dL_law_417 rfl (fun zx hzx => ?_)
          refine lv_aload_n hx hb dL_law_420 rfl (lv_at hl 2 rfl) ?_
          refine lv_aload_n hx hb dL_law_421 rfl (lv_at hl 0 rfl) ?_
          refine lv_iload_n hx hb dL_law_422 rfl (lv_at hl 3 rfl) ?_
          refine ts_iconst (n := 1) hx hb dL_law_423 ?_
          refine ts_iadd hx hb dL_law_424 (fun a421 ha421 => ?_)
          refine ls_ld hx hb hL hX hbl hw.2.2 (4 * k + 1) (by omega) dL_law_425 (fun m1 hm1 bm1 => ?_)
          refine lv_aload_n hx hb dL_law_426 rfl (lv_at hl 0 rfl) ?_
          refine lv_iload_n hx hb dL_law_427 rfl (lv_at hl 3 rfl) ?_
          refine ts_iconst (n := 2) hx hb dL_law_428 ?_
          refine ts_iadd hx hb dL_law_429 (fun a426 ha426 => ?_)
          refine ls_ld hx hb hL hX hbl hw.2.2 (4 * k + 2) (by omega) dL_law_430 (fun m2 hm2 bm2 => ?_)
          refine mm_callr (rest := [.int (iN zx)]) cx (xm_K0 hK) hA (ml_B hw) hl (c_X2_kindOf l m1 m2 gm T.1 hfm.1 hv.1 ⟨bm1, bm2⟩) tg_RL_60 ⟨rfl, rfl⟩ 2 rfl (by decide +kernel) ⟨Nat.le_of_ble_eq_true rfl, Nat.le_of_ble_eq_true rfl⟩ ⟨Nat.le_of_ble_eq_true rfl, Nat.le_of_ble_eq_true rfl⟩ (Nat.le_of_ble_eq_true rfl) dL_law_431 rfl (fun zm hzm => ?_)
          have he : zx = zm := by rw [hzx, hzm, show m1 = x1 from hm1.trans hx1.symm, show m2 = x2 from hm2.trans hx2.symm]
          refine lv_icmp_eq (tgt := 652) hx hb dL_law_434 (by decide) (fun _ => ?_) (fun q => absurd (by rw [he]) q)
          exact cut652 T ga gx gm hv hfx hfm _ _ hw _ hl
        · refine lv_tableIn (off := 407) (tgt := 439) hx hb dL_law_32 (by rw [toInt_iN (by omega)]; omega) (by rw [toInt_iN (by omega)]; omega) (by rw [toInt_iN (by omega), c32]; rfl) (by decide) ?_
          refine lv_aload_n hx hb dL_law_439 rfl (lv_at hl 1 rfl) ?_
          refine lv_aload_n hx hb dL_law_440 rfl (lv_at hl 0 rfl) ?_
          refine lv_iload_n hx hb dL_law_441 rfl (lv_at hl 3 rfl) ?_
          refine ts_iconst (n := 1) hx hb dL_law_442 ?_
          refine ts_iadd hx hb dL_law_443 (fun a440 ha440 => ?_)
          refine ls_ld hx hb hL hX hbl hw.2.2 (4 * k + 1) (by omega) dL_law_444 (fun x1 hx1 bx1 => ?_)
          refine xm_callr (rest := []) cx hK hT hA (xl_B hw) hl (c_X1_turn l x1 gx T.1 hfx.1 hv.1 bx1) tg_RL_61 ⟨rfl, rfl⟩ 1 rfl (by decide +kernel) ⟨Nat.le_of_ble_eq_true rfl, Nat.le_of_ble_eq_true rfl⟩ ⟨Nat.le_of_ble_eq_true rfl, Nat.le_of_ble_eq_true rfl⟩ (Nat.le_of_ble_eq_true rfl) dL_law_445 rfl (fun zx hzx => ?_)
          refine lv_aload_n hx hb dL_law_448 rfl (lv_at hl 2 rfl) ?_
          refine lv_aload_n hx hb dL_law_449 rfl (lv_at hl 0 rfl) ?_
          refine lv_iload_n hx hb dL_law_450 rfl (lv_at hl 3 rfl) ?_
          refine ts_iconst (n := 1) hx hb dL_law_451 ?_
          refine ts_iadd hx hb dL_law_452 (fun a449 ha449 => ?_)
          refine ls_ld hx hb hL hX hbl hw.2.2 (4 * k + 1) (by omega) dL_law_453 (fun m1 hm1 bm1 => ?_)
          refine mm_callr (rest := [.int (iN zx)]) cx (xm_K0 hK) hA (ml_B hw) hl (c_X2_turn l m1 gm T.1 hfm.1 hv.1 bm1) tg_RL_64 ⟨rfl, rfl⟩ 1 rfl (by decide +kernel) ⟨Nat.le_of_ble_eq_true rfl, Nat.le_of_ble_eq_true rfl⟩ ⟨Nat.le_of_ble_eq_true rfl, Nat.le_of_ble_eq_true rfl⟩ (Nat.le_of_ble_eq_true rfl) dL_law_454 rfl (fun zm hzm => ?_)
          have he : zx = zm := by rw [hzx, hzm, show m1 = x1 from hm1.trans hx1.symm]
          refine lv_icmp_eq (tgt := 652) hx hb dL_law_457 (by decide) (fun _ => ?_) (fun q => absurd (by rw [he]) q)
          exact cut652 T ga gx gm hv hfx hfm _ _ hw _ hl
        · refine lv_tableIn (off := 430) (tgt := 462) hx hb dL_law_32 (by rw [toInt_iN (by omega)]; omega) (by rw [toInt_iN (by omega)]; omega) (by rw [toInt_iN (by omega), c32]; rfl) (by decide) ?_
          refine lv_aload_n hx hb dL_law_462 rfl (lv_at hl 1 rfl) ?_
          refine xm_callr (rest := []) cx hK hT hA (xl_B hw) hl (c_X1_purse l gx T.1 hfx.1 hv.1) tg_RL_65 ⟨rfl, rfl⟩ 0 rfl (by decide +kernel) ⟨Nat.le_of_ble_eq_true rfl, Nat.le_of_ble_eq_true rfl⟩ ⟨Nat.le_of_ble_eq_true rfl, Nat.le_of_ble_eq_true rfl⟩ (Nat.le_of_ble_eq_true rfl) dL_law_463 rfl (fun zx hzx => ?_)
          refine lv_aload_n hx hb dL_law_466 rfl (lv_at hl 2 rfl) ?_
          refine mm_callr (rest := [.int (iN zx)]) cx (xm_K0 hK) hA (ml_B hw) hl (c_X2_purse l gm T.1 hfm.1 hv.1) tg_RL_68 ⟨rfl, rfl⟩ 0 rfl (by decide +kernel) ⟨Nat.le_of_ble_eq_true rfl, Nat.le_of_ble_eq_true rfl⟩ ⟨Nat.le_of_ble_eq_true rfl, Nat.le_of_ble_eq_true rfl⟩ (Nat.le_of_ble_eq_true rfl) dL_law_467 rfl (fun zm hzm => ?_)
          have he : zx = zm := by rw [hzx, hzm]
          refine lv_icmp_eq (tgt := 652) hx hb dL_law_470 (by decide) (fun _ => ?_) (fun q => absurd (by rw [he]) q)
          exact cut652 T ga gx gm hv hfx hfm _ _ hw _ hl
        · refine lv_tableIn (off := 443) (tgt := 475) hx hb dL_law_32 (by rw [toInt_iN (by omega)]; omega) (by rw [toInt_iN (by omega)]; omega) (by rw [toInt_iN (by omega), c32]; rfl) (by decide) ?_
          refine lv_aload_n hx hb dL_law_475 rfl (lv_at hl 1 rfl) ?_
          refine lv_aload_n hx hb dL_law_476 rfl (lv_at hl 0 rfl) ?_
          refine lv_iload_n hx hb dL_law_477 rfl (lv_at hl 3 rfl) ?_
          refine ts_iconst (n := 1) hx hb dL_law_478 ?_
          refine ts_iadd hx hb dL_law_479 (fun a476 ha476 => ?_)
          refine ls_ld hx hb hL hX hbl hw.2.2 (4 * k + 1) (by omega) dL_law_480 (fun x1 hx1 bx1 => ?_)
          refine lx_calli (rest := []) cx hK hT hw hl (c_X1_outcome l x1 gx T.1 hfx.1 hv.1 bx1) tg_RL_69 ⟨rfl, rfl⟩ 1 rfl (by decide +kernel) ⟨Nat.le_of_ble_eq_true rfl, Nat.le_of_ble_eq_true rfl⟩ ⟨Nat.le_of_ble_eq_true rfl, Nat.le_of_ble_eq_true rfl⟩ (Nat.le_of_ble_eq_true rfl) dL_law_481 rfl (fun zx ga2 gx2 H locs hqx hw => ?_)
          refine lv_aload_n hx hb dL_law_484 rfl (lv_at hl 2 rfl) ?_
          refine lv_aload_n hx hb dL_law_485 rfl (lv_at hl 0 rfl) ?_
          refine lv_iload_n hx hb dL_law_486 rfl (lv_at hl 3 rfl) ?_
          refine ts_iconst (n := 1) hx hb dL_law_487 ?_
          refine ts_iadd hx hb dL_law_488 (fun a485 ha485 => ?_)
          refine ls_ld hx hb hL hX hbl hw.2.2 (4 * k + 1) (by omega) dL_law_489 (fun m1 hm1 bm1 => ?_)
          refine lm_calli (rest := [.int (iN zx)]) cx hK hw hl (c_X2_outcome l m1 gm T.1 hfm.1 hv.1 bm1) tg_RL_72 ⟨rfl, rfl⟩ 1 rfl (by decide +kernel) ⟨Nat.le_of_ble_eq_true rfl, Nat.le_of_ble_eq_true rfl⟩ ⟨Nat.le_of_ble_eq_true rfl, Nat.le_of_ble_eq_true rfl⟩ (Nat.le_of_ble_eq_true rfl) dL_law_490 rfl (fun zm gm2 H locs hqm hw => ?_)
          rw [show m1 = x1 from hm1.trans hx1.symm] at hqm
          have he : zx = zm := hqx.1.trans hqm.1.symm
          refine lv_icmp_eq (tgt := 652) hx hb dL_law_493 (by decide) (fun _ => ?_) (fun q => absurd (by rw [he]) q)
          exact cut652 T ga2 gx2 gm2 hv (FX_spare hfx hqx.2) (FM_MO hfm hqm.2) _ _ hw _ hl
        · refine lv_tableIn (off := 466) (tgt := 498) hx hb dL_law_32 (by rw [toInt_iN (by omega)]; omega) (by rw [toInt_iN (by omega)]; omega) (by rw [toInt_iN (by omega), c32]; rfl) (by decide) ?_
          refine lv_aload_n hx hb dL_law_498 rfl (lv_at hl 1 rfl) ?_
          refine lv_aload_n hx hb dL_law_499 rfl (lv_at hl 0 rfl) ?_
          refine lv_iload_n hx hb dL_law_500 rfl (lv_at hl 3 rfl) ?_
          refine ts_iconst (n := 1) hx hb dL_law_501 ?_
          refine ts_iadd hx hb dL_law_502 (fun a499 ha499 => ?_)
          refine ls_ld hx hb hL hX hbl hw.2.2 (4 * k + 1) (by omega) dL_law_503 (fun x1 hx1 bx1 => ?_)
          refine lx_calli (rest := []) cx hK hT hw hl (c_X1_advice l x1 gx T.1 hfx.1 hv.1 bx1) tg_RL_73 ⟨rfl, rfl⟩ 1 rfl (by decide +kernel) ⟨Nat.le_of_ble_eq_true rfl, Nat.le_of_ble_eq_true rfl⟩ ⟨Nat.le_of_ble_eq_true rfl, Nat.le_of_ble_eq_true rfl⟩ (Nat.le_of_ble_eq_true rfl) dL_law_504 rfl (fun zx ga2 gx2 H locs hqx hw => ?_)
          refine lv_aload_n hx hb dL_law_507 rfl (lv_at hl 2 rfl) ?_
          refine lv_aload_n hx hb dL_law_508 rfl (lv_at hl 0 rfl) ?_
          refine lv_iload_n hx hb dL_law_509 rfl (lv_at hl 3 rfl) ?_
          refine ts_iconst (n := 1) hx hb dL_law_510 ?_
          refine ts_iadd hx hb dL_law_511 (fun a508 ha508 => ?_)
          refine ls_ld hx hb hL hX hbl hw.2.2 (4 * k + 1) (by omega) dL_law_512 (fun m1 hm1 bm1 => ?_)
          refine lm_calli (rest := [.int (iN zx)]) cx hK hw hl (c_X2_advice l m1 gm T.1 hfm.1 hv.1 bm1) tg_RL_76 ⟨rfl, rfl⟩ 1 rfl (by decide +kernel) ⟨Nat.le_of_ble_eq_true rfl, Nat.le_of_ble_eq_true rfl⟩ ⟨Nat.le_of_ble_eq_true rfl, Nat.le_of_ble_eq_true rfl⟩ (Nat.le_of_ble_eq_true rfl) dL_law_513 rfl (fun zm gm2 H locs hqm hw => ?_)
          rw [show m1 = x1 from hm1.trans hx1.symm] at hqm
          have he : zx = zm := hqx.1.trans hqm.1.symm
          refine lv_icmp_eq (tgt := 652) hx hb dL_law_516 (by decide) (fun _ => ?_) (fun q => absurd (by rw [he]) q)
          exact cut652 T ga2 gx2 gm2 hv (FX_spare hfx hqx.2) (FM_MO hfm hqm.2) _ _ hw _ hl
        · refine lv_tableIn (off := 489) (tgt := 521) hx hb dL_law_32 (by rw [toInt_iN (by omega)]; omega) (by rw [toInt_iN (by omega)]; omega) (by rw [toInt_iN (by omega), c32]; rfl) (by decide) ?_
          refine lv_aload_n hx hb dL_law_521 rfl (lv_at hl 1 rfl) ?_
          refine lv_aload_n hx hb dL_law_522 rfl (lv_at hl 0 rfl) ?_
          refine lv_iload_n hx hb dL_law_523 rfl (lv_at hl 3 rfl) ?_
          refine ts_iconst (n := 1) hx hb dL_law_524 ?_
          refine ts_iadd hx hb dL_law_525 (fun a522 ha522 => ?_)
          refine ls_ld hx hb hL hX hbl hw.2.2 (4 * k + 1) (by omega) dL_law_526 (fun x1 hx1 bx1 => ?_)
          refine xm_callr (rest := []) cx hK hT hA (xl_B hw) hl (c_X1_wealth l x1 gx T.1 hfx.1 hv.1 bx1) tg_RL_77 ⟨rfl, rfl⟩ 1 rfl (by decide +kernel) ⟨Nat.le_of_ble_eq_true rfl, Nat.le_of_ble_eq_true rfl⟩ ⟨Nat.le_of_ble_eq_true rfl, Nat.le_of_ble_eq_true rfl⟩ (Nat.le_of_ble_eq_true rfl) dL_law_527 rfl (fun zx hzx => ?_)
          refine lv_aload_n hx hb dL_law_530 rfl (lv_at hl 2 rfl) ?_
          refine lv_aload_n hx hb dL_law_531 rfl (lv_at hl 0 rfl) ?_
          refine lv_iload_n hx hb dL_law_532 rfl (lv_at hl 3 rfl) ?_
          refine ts_iconst (n := 1) hx hb dL_law_533 ?_
          refine ts_iadd hx hb dL_law_534 (fun a531 ha531 => ?_)
          refine ls_ld hx hb hL hX hbl hw.2.2 (4 * k + 1) (by omega) dL_law_535 (fun m1 hm1 bm1 => ?_)
          refine mm_callr (rest := [.int (iN zx)]) cx (xm_K0 hK) hA (ml_B hw) hl (c_X2_wealth l m1 gm T.1 hfm.1 hv.1 bm1) tg_RL_80 ⟨rfl, rfl⟩ 1 rfl (by decide +kernel) ⟨Nat.le_of_ble_eq_true rfl, Nat.le_of_ble_eq_true rfl⟩ ⟨Nat.le_of_ble_eq_true rfl, Nat.le_of_ble_eq_true rfl⟩ (Nat.le_of_ble_eq_true rfl) dL_law_536 rfl (fun zm hzm => ?_)
          have he : zx = zm := by rw [hzx, hzm, show m1 = x1 from hm1.trans hx1.symm]
          refine lv_icmp_eq (tgt := 652) hx hb dL_law_539 (by decide) (fun _ => ?_) (fun q => absurd (by rw [he]) q)
          exact cut652 T ga gx gm hv hfx hfm _ _ hw _ hl
        · refine lv_tableIn (off := 512) (tgt := 544) hx hb dL_law_32 (by rw [toInt_iN (by omega)]; omega) (by rw [toInt_iN (by omega)]; omega) (by rw [toInt_iN (by omega), c32]; rfl) (by decide) ?_
          refine lv_aload_n hx hb dL_law_544 rfl (lv_at hl 1 rfl) ?_
          refine lv_aload_n hx hb dL_law_545 rfl (lv_at hl 0 rfl) ?_
          refine lv_iload_n hx hb dL_law_546 rfl (lv_at hl 3 rfl) ?_
          refine ts_iconst (n := 1) hx hb dL_law_547 ?_
          refine ts_iadd hx hb dL_law_548 (fun a545 ha545 => ?_)
          refine ls_ld hx hb hL hX hbl hw.2.2 (4 * k + 1) (by omega) dL_law_549 (fun x1 hx1 bx1 => ?_)
          refine xm_callr (rest := []) cx hK hT hA (xl_B hw) hl (c_X1_count l x1 gx T hfx hv bx1) tg_RL_81 ⟨rfl, rfl⟩ 1 rfl (by decide +kernel) ⟨Nat.le_of_ble_eq_true rfl, Nat.le_of_ble_eq_true rfl⟩ ⟨Nat.le_of_ble_eq_true rfl, Nat.le_of_ble_eq_true rfl⟩ (Nat.le_of_ble_eq_true rfl) dL_law_550 rfl (fun zx hzx => ?_)
          refine lv_aload_n hx hb dL_law_553 rfl (lv_at hl 2 rfl) ?_
          refine lv_aload_n hx hb dL_law_554 rfl (lv_at hl 0 rfl) ?_
          refine lv_iload_n hx hb dL_law_555 rfl (lv_at hl 3 rfl) ?_
          refine ts_iconst (n := 1) hx hb dL_law_556 ?_
          refine ts_iadd hx hb dL_law_557 (fun a554 ha554 => ?_)
          refine ls_ld hx hb hL hX hbl hw.2.2 (4 * k + 1) (by omega) dL_law_558 (fun m1 hm1 bm1 => ?_)
          refine mm_callr (rest := [.int (iN zx)]) cx (xm_K0 hK) hA (ml_B hw) hl (c_X2_count l m1 gm T hfm hv bm1) tg_RL_84 ⟨rfl, rfl⟩ 1 rfl (by decide +kernel) ⟨Nat.le_of_ble_eq_true rfl, Nat.le_of_ble_eq_true rfl⟩ ⟨Nat.le_of_ble_eq_true rfl, Nat.le_of_ble_eq_true rfl⟩ (Nat.le_of_ble_eq_true rfl) dL_law_559 rfl (fun zm hzm => ?_)
          have he : zx = zm := by rw [hzx, hzm, show m1 = x1 from hm1.trans hx1.symm]
          refine lv_icmp_eq (tgt := 652) hx hb dL_law_562 (by decide) (fun _ => ?_) (fun q => absurd (by rw [he]) q)
          exact cut652 T ga gx gm hv hfx hfm _ _ hw _ hl
        · refine lv_tableIn (off := 535) (tgt := 567) hx hb dL_law_32 (by rw [toInt_iN (by omega)]; omega) (by rw [toInt_iN (by omega)]; omega) (by rw [toInt_iN (by omega), c32]; rfl) (by decide) ?_
          refine lv_aload_n hx hb dL_law_567 rfl (lv_at hl 1 rfl) ?_
          refine lx_calli (rest := []) cx hK hT hw hl (c_X1_undo l gx T hfx hv) tg_RL_85 ⟨rfl, rfl⟩ 0 rfl (by decide +kernel) ⟨Nat.le_of_ble_eq_true rfl, Nat.le_of_ble_eq_true rfl⟩ ⟨Nat.le_of_ble_eq_true rfl, Nat.le_of_ble_eq_true rfl⟩ (Nat.le_of_ble_eq_true rfl) dL_law_568 rfl (fun zx ga2 gx2 H locs hqx hw => ?_)
          refine lv_aload_n hx hb dL_law_571 rfl (lv_at hl 2 rfl) ?_
          refine lm_calli (rest := [.int (iN zx)]) cx hK hw hl (c_X2_undo l gm T hfm hv) tg_RL_88 ⟨rfl, rfl⟩ 0 rfl (by decide +kernel) ⟨Nat.le_of_ble_eq_true rfl, Nat.le_of_ble_eq_true rfl⟩ ⟨Nat.le_of_ble_eq_true rfl, Nat.le_of_ble_eq_true rfl⟩ (Nat.le_of_ble_eq_true rfl) dL_law_572 rfl (fun zm gm2 H locs hqm hw => ?_)
          have he : zx = zm := hqx.1.trans hqm.1.symm
          refine lv_icmp_eq (tgt := 652) hx hb dL_law_575 (by decide) (fun _ => ?_) (fun q => absurd (by rw [he]) q)
          exact cut652 ((undoT T).2) ga2 gx2 gm2 (VT_undo hv) hqx.2 hqm.2 _ _ hw _ hl
        · refine lv_tableIn (off := 548) (tgt := 580) hx hb dL_law_32 (by rw [toInt_iN (by omega)]; omega) (by rw [toInt_iN (by omega)]; omega) (by rw [toInt_iN (by omega), c32]; rfl) (by decide) ?_
          refine lv_aload_n hx hb dL_law_580 rfl (lv_at hl 1 rfl) ?_
          refine lv_aload_n hx hb dL_law_581 rfl (lv_at hl 0 rfl) ?_
          refine lv_iload_n hx hb dL_law_582 rfl (lv_at hl 3 rfl) ?_
          refine ts_iconst (n := 1) hx hb dL_law_583 ?_
          refine ts_iadd hx hb dL_law_584 (fun a581 ha581 => ?_)
          refine ls_ld hx hb hL hX hbl hw.2.2 (4 * k + 1) (by omega) dL_law_585 (fun x1 hx1 bx1 => ?_)
          refine lx_calli (rest := []) cx hK hT hw hl (c_X1_type l x1 gx T hfx hv bx1) tg_RL_89 ⟨rfl, rfl⟩ 1 rfl (by decide +kernel) ⟨Nat.le_of_ble_eq_true rfl, Nat.le_of_ble_eq_true rfl⟩ ⟨Nat.le_of_ble_eq_true rfl, Nat.le_of_ble_eq_true rfl⟩ (Nat.le_of_ble_eq_true rfl) dL_law_586 rfl (fun zx ga2 gx2 H locs hqx hw => ?_)
          refine lv_aload_n hx hb dL_law_589 rfl (lv_at hl 2 rfl) ?_
          refine lv_aload_n hx hb dL_law_590 rfl (lv_at hl 0 rfl) ?_
          refine lv_iload_n hx hb dL_law_591 rfl (lv_at hl 3 rfl) ?_
          refine ts_iconst (n := 1) hx hb dL_law_592 ?_
          refine ts_iadd hx hb dL_law_593 (fun a590 ha590 => ?_)
          refine ls_ld hx hb hL hX hbl hw.2.2 (4 * k + 1) (by omega) dL_law_594 (fun m1 hm1 bm1 => ?_)
          refine lm_calli (rest := [.int (iN zx)]) cx hK hw hl (c_X2_type l m1 gm T hfm hv bm1) tg_RL_92 ⟨rfl, rfl⟩ 1 rfl (by decide +kernel) ⟨Nat.le_of_ble_eq_true rfl, Nat.le_of_ble_eq_true rfl⟩ ⟨Nat.le_of_ble_eq_true rfl, Nat.le_of_ble_eq_true rfl⟩ (Nat.le_of_ble_eq_true rfl) dL_law_595 rfl (fun zm gm2 H locs hqm hw => ?_)
          rw [show m1 = x1 from hm1.trans hx1.symm] at hqm
          have he : zx = zm := hqx.1.trans hqm.1.symm
          refine lv_icmp_eq (tgt := 652) hx hb dL_law_598 (by decide) (fun _ => ?_) (fun q => absurd (by rw [he]) q)
          exact cut652 ((typeT T x1).2) ga2 gx2 gm2 (VT_type hv x1) hqx.2 hqm.2 _ _ hw _ hl
        · refine lv_tableIn (off := 571) (tgt := 603) hx hb dL_law_32 (by rw [toInt_iN (by omega)]; omega) (by rw [toInt_iN (by omega)]; omega) (by rw [toInt_iN (by omega), c32]; rfl) (by decide) ?_
          refine lv_aload_n hx hb dL_law_603 rfl (lv_at hl 1 rfl) ?_
          refine lx_calli (rest := []) cx hK hT hw hl (c_X1_clearText l gx T hfx hv) tg_RL_93 ⟨rfl, rfl⟩ 0 rfl (by decide +kernel) ⟨Nat.le_of_ble_eq_true rfl, Nat.le_of_ble_eq_true rfl⟩ ⟨Nat.le_of_ble_eq_true rfl, Nat.le_of_ble_eq_true rfl⟩ (Nat.le_of_ble_eq_true rfl) dL_law_604 rfl (fun zx ga2 gx2 H locs hqx hw => ?_)
          refine lv_aload_n hx hb dL_law_607 rfl (lv_at hl 2 rfl) ?_
          refine lm_calli (rest := [.int (iN zx)]) cx hK hw hl (c_X2_clearText l gm T hfm hv) tg_RL_96 ⟨rfl, rfl⟩ 0 rfl (by decide +kernel) ⟨Nat.le_of_ble_eq_true rfl, Nat.le_of_ble_eq_true rfl⟩ ⟨Nat.le_of_ble_eq_true rfl, Nat.le_of_ble_eq_true rfl⟩ (Nat.le_of_ble_eq_true rfl) dL_law_608 rfl (fun zm gm2 H locs hqm hw => ?_)
          have he : zx = zm := hqx.1.trans hqm.1.symm
          refine lv_icmp_eq (tgt := 652) hx hb dL_law_611 (by decide) (fun _ => ?_) (fun q => absurd (by rw [he]) q)
          exact cut652 ((clearT T).2) ga2 gx2 gm2 (VT_clear hv) hqx.2 hqm.2 _ _ hw _ hl
        · refine lv_tableIn (off := 584) (tgt := 616) hx hb dL_law_32 (by rw [toInt_iN (by omega)]; omega) (by rw [toInt_iN (by omega)]; omega) (by rw [toInt_iN (by omega), c32]; rfl) (by decide) ?_
          refine lv_aload_n hx hb dL_law_616 rfl (lv_at hl 1 rfl) ?_
          refine lv_aload_n hx hb dL_law_617 rfl (lv_at hl 0 rfl) ?_
          refine lv_iload_n hx hb dL_law_618 rfl (lv_at hl 3 rfl) ?_
          refine ts_iconst (n := 1) hx hb dL_law_619 ?_
          refine ts_iadd hx hb dL_law_620 (fun a617 ha617 => ?_)
          refine ls_ld hx hb hL hX hbl hw.2.2 (4 * k + 1) (by omega) dL_law_621 (fun x1 hx1 bx1 => ?_)
          refine lx_calli (rest := []) cx hK hT hw hl (c_X1_fault l x1 gx T hfx hv bx1) tg_RL_97 ⟨rfl, rfl⟩ 1 rfl (by decide +kernel) ⟨Nat.le_of_ble_eq_true rfl, Nat.le_of_ble_eq_true rfl⟩ ⟨Nat.le_of_ble_eq_true rfl, Nat.le_of_ble_eq_true rfl⟩ (Nat.le_of_ble_eq_true rfl) dL_law_622 rfl (fun zx ga2 gx2 H locs hqx hw => ?_)
          refine lv_aload_n hx hb dL_law_625 rfl (lv_at hl 2 rfl) ?_
          refine lv_aload_n hx hb dL_law_626 rfl (lv_at hl 0 rfl) ?_
          refine lv_iload_n hx hb dL_law_627 rfl (lv_at hl 3 rfl) ?_
          refine ts_iconst (n := 1) hx hb dL_law_628 ?_
          refine ts_iadd hx hb dL_law_629 (fun a626 ha626 => ?_)
          refine ls_ld hx hb hL hX hbl hw.2.2 (4 * k + 1) (by omega) dL_law_630 (fun m1 hm1 bm1 => ?_)
          refine lm_calli (rest := [.int (iN zx)]) cx hK hw hl (c_X2_fault l m1 gm T hfm hv bm1) tg_RL_100 ⟨rfl, rfl⟩ 1 rfl (by decide +kernel) ⟨Nat.le_of_ble_eq_true rfl, Nat.le_of_ble_eq_true rfl⟩ ⟨Nat.le_of_ble_eq_true rfl, Nat.le_of_ble_eq_true rfl⟩ (Nat.le_of_ble_eq_true rfl) dL_law_631 rfl (fun zm gm2 H locs hqm hw => ?_)
          rw [show m1 = x1 from hm1.trans hx1.symm] at hqm
          have he : zx = zm := hqx.1.trans hqm.1.symm
          refine lv_icmp_eq (tgt := 652) hx hb dL_law_634 (by decide) (fun _ => ?_) (fun q => absurd (by rw [he]) q)
          exact cut652 T ga2 gx2 gm2 hv hqx.2 hqm.2 _ _ hw _ hl
        · refine lv_tableIn (off := 607) (tgt := 639) hx hb dL_law_32 (by rw [toInt_iN (by omega)]; omega) (by rw [toInt_iN (by omega)]; omega) (by rw [toInt_iN (by omega), c32]; rfl) (by decide) ?_
          refine lv_aload_n hx hb dL_law_639 rfl (lv_at hl 1 rfl) ?_
          refine lx_calli (rest := []) cx hK hT hw hl (c_X1_perform l gx T hfx hv) tg_RL_101 ⟨rfl, rfl⟩ 0 rfl (by decide +kernel) ⟨Nat.le_of_ble_eq_true rfl, Nat.le_of_ble_eq_true rfl⟩ ⟨Nat.le_of_ble_eq_true rfl, Nat.le_of_ble_eq_true rfl⟩ (Nat.le_of_ble_eq_true rfl) dL_law_640 rfl (fun zx ga2 gx2 H locs hqx hw => ?_)
          refine lv_aload_n hx hb dL_law_643 rfl (lv_at hl 2 rfl) ?_
          refine lm_calli (rest := [.int (iN zx)]) cx hK hw hl (c_X2_perform l gm T hfm hv) tg_RL_104 ⟨rfl, rfl⟩ 0 rfl (by decide +kernel) ⟨Nat.le_of_ble_eq_true rfl, Nat.le_of_ble_eq_true rfl⟩ ⟨Nat.le_of_ble_eq_true rfl, Nat.le_of_ble_eq_true rfl⟩ (Nat.le_of_ble_eq_true rfl) dL_law_644 rfl (fun zm gm2 H locs hqm hw => ?_)
          have he : zx = zm := hqx.1.trans hqm.1.symm
          refine lv_icmp_eq (tgt := 652) hx hb dL_law_647 (by decide) (fun _ => ?_) (fun q => absurd (by rw [he]) q)
          exact cut652 (stepT T (perfO T)) ga2 gx2 gm2 (VT_perf hv) hqx.2 hqm.2 _ _ hw _ hl
