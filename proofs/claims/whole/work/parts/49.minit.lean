/-! the constructors of the model and of Game -/
def ad5 (a b c d e : Nat) : Nat → Nat
  | 0 => a
  | 1 => b
  | 2 => c
  | 3 => d
  | _ => e
theorem K_one {D : va_G} {cl : List vw_C} {tys : List (ClassId × FieldType)} {U : State} (h : va_K D cl tys U) {i j : Nat} {a b : ClassId} (hi : tys[i]? = some (a, .int)) (hj : tys[j]? = some (b, .int)) : b = a := by
  have h1 : U.vm.findClass ("[" ++ FieldType.int.toString) = some a := (h.2 i _ hi).2
  have h2 : U.vm.findClass ("[" ++ FieldType.int.toString) = some b := (h.2 j _ hj).2
  rw [h1] at h2
  exact (Option.some.inj h2).symm
theorem K_onec {D : va_G} {cl : List vw_C} {tys : List (ClassId × FieldType)} {U : State} (h : va_K D cl tys U) {i j : Nat} {a b : ClassId} (hi : tys[i]? = some (a, .char)) (hj : tys[j]? = some (b, .char)) : b = a := by
  have h1 : U.vm.findClass ("[" ++ FieldType.char.toString) = some a := (h.2 i _ hi).2
  have h2 : U.vm.findClass ("[" ++ FieldType.char.toString) = some b := (h.2 j _ hj).2
  rw [h1] at h2
  exact (Option.some.inj h2).symm
theorem K_oneq {D : va_G} {cl : List vw_C} {tys : List (ClassId × FieldType)} {U : State} (h : va_K D cl tys U) {i j : Nat} {a b : ClassId} {C : String} (hi : tys[i]? = some (a, .object C)) (hj : tys[j]? = some (b, .object C)) : b = a := by
  obtain ⟨_, _, _, _, _, h1⟩ := (h.2 i _ hi).2
  obtain ⟨_, _, _, _, _, h2⟩ := (h.2 j _ hj).2
  rw [h1] at h2
  exact (Option.some.inj h2).symm
def zGS : GS := fun _ _ => 0

/-- a state that is begun anew, whatever was before -/
theorem VS_beg0 {S : StT} (v9 : 0 ≤ S.1 9 ∧ S.1 9 ≤ 9) {np : Int} (hnp : 2 ≤ np ∧ np ≤ 4) : VS (begA S np) := by
  have hk : allK (beL np) := by
    intro p w y hy
    unfold beL at hy
    split at hy
    · split at hy
      · simp only [List.mem_cons, List.not_mem_nil, or_false] at hy; omega
      · split at hy
        · simp only [List.mem_cons, List.not_mem_nil, or_false] at hy; omega
        · cases hy
    · cases hy
  have ho : outE np (beL np) := by
    intro p w hn
    unfold beL
    by_cases h1 : (p : Int) < np
    · rw [if_pos h1, if_neg (by omega), if_neg (by omega)]
    · rw [if_neg h1]
  have hc : np = 2 ∨ np = 3 ∨ np = 4 := by omega
  have hp : ∀ j : Nat, j < 20 → 0 ≤ (begA S np).1 (10 + j) := by
    intro j hj
    show 0 ≤ beS S.1 np (10 + j)
    unfold beS
    rw [if_neg (by omega), if_neg (by omega), if_neg (by omega), if_neg (by omega)]
    split
    · omega
    · split
      · omega
      · split
        · rename_i h3 h4 h5
          have : ∀ k : Fin 10, 0 ≤ tv 8 k.1 := by decide +kernel
          have := this ⟨10 + j - 10, by omega⟩
          exact this
        · omega
  refine ⟨hnp, ⟨Int.le_refl _, by show (0 : Int) < np; omega⟩, ⟨Int.le_refl _, by show (0 : Int) ≤ 9; omega⟩, v9, Or.inl rfl, hp, ⟨Int.le_refl _, by show (0 : Int) ≤ _; omega⟩, ⟨by show (0 : Int) ≤ 1; omega, by show (1 : Int) ≤ _; omega⟩, ⟨by show (0 : Int) ≤ 1; omega, by show (1 : Int) ≤ _; omega⟩, ⟨Int.le_refl _, by show (0 : Int) ≤ _; omega⟩, hk, ho, ?_⟩
  rcases hc with rfl | rfl | rfl <;> rfl
def scI : SCT := fun j => if j = 9 then 1 else 0
def S00 : StT := begA (scI, fun _ _ => []) 2
/-- the state of a new object -/
def T00 : TT := (S00, (0, fun _ => S00), (0, fun _ => 0))
theorem VT_00 : VT T00 := ⟨VS_beg0 (S := (scI, fun _ _ => [])) (show (0 : Int) ≤ 1 ∧ (1 : Int) ≤ 9 by decide) (by decide), by show 0 ≤ 4; decide, fun b hb => absurd hb (Nat.not_lt_zero b), by show 0 ≤ 60; decide, fun j hj => absurd hj (Nat.not_lt_zero j)⟩

def x0Z : List Value := [.null, .null, .null, .null, .int (iN 0), .int (iN 0), .int (iN 0), .int (iN 0), .int (iN 0), .int (iN 0), .int (iN 0), .int (iN 0), .int (iN 0), .int (iN 0)]
set_option maxHeartbeats 4000000 in
set_option maxRecDepth 100000 in
/-- Game(): four rows of zeros -/
theorem c_X0_init (l : Launch) (D : va_G) (cI : ClassId) (h0 sz : Nat) : Met l yX0_init (wU yX0_init cX0_init 1 none) ({ frames := 1, cells := 4, slots := 201, locals := 12 } : Room) (va_Pc [.ref h0] (fun U => U.heap.size = sz ∧ va_P D vwCl [(h0, .inr (0, x0Z))] U.heap ∧ va_K D vwCl [(cI, .int)] U ∧ va_D (fun _ => True) [(h0, .inr (0, x0Z))])) (va_Qv (fun u : Nat → Nat => u 0 = h0) (fun u t => va_P D vwCl (gmW cI u zGS) t.heap ∧ va_D (va_A [(h0, .inr (0, x0Z))] sz) (gmW cI u zGS)) (va_A [(h0, .inr (0, x0Z))] sz)) 4 201 (va_A [(h0, .inr (0, x0Z))] sz) := by
  refine Met.ofW (cc := cX0_init) (maxL := 1) (ret := none) (by decide) rfl ?_
  intro p e s m args below meth c s₁ B hml hv
  obtain ⟨rfl, hsz, hP, hK, hD0⟩ := hv
  have hts0 := atoms_spec (ws := wU yX0_init cX0_init 1 none) B.pre
  have hts : ∀ w ∈ wsL_law, w.before _ s = true := fun w hw => hts0 w (List.mem_cons_of_mem _ hw)
  have hx := B.exec
  have hb := B.bytes
  have hr := B.returns
  have hown : s.vm.findClass RX0 = some m.cls := findClass_of_methodNamed B.named
  have hlocks := B.notSynchronized
  have hin : meth.name = "<init>" := (name_of_methodNamed B.named B.method).1
  subst hsz
  have hD := hD0.self (sz := s.heap.size)
  generalize hAe : va_A [(h0, .inr (0, x0Z))] s.heap.size = A at hD ⊢
  have hA : ∀ q : Nat, s.heap.size ≤ q → A q := fun q h => by rw [← hAe]; exact Or.inr h
  have hS : va_S A s.heap s.heap [] := va_S.rf
  have hP : va_P D vwCl [(h0, .inr (0, [.null, .null, .null, .null, .int (iN 0), .int (iN 0), .int (iN 0), .int (iN 0), .int (iN 0), .int (iN 0), .int (iN 0), .int (iN 0), .int (iN 0), .int (iN 0)]))] s.heap := hP
  have hD : va_D A [(h0, .inr (0, [.null, .null, .null, .null, .int (iN 0), .int (iN 0), .int (iN 0), .int (iN 0), .int (iN 0), .int (iN 0), .int (iN 0), .int (iN 0), .int (iN 0), .int (iN 0)]))] := hD
  have hl := lv_entry ([.ref h0]) (n := 1) (Nat.le_of_ble_eq_true rfl)
  rw [lg_entry_eq]
  generalize (lg_sl ([.ref h0]) ++ List.replicate (1 - (lg_sl ([.ref h0])).length) Slot.unset).toArray = ls at hl ⊢
  have hl : lv_has ls 1 [(0, .ref h0)] := hl
  refine lv_aload_n hx hb dX0_init_0 rfl (lv_at hl 0 rfl) ?_
  refine W.objInit hx hb hown (hts _ (tw_in2 _ (List.mem_of_getElem? (i := 0) rfl))) (hts _ (tw_in1 _ (List.mem_of_getElem? (i := 10) rfl))) (hts _ (tw_in1 _ (List.mem_of_getElem? (i := 11) rfl))) rfl (by rw [hml]; exact hl.1) rfl dX0_init_1 (Nat.le_of_ble_eq_true rfl) (Nat.le_of_ble_eq_true rfl) ?_
  refine W.eq (g2 := F0 m 4 ls []) rfl ?_
  refine lv_aload_n hx hb dX0_init_4 rfl (lv_at hl 0 rfl) ?_
  refine ts_sipush (n := 164) hx hb dX0_init_5 (by decide) ?_
  refine va_newa (atype := .int) (ty := .int) (a0 := (164, .inl (fun _ => iN 0))) (N' := 164) hx hb (hts _ (tw_in2 _ (List.mem_of_getElem? (i := 1) rfl))) rfl hK hP hD hS hA (fun _ => rfl) (by rw [← iN_z, iN_lt (by omega) (by omega)]; omega) (iN_k (k := 164) (n := 165) rfl (by omega) (by omega)) (Nat.le_of_ble_eq_true rfl) (Nat.le_of_ble_eq_true rfl) (Nat.le_of_ble_eq_true rfl) dX0_init_8 (fun q1 c1 H hK1 hP hD hS => ?_)
  have hc1 : c1 = cI := K_one (i := 0) (j := 1) hK1 rfl rfl
  rw [hc1] at hP hD
  have hP : va_P D vwCl [(h0, .inr (0, [.null, .null, .null, .null, .int (iN 0), .int (iN 0), .int (iN 0), .int (iN 0), .int (iN 0), .int (iN 0), .int (iN 0), .int (iN 0), .int (iN 0), .int (iN 0)])), (q1, .inl (cI, 164, .inl (fun _ => iN 0)))] H := hP
  have hD : va_D A [(h0, .inr (0, [.null, .null, .null, .null, .int (iN 0), .int (iN 0), .int (iN 0), .int (iN 0), .int (iN 0), .int (iN 0), .int (iN 0), .int (iN 0), .int (iN 0), .int (iN 0)])), (q1, .inl (cI, 164, .inl (fun _ => iN 0)))] := hD
  refine W.widen (k := 1) (n := 164) (by omega) (by omega) ?_
  refine va_putF (D := D) (ci := 0) (v := .ref q1) (ty := .array .int) (C := RX0) (T := TX0) (N := 14) hx hb hts inlX0 tyX0 tyX0_ok nmX0 hown hK hP hD hS 0 rfl rfl 0 (by decide) (hts _ tl_RX0_9) (fun _ h9 => h9) rfl hin rfl (by decide +kernel) rfl rfl (Nat.le_of_ble_eq_true rfl) dX0_init_10 (fun H locs hP hD hS => ?_)
  have hP : va_P D vwCl [(h0, .inr (0, [.ref q1, .null, .null, .null, .int (iN 0), .int (iN 0), .int (iN 0), .int (iN 0), .int (iN 0), .int (iN 0), .int (iN 0), .int (iN 0), .int (iN 0), .int (iN 0)])), (q1, .inl (cI, 164, .inl (fun _ => iN 0)))] H := hP
  have hD : va_D A [(h0, .inr (0, [.ref q1, .null, .null, .null, .int (iN 0), .int (iN 0), .int (iN 0), .int (iN 0), .int (iN 0), .int (iN 0), .int (iN 0), .int (iN 0), .int (iN 0), .int (iN 0)])), (q1, .inl (cI, 164, .inl (fun _ => iN 0)))] := hD
  refine lv_aload_n hx hb dX0_init_13 rfl (lv_at hl 0 rfl) ?_
  refine ts_bipush (n := 17) hx hb dX0_init_14 (by decide) ?_
  refine va_newa (atype := .int) (ty := .int) (a0 := (17, .inl (fun _ => iN 0))) (N' := 17) hx hb (hts _ (tw_in2 _ (List.mem_of_getElem? (i := 1) rfl))) rfl hK hP hD hS hA (fun _ => rfl) (by rw [← iN_z, iN_lt (by omega) (by omega)]; omega) (iN_k (k := 17) (n := 18) rfl (by omega) (by omega)) (Nat.le_of_ble_eq_true rfl) (Nat.le_of_ble_eq_true rfl) (Nat.le_of_ble_eq_true rfl) dX0_init_16 (fun q2 c2 H hK2 hP hD hS => ?_)
  have hc2 : c2 = cI := K_one (i := 0) (j := 1) hK2 rfl rfl
  rw [hc2] at hP hD
  have hP : va_P D vwCl [(h0, .inr (0, [.ref q1, .null, .null, .null, .int (iN 0), .int (iN 0), .int (iN 0), .int (iN 0), .int (iN 0), .int (iN 0), .int (iN 0), .int (iN 0), .int (iN 0), .int (iN 0)])), (q1, .inl (cI, 164, .inl (fun _ => iN 0))), (q2, .inl (cI, 17, .inl (fun _ => iN 0)))] H := hP
  have hD : va_D A [(h0, .inr (0, [.ref q1, .null, .null, .null, .int (iN 0), .int (iN 0), .int (iN 0), .int (iN 0), .int (iN 0), .int (iN 0), .int (iN 0), .int (iN 0), .int (iN 0), .int (iN 0)])), (q1, .inl (cI, 164, .inl (fun _ => iN 0))), (q2, .inl (cI, 17, .inl (fun _ => iN 0)))] := hD
  refine W.widen (k := 2) (n := 181) (by omega) (by omega) ?_
  refine va_putF (D := D) (ci := 0) (v := .ref q2) (ty := .array .int) (C := RX0) (T := TX0) (N := 14) hx hb hts inlX0 tyX0 tyX0_ok nmX0 hown hK hP hD hS 0 rfl rfl 1 (by decide) (hts _ tl_RX0_15) (fun _ h9 => h9) rfl hin rfl (by decide +kernel) rfl rfl (Nat.le_of_ble_eq_true rfl) dX0_init_18 (fun H locs hP hD hS => ?_)
  have hP : va_P D vwCl [(h0, .inr (0, [.ref q1, .ref q2, .null, .null, .int (iN 0), .int (iN 0), .int (iN 0), .int (iN 0), .int (iN 0), .int (iN 0), .int (iN 0), .int (iN 0), .int (iN 0), .int (iN 0)])), (q1, .inl (cI, 164, .inl (fun _ => iN 0))), (q2, .inl (cI, 17, .inl (fun _ => iN 0)))] H := hP
  have hD : va_D A [(h0, .inr (0, [.ref q1, .ref q2, .null, .null, .int (iN 0), .int (iN 0), .int (iN 0), .int (iN 0), .int (iN 0), .int (iN 0), .int (iN 0), .int (iN 0), .int (iN 0), .int (iN 0)])), (q1, .inl (cI, 164, .inl (fun _ => iN 0))), (q2, .inl (cI, 17, .inl (fun _ => iN 0)))] := hD
  refine lv_aload_n hx hb dX0_init_21 rfl (lv_at hl 0 rfl) ?_
  refine ts_bipush (n := 10) hx hb dX0_init_22 (by decide) ?_
  refine va_newa (atype := .int) (ty := .int) (a0 := (10, .inl (fun _ => iN 0))) (N' := 10) hx hb (hts _ (tw_in2 _ (List.mem_of_getElem? (i := 1) rfl))) rfl hK hP hD hS hA (fun _ => rfl) (by rw [← iN_z, iN_lt (by omega) (by omega)]; omega) (iN_k (k := 10) (n := 11) rfl (by omega) (by omega)) (Nat.le_of_ble_eq_true rfl) (Nat.le_of_ble_eq_true rfl) (Nat.le_of_ble_eq_true rfl) dX0_init_24 (fun q3 c3 H hK3 hP hD hS => ?_)
  have hc3 : c3 = cI := K_one (i := 0) (j := 1) hK3 rfl rfl
  rw [hc3] at hP hD
  have hP : va_P D vwCl [(h0, .inr (0, [.ref q1, .ref q2, .null, .null, .int (iN 0), .int (iN 0), .int (iN 0), .int (iN 0), .int (iN 0), .int (iN 0), .int (iN 0), .int (iN 0), .int (iN 0), .int (iN 0)])), (q1, .inl (cI, 164, .inl (fun _ => iN 0))), (q2, .inl (cI, 17, .inl (fun _ => iN 0))), (q3, .inl (cI, 10, .inl (fun _ => iN 0)))] H := hP
  have hD : va_D A [(h0, .inr (0, [.ref q1, .ref q2, .null, .null, .int (iN 0), .int (iN 0), .int (iN 0), .int (iN 0), .int (iN 0), .int (iN 0), .int (iN 0), .int (iN 0), .int (iN 0), .int (iN 0)])), (q1, .inl (cI, 164, .inl (fun _ => iN 0))), (q2, .inl (cI, 17, .inl (fun _ => iN 0))), (q3, .inl (cI, 10, .inl (fun _ => iN 0)))] := hD
  refine W.widen (k := 3) (n := 191) (by omega) (by omega) ?_
  refine va_putF (D := D) (ci := 0) (v := .ref q3) (ty := .array .int) (C := RX0) (T := TX0) (N := 14) hx hb hts inlX0 tyX0 tyX0_ok nmX0 hown hK hP hD hS 0 rfl rfl 2 (by decide) (hts _ tl_RX0_18) (fun _ h9 => h9) rfl hin rfl (by decide +kernel) rfl rfl (Nat.le_of_ble_eq_true rfl) dX0_init_26 (fun H locs hP hD hS => ?_)
  have hP : va_P D vwCl [(h0, .inr (0, [.ref q1, .ref q2, .ref q3, .null, .int (iN 0), .int (iN 0), .int (iN 0), .int (iN 0), .int (iN 0), .int (iN 0), .int (iN 0), .int (iN 0), .int (iN 0), .int (iN 0)])), (q1, .inl (cI, 164, .inl (fun _ => iN 0))), (q2, .inl (cI, 17, .inl (fun _ => iN 0))), (q3, .inl (cI, 10, .inl (fun _ => iN 0)))] H := hP
  have hD : va_D A [(h0, .inr (0, [.ref q1, .ref q2, .ref q3, .null, .int (iN 0), .int (iN 0), .int (iN 0), .int (iN 0), .int (iN 0), .int (iN 0), .int (iN 0), .int (iN 0), .int (iN 0), .int (iN 0)])), (q1, .inl (cI, 164, .inl (fun _ => iN 0))), (q2, .inl (cI, 17, .inl (fun _ => iN 0))), (q3, .inl (cI, 10, .inl (fun _ => iN 0)))] := hD
  refine lv_aload_n hx hb dX0_init_29 rfl (lv_at hl 0 rfl) ?_
  refine ts_bipush (n := 10) hx hb dX0_init_30 (by decide) ?_
  refine va_newa (atype := .int) (ty := .int) (a0 := (10, .inl (fun _ => iN 0))) (N' := 10) hx hb (hts _ (tw_in2 _ (List.mem_of_getElem? (i := 1) rfl))) rfl hK hP hD hS hA (fun _ => rfl) (by rw [← iN_z, iN_lt (by omega) (by omega)]; omega) (iN_k (k := 10) (n := 11) rfl (by omega) (by omega)) (Nat.le_of_ble_eq_true rfl) (Nat.le_of_ble_eq_true rfl) (Nat.le_of_ble_eq_true rfl) dX0_init_32 (fun q4 c4 H hK4 hP hD hS => ?_)
  have hc4 : c4 = cI := K_one (i := 0) (j := 1) hK4 rfl rfl
  rw [hc4] at hP hD
  have hP : va_P D vwCl [(h0, .inr (0, [.ref q1, .ref q2, .ref q3, .null, .int (iN 0), .int (iN 0), .int (iN 0), .int (iN 0), .int (iN 0), .int (iN 0), .int (iN 0), .int (iN 0), .int (iN 0), .int (iN 0)])), (q1, .inl (cI, 164, .inl (fun _ => iN 0))), (q2, .inl (cI, 17, .inl (fun _ => iN 0))), (q3, .inl (cI, 10, .inl (fun _ => iN 0))), (q4, .inl (cI, 10, .inl (fun _ => iN 0)))] H := hP
  have hD : va_D A [(h0, .inr (0, [.ref q1, .ref q2, .ref q3, .null, .int (iN 0), .int (iN 0), .int (iN 0), .int (iN 0), .int (iN 0), .int (iN 0), .int (iN 0), .int (iN 0), .int (iN 0), .int (iN 0)])), (q1, .inl (cI, 164, .inl (fun _ => iN 0))), (q2, .inl (cI, 17, .inl (fun _ => iN 0))), (q3, .inl (cI, 10, .inl (fun _ => iN 0))), (q4, .inl (cI, 10, .inl (fun _ => iN 0)))] := hD
  refine W.widen (k := 4) (n := 201) (by omega) (by omega) ?_
  refine va_putF (D := D) (ci := 0) (v := .ref q4) (ty := .array .int) (C := RX0) (T := TX0) (N := 14) hx hb hts inlX0 tyX0 tyX0_ok nmX0 hown hK hP hD hS 0 rfl rfl 3 (by decide) (hts _ tl_RX0_21) (fun _ h9 => h9) rfl hin rfl (by decide +kernel) rfl rfl (Nat.le_of_ble_eq_true rfl) dX0_init_34 (fun H locs hP hD hS => ?_)
  have hP : va_P D vwCl [(h0, .inr (0, [.ref q1, .ref q2, .ref q3, .ref q4, .int (iN 0), .int (iN 0), .int (iN 0), .int (iN 0), .int (iN 0), .int (iN 0), .int (iN 0), .int (iN 0), .int (iN 0), .int (iN 0)])), (q1, .inl (cI, 164, .inl (fun _ => iN 0))), (q2, .inl (cI, 17, .inl (fun _ => iN 0))), (q3, .inl (cI, 10, .inl (fun _ => iN 0))), (q4, .inl (cI, 10, .inl (fun _ => iN 0)))] H := hP
  have hD : va_D A [(h0, .inr (0, [.ref q1, .ref q2, .ref q3, .ref q4, .int (iN 0), .int (iN 0), .int (iN 0), .int (iN 0), .int (iN 0), .int (iN 0), .int (iN 0), .int (iN 0), .int (iN 0), .int (iN 0)])), (q1, .inl (cI, 164, .inl (fun _ => iN 0))), (q2, .inl (cI, 17, .inl (fun _ => iN 0))), (q3, .inl (cI, 10, .inl (fun _ => iN 0))), (q4, .inl (cI, 10, .inl (fun _ => iN 0)))] := hD
  exact W.vret hx hb hr (fun t ht hW => ⟨⟨ad5 h0 q1 q2 q3 q4, rfl, rfl, by rw [ht]; exact hP, hD⟩, hS.F ht⟩) hS.2.2 dX0_init_37 hlocks

def x2Z : List Value := [.null, .null, .null, .int (iN 0), .null, .int (iN 0), .int (iN 0), .int (iN 0), .int (iN 0), .int (iN 0), .int (iN 0), .int (iN 0), .int (iN 0)]
set_option maxHeartbeats 4000000 in
set_option maxRecDepth 100000 in
/-- the model: a new one -/
theorem c_X2_init (l : Launch) (D : va_G) (cI : ClassId) (h0 sz : Nat) : Met l yX2_init (wU yX2_init cX2_init 1 none) ({ frames := 5, cells := 4, slots := 16080, locals := 118 } : Room) (va_Pc [.ref h0] (fun U => U.heap.size = sz ∧ va_P D vwCl [(h0, .inr (2, x2Z))] U.heap ∧ va_K D vwCl [(cI, .int)] U ∧ va_D (fun _ => True) [(h0, .inr (2, x2Z))])) (va_Qv (fun u : (Nat → Nat) × GS => u.1 0 = h0 ∧ FM u.2 T00) (fun u t => va_P D vwCl (mmW cI u.1 u.2) t.heap ∧ va_D (va_A [(h0, .inr (2, x2Z))] sz) (mmW cI u.1 u.2)) (va_A [(h0, .inr (2, x2Z))] sz)) 4 16080 (va_A [(h0, .inr (2, x2Z))] sz) := by
  refine Met.ofW (cc := cX2_init) (maxL := 1) (ret := none) (by decide) rfl ?_
  intro p e s m args below meth c s₁ B hml hv
  obtain ⟨rfl, hsz, hP, hK, hD0⟩ := hv
  have hts0 := atoms_spec (ws := wU yX2_init cX2_init 1 none) B.pre
  have hts : ∀ w ∈ wsL_law, w.before _ s = true := fun w hw => hts0 w (List.mem_cons_of_mem _ hw)
  have hx := B.exec
  have hb := B.bytes
  have hr := B.returns
  have hown : s.vm.findClass RX2 = some m.cls := findClass_of_methodNamed B.named
  have hlocks := B.notSynchronized
  have hin : meth.name = "<init>" := (name_of_methodNamed B.named B.method).1
  subst hsz
  have hD := hD0.self (sz := s.heap.size)
  generalize hAe : va_A [(h0, .inr (2, x2Z))] s.heap.size = A at hD ⊢
  have hA : ∀ q : Nat, s.heap.size ≤ q → A q := fun q h => by rw [← hAe]; exact Or.inr h
  have hS : va_S A s.heap s.heap [] := va_S.rf
  have hP : va_P D vwCl [(h0, .inr (2, [.null, .null, .null, .int (iN 0), .null, .int (iN 0), .int (iN 0), .int (iN 0), .int (iN 0), .int (iN 0), .int (iN 0), .int (iN 0), .int (iN 0)]))] s.heap := hP
  have hD : va_D A [(h0, .inr (2, [.null, .null, .null, .int (iN 0), .null, .int (iN 0), .int (iN 0), .int (iN 0), .int (iN 0), .int (iN 0), .int (iN 0), .int (iN 0), .int (iN 0)]))] := hD
  have hl := lv_entry ([.ref h0]) (n := 1) (Nat.le_of_ble_eq_true rfl)
  rw [lg_entry_eq]
  generalize (lg_sl ([.ref h0]) ++ List.replicate (1 - (lg_sl ([.ref h0])).length) Slot.unset).toArray = ls at hl ⊢
  have hl : lv_has ls 1 [(0, .ref h0)] := hl
  refine lv_aload_n hx hb dX2_init_0 rfl (lv_at hl 0 rfl) ?_
  refine W.objInit hx hb hown (hts _ (tw_in3 _ (List.mem_of_getElem? (i := 23) rfl))) (hts _ (tw_in1 _ (List.mem_of_getElem? (i := 10) rfl))) (hts _ (tw_in1 _ (List.mem_of_getElem? (i := 11) rfl))) rfl (by rw [hml]; exact hl.1) rfl dX2_init_1 (Nat.le_of_ble_eq_true rfl) (Nat.le_of_ble_eq_true rfl) ?_
  refine W.eq (g2 := F0 m 4 ls []) rfl ?_
  refine lv_aload_n hx hb dX2_init_4 rfl (lv_at hl 0 rfl) ?_
  refine ts_sipush (n := 2670) hx hb dX2_init_5 (by decide) ?_
  refine va_newa (atype := .int) (ty := .int) (a0 := (2670, .inl (fun _ => iN 0))) (N' := 2670) hx hb (hts _ (tw_in2 _ (List.mem_of_getElem? (i := 1) rfl))) rfl hK hP hD hS hA (fun _ => rfl) (by rw [← iN_z, iN_lt (by omega) (by omega)]; omega) (iN_k (k := 2670) (n := 2671) rfl (by omega) (by omega)) (Nat.le_of_ble_eq_true rfl) (Nat.le_of_ble_eq_true rfl) (Nat.le_of_ble_eq_true rfl) dX2_init_8 (fun q1 c1 H hK1 hP hD hS => ?_)
  have hc1 : c1 = cI := K_one (i := 0) (j := 1) hK1 rfl rfl
  rw [hc1] at hP hD
  have hP : va_P D vwCl [(h0, .inr (2, [.null, .null, .null, .int (iN 0), .null, .int (iN 0), .int (iN 0), .int (iN 0), .int (iN 0), .int (iN 0), .int (iN 0), .int (iN 0), .int (iN 0)])), (q1, .inl (cI, 2670, .inl (fun _ => iN 0)))] H := hP
  have hD : va_D A [(h0, .inr (2, [.null, .null, .null, .int (iN 0), .null, .int (iN 0), .int (iN 0), .int (iN 0), .int (iN 0), .int (iN 0), .int (iN 0), .int (iN 0), .int (iN 0)])), (q1, .inl (cI, 2670, .inl (fun _ => iN 0)))] := hD
  refine W.widen (k := 1) (n := 2670) (by omega) (by omega) ?_
  refine va_putF (D := D) (ci := 2) (v := .ref q1) (ty := .array .int) (C := RX2) (T := TX2) (N := 13) hx hb hts inlX2 tyX2 tyX2_ok nmX2 hown hK hP hD hS 0 rfl rfl 0 (by decide) (hts _ tl_RX2_7) (fun _ h9 => h9) rfl hin rfl (by decide +kernel) rfl rfl (Nat.le_of_ble_eq_true rfl) dX2_init_10 (fun H locs hP hD hS => ?_)
  have hP : va_P D vwCl [(h0, .inr (2, [.ref q1, .null, .null, .int (iN 0), .null, .int (iN 0), .int (iN 0), .int (iN 0), .int (iN 0), .int (iN 0), .int (iN 0), .int (iN 0), .int (iN 0)])), (q1, .inl (cI, 2670, .inl (fun _ => iN 0)))] H := hP
  have hD : va_D A [(h0, .inr (2, [.ref q1, .null, .null, .int (iN 0), .null, .int (iN 0), .int (iN 0), .int (iN 0), .int (iN 0), .int (iN 0), .int (iN 0), .int (iN 0), .int (iN 0)])), (q1, .inl (cI, 2670, .inl (fun _ => iN 0)))] := hD
  refine lv_aload_n hx hb dX2_init_13 rfl (lv_at hl 0 rfl) ?_
  refine ts_sipush (n := 2670) hx hb dX2_init_14 (by decide) ?_
  refine va_newa (atype := .int) (ty := .int) (a0 := (2670, .inl (fun _ => iN 0))) (N' := 2670) hx hb (hts _ (tw_in2 _ (List.mem_of_getElem? (i := 1) rfl))) rfl hK hP hD hS hA (fun _ => rfl) (by rw [← iN_z, iN_lt (by omega) (by omega)]; omega) (iN_k (k := 2670) (n := 2671) rfl (by omega) (by omega)) (Nat.le_of_ble_eq_true rfl) (Nat.le_of_ble_eq_true rfl) (Nat.le_of_ble_eq_true rfl) dX2_init_17 (fun q2 c2 H hK2 hP hD hS => ?_)
  have hc2 : c2 = cI := K_one (i := 0) (j := 1) hK2 rfl rfl
  rw [hc2] at hP hD
  have hP : va_P D vwCl [(h0, .inr (2, [.ref q1, .null, .null, .int (iN 0), .null, .int (iN 0), .int (iN 0), .int (iN 0), .int (iN 0), .int (iN 0), .int (iN 0), .int (iN 0), .int (iN 0)])), (q1, .inl (cI, 2670, .inl (fun _ => iN 0))), (q2, .inl (cI, 2670, .inl (fun _ => iN 0)))] H := hP
  have hD : va_D A [(h0, .inr (2, [.ref q1, .null, .null, .int (iN 0), .null, .int (iN 0), .int (iN 0), .int (iN 0), .int (iN 0), .int (iN 0), .int (iN 0), .int (iN 0), .int (iN 0)])), (q1, .inl (cI, 2670, .inl (fun _ => iN 0))), (q2, .inl (cI, 2670, .inl (fun _ => iN 0)))] := hD
  refine W.widen (k := 2) (n := 5340) (by omega) (by omega) ?_
  refine va_putF (D := D) (ci := 2) (v := .ref q2) (ty := .array .int) (C := RX2) (T := TX2) (N := 13) hx hb hts inlX2 tyX2 tyX2_ok nmX2 hown hK hP hD hS 0 rfl rfl 1 (by decide) (hts _ tl_RX2_13) (fun _ h9 => h9) rfl hin rfl (by decide +kernel) rfl rfl (Nat.le_of_ble_eq_true rfl) dX2_init_19 (fun H locs hP hD hS => ?_)
  have hP : va_P D vwCl [(h0, .inr (2, [.ref q1, .ref q2, .null, .int (iN 0), .null, .int (iN 0), .int (iN 0), .int (iN 0), .int (iN 0), .int (iN 0), .int (iN 0), .int (iN 0), .int (iN 0)])), (q1, .inl (cI, 2670, .inl (fun _ => iN 0))), (q2, .inl (cI, 2670, .inl (fun _ => iN 0)))] H := hP
  have hD : va_D A [(h0, .inr (2, [.ref q1, .ref q2, .null, .int (iN 0), .null, .int (iN 0), .int (iN 0), .int (iN 0), .int (iN 0), .int (iN 0), .int (iN 0), .int (iN 0), .int (iN 0)])), (q1, .inl (cI, 2670, .inl (fun _ => iN 0))), (q2, .inl (cI, 2670, .inl (fun _ => iN 0)))] := hD
  refine lv_aload_n hx hb dX2_init_22 rfl (lv_at hl 0 rfl) ?_
  refine ts_sipush (n := 10680) hx hb dX2_init_23 (by decide) ?_
  refine va_newa (atype := .int) (ty := .int) (a0 := (10680, .inl (fun _ => iN 0))) (N' := 10680) hx hb (hts _ (tw_in2 _ (List.mem_of_getElem? (i := 1) rfl))) rfl hK hP hD hS hA (fun _ => rfl) (by rw [← iN_z, iN_lt (by omega) (by omega)]; omega) (iN_k (k := 10680) (n := 10681) rfl (by omega) (by omega)) (Nat.le_of_ble_eq_true rfl) (Nat.le_of_ble_eq_true rfl) (Nat.le_of_ble_eq_true rfl) dX2_init_26 (fun q3 c3 H hK3 hP hD hS => ?_)
  have hc3 : c3 = cI := K_one (i := 0) (j := 1) hK3 rfl rfl
  rw [hc3] at hP hD
  have hP : va_P D vwCl [(h0, .inr (2, [.ref q1, .ref q2, .null, .int (iN 0), .null, .int (iN 0), .int (iN 0), .int (iN 0), .int (iN 0), .int (iN 0), .int (iN 0), .int (iN 0), .int (iN 0)])), (q1, .inl (cI, 2670, .inl (fun _ => iN 0))), (q2, .inl (cI, 2670, .inl (fun _ => iN 0))), (q3, .inl (cI, 10680, .inl (fun _ => iN 0)))] H := hP
  have hD : va_D A [(h0, .inr (2, [.ref q1, .ref q2, .null, .int (iN 0), .null, .int (iN 0), .int (iN 0), .int (iN 0), .int (iN 0), .int (iN 0), .int (iN 0), .int (iN 0), .int (iN 0)])), (q1, .inl (cI, 2670, .inl (fun _ => iN 0))), (q2, .inl (cI, 2670, .inl (fun _ => iN 0))), (q3, .inl (cI, 10680, .inl (fun _ => iN 0)))] := hD
  refine W.widen (k := 3) (n := 16020) (by omega) (by omega) ?_
  refine va_putF (D := D) (ci := 2) (v := .ref q3) (ty := .array .int) (C := RX2) (T := TX2) (N := 13) hx hb hts inlX2 tyX2 tyX2_ok nmX2 hown hK hP hD hS 0 rfl rfl 2 (by decide) (hts _ tl_RX2_16) (fun _ h9 => h9) rfl hin rfl (by decide +kernel) rfl rfl (Nat.le_of_ble_eq_true rfl) dX2_init_28 (fun H locs hP hD hS => ?_)
  have hP : va_P D vwCl [(h0, .inr (2, [.ref q1, .ref q2, .ref q3, .int (iN 0), .null, .int (iN 0), .int (iN 0), .int (iN 0), .int (iN 0), .int (iN 0), .int (iN 0), .int (iN 0), .int (iN 0)])), (q1, .inl (cI, 2670, .inl (fun _ => iN 0))), (q2, .inl (cI, 2670, .inl (fun _ => iN 0))), (q3, .inl (cI, 10680, .inl (fun _ => iN 0)))] H := hP
  have hD : va_D A [(h0, .inr (2, [.ref q1, .ref q2, .ref q3, .int (iN 0), .null, .int (iN 0), .int (iN 0), .int (iN 0), .int (iN 0), .int (iN 0), .int (iN 0), .int (iN 0), .int (iN 0)])), (q1, .inl (cI, 2670, .inl (fun _ => iN 0))), (q2, .inl (cI, 2670, .inl (fun _ => iN 0))), (q3, .inl (cI, 10680, .inl (fun _ => iN 0)))] := hD
  refine lv_aload_n hx hb dX2_init_31 rfl (lv_at hl 0 rfl) ?_
  refine ts_bipush (n := 60) hx hb dX2_init_32 (by decide) ?_
  refine va_newa (atype := .int) (ty := .int) (a0 := (60, .inl (fun _ => iN 0))) (N' := 60) hx hb (hts _ (tw_in2 _ (List.mem_of_getElem? (i := 1) rfl))) rfl hK hP hD hS hA (fun _ => rfl) (by rw [← iN_z, iN_lt (by omega) (by omega)]; omega) (iN_k (k := 60) (n := 61) rfl (by omega) (by omega)) (Nat.le_of_ble_eq_true rfl) (Nat.le_of_ble_eq_true rfl) (Nat.le_of_ble_eq_true rfl) dX2_init_34 (fun q4 c4 H hK4 hP hD hS => ?_)
  have hc4 : c4 = cI := K_one (i := 0) (j := 1) hK4 rfl rfl
  rw [hc4] at hP hD
  have hP : va_P D vwCl [(h0, .inr (2, [.ref q1, .ref q2, .ref q3, .int (iN 0), .null, .int (iN 0), .int (iN 0), .int (iN 0), .int (iN 0), .int (iN 0), .int (iN 0), .int (iN 0), .int (iN 0)])), (q1, .inl (cI, 2670, .inl (fun _ => iN 0))), (q2, .inl (cI, 2670, .inl (fun _ => iN 0))), (q3, .inl (cI, 10680, .inl (fun _ => iN 0))), (q4, .inl (cI, 60, .inl (fun _ => iN 0)))] H := hP
  have hD : va_D A [(h0, .inr (2, [.ref q1, .ref q2, .ref q3, .int (iN 0), .null, .int (iN 0), .int (iN 0), .int (iN 0), .int (iN 0), .int (iN 0), .int (iN 0), .int (iN 0), .int (iN 0)])), (q1, .inl (cI, 2670, .inl (fun _ => iN 0))), (q2, .inl (cI, 2670, .inl (fun _ => iN 0))), (q3, .inl (cI, 10680, .inl (fun _ => iN 0))), (q4, .inl (cI, 60, .inl (fun _ => iN 0)))] := hD
  refine W.widen (k := 4) (n := 16080) (by omega) (by omega) ?_
  refine va_putF (D := D) (ci := 2) (v := .ref q4) (ty := .array .int) (C := RX2) (T := TX2) (N := 13) hx hb hts inlX2 tyX2 tyX2_ok nmX2 hown hK hP hD hS 0 rfl rfl 4 (by decide) (hts _ tl_RX2_19) (fun _ h9 => h9) rfl hin rfl (by decide +kernel) rfl rfl (Nat.le_of_ble_eq_true rfl) dX2_init_36 (fun H locs hP hD hS => ?_)
  have hP : va_P D vwCl [(h0, .inr (2, [.ref q1, .ref q2, .ref q3, .int (iN 0), .ref q4, .int (iN 0), .int (iN 0), .int (iN 0), .int (iN 0), .int (iN 0), .int (iN 0), .int (iN 0), .int (iN 0)])), (q1, .inl (cI, 2670, .inl (fun _ => iN 0))), (q2, .inl (cI, 2670, .inl (fun _ => iN 0))), (q3, .inl (cI, 10680, .inl (fun _ => iN 0))), (q4, .inl (cI, 60, .inl (fun _ => iN 0)))] H := hP
  have hD : va_D A [(h0, .inr (2, [.ref q1, .ref q2, .ref q3, .int (iN 0), .ref q4, .int (iN 0), .int (iN 0), .int (iN 0), .int (iN 0), .int (iN 0), .int (iN 0), .int (iN 0), .int (iN 0)])), (q1, .inl (cI, 2670, .inl (fun _ => iN 0))), (q2, .inl (cI, 2670, .inl (fun _ => iN 0))), (q3, .inl (cI, 10680, .inl (fun _ => iN 0))), (q4, .inl (cI, 60, .inl (fun _ => iN 0)))] := hD
  obtain ⟨ad, had⟩ : ∃ ad : Nat → Nat, ad = ad5 h0 q1 q2 q3 q4 := ⟨_, rfl⟩
  have hw : mmB D A s cI (ad5 h0 q1 q2 q3 q4) zGS H locs := ⟨hP, hD, hS⟩
  have ha0 : ad5 h0 q1 q2 q3 q4 0 = h0 := rfl
  rw [← had] at hw ha0
  have cx : CallFix p m c cX2_init 1 s _ wsL_law RX2 := ⟨hx, hb, hml, hown, hts⟩
  have hl : lv_has ls 1 [(0, .ref (ad 0))] := by rw [ha0]; exact hl
  refine lv_aload_n hx hb dX2_init_39 rfl (lv_at hl 0 rfl) ?_
  refine mm_get0 cx hK hw tl_RX2_7 dX2_init_40 ?_
  refine ts_bipush (n := 9) hx hb dX2_init_43 (by decide) ?_
  refine ts_iconst (n := 1) hx hb dX2_init_45 ?_
  refine mm_st0 cx hK hw 9 (by omega) dX2_init_46 (fun g9 H locs hg9 hw => ?_)
  refine lv_aload_n hx hb dX2_init_47 rfl (lv_at hl 0 rfl) ?_
  refine ts_iconst (n := 2) hx hb dX2_init_48 ?_
  refine mm_calli (rest := []) cx hK hA hw hl (c_X2_begins l 2 g9 scI (by rw [hg9, u2_s]; rfl) (by omega)) tg_RX2_22 ⟨rfl, rfl⟩ 1 rfl (by decide +kernel) ⟨Nat.le_of_ble_eq_true rfl, Nat.le_of_ble_eq_true rfl⟩ ⟨Nat.le_of_ble_eq_true rfl, Nat.le_of_ble_eq_true rfl⟩ (Nat.le_of_ble_eq_true rfl) dX2_init_49 rfl (fun z g1 H locs hq hw => ?_)
  refine lv_pop hx hb dX2_init_52 rfl ?_
  have h4 : ∀ j : Nat, g1 4 j = 0 := fun j => by rw [hq.2.2.2.2.2.2, hg9, u2_a _ (by decide)]; rfl
  have hF : FM g1 T00 := ⟨⟨hq.2.1, hq.2.2.1⟩, h4 3, fun b hb => absurd hb (Nat.not_lt_zero b), h4 5, fun j hj => absurd hj (Nat.not_lt_zero j)⟩
  exact W.vret hx hb hr (fun t ht hW => ⟨⟨(ad, g1), rfl, ⟨ha0, hF⟩, by rw [ht]; exact hw.1, hw.2.1⟩, hw.2.2.F ht⟩) hw.2.2.2.2 dX2_init_53 hlocks
