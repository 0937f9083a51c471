/-! ===== TurningShop(): six Games, four places, sixty characters ===== -/
theorem arrV_eq (cA : ClassId) {N : Nat} {f g : Nat → Value} (h : ∀ j, j < N → f j = g j) : arrV cA N f = arrV cA N g := by
  have e : (fun j : Fin N => f j.val) = fun j : Fin N => g j.val := funext fun j => h j.1 j.2
  unfold arrV
  rw [e]
theorem P_hist {D : va_G} {cl : List vw_C} {ws : va_W} {H : Heap} (h : va_P D cl ws H) {k a n : Nat} {cA : ClassId} {f f' : Nat → Option Nat} (hk : ws[k]? = some (a, .inl (cA, n, .inr (.inr (.inr (.inr f)))))) (he : ∀ j, j < n → f j = f' j) : va_P D cl (ws.set k (a, .inl (cA, n, .inr (.inr (.inr (.inr f')))))) H := by
  have hl := (List.getElem?_eq_some_iff.mp hk).1
  intro i q hi
  by_cases e : i = k
  · subst e
    rw [List.getElem?_set_self hl] at hi
    cases hi
    have h1 : H[a]? = some (arrV cA n (fun j => va_rf (f j))) := h i _ hk
    show H[a]? = some (arrV cA n (fun j => va_rf (f' j)))
    rw [h1, arrV_eq cA (f := fun j => va_rf (f j)) (g := fun j => va_rf (f' j)) (fun j hj => by rw [he j hj])]
  · rw [List.getElem?_set_ne (Ne.symm e)] at hi
    exact h i q hi
def gaD (a b c d e f : Nat → Nat) : GA
  | 0 => a
  | 1 => b
  | 2 => c
  | 3 => d
  | 4 => e
  | _ => f
def ad3 (a b c : Nat) : Nat → Nat
  | 0 => a
  | 1 => b
  | _ => c
def x1Z : List Value := [.null, .null, .null, .int (iN 0), .null, .int (iN 0), .int (iN 0), .int (iN 0), .int (iN 0)]
theorem RX_zero : RX (u2 zGS 4 11 1) (scI, fun _ _ => []) := ⟨⟨rfl, rfl, rfl, rfl, rfl, rfl, rfl, rfl, rfl, rfl, fun k hk => by show (0 : Int) = scI (10 + k); unfold scI; rw [if_neg (by omega)], fun k hk => by show (0 : Int) = scI (20 + k); unfold scI; rw [if_neg (by omega)]⟩, rfl, fun r hr => rfl, fun r hr k hk => absurd hk (Nat.not_lt_zero k), by show (0 : Int) ≤ 164; decide⟩
set_option maxHeartbeats 8000000 in
set_option maxRecDepth 100000 in
/-- the object: a new one -/
theorem c_X1_init (l : Launch) (D : va_G) (ci : Nat → ClassId) (tb : Nat → Nat) (h0 sz : Nat) : Met l yX1_init (wU yX1_init cX1_init 2 none) ({ frames := 4, cells := 32, slots := 1354, locals := 133 } : Room) (va_Pc [.ref h0] (fun U => U.heap.size = sz ∧ va_P D vwCl [(h0, .inr (1, x1Z))] U.heap ∧ va_K D vwCl (xmT ci) U ∧ va_D (fun _ => True) [(h0, .inr (1, x1Z))] ∧ va_AO "TurningShop$Game" U ∧ tB tb (va_A [(h0, .inr (1, x1Z))] sz) U U.heap)) (va_Qv (fun u : (Nat → Nat) × GA × XS => u.1 0 = h0 ∧ FX u.2.2 T00) (fun u t => va_P D vwCl (xmR ci u.1 u.2.1 u.2.2) t.heap ∧ va_D (va_A [(h0, .inr (1, x1Z))] sz) (xmR ci u.1 u.2.1 u.2.2)) (va_A [(h0, .inr (1, x1Z))] sz)) 32 1354 (va_A [(h0, .inr (1, x1Z))] sz) := by
  refine Met.ofW (cc := cX1_init) (maxL := 2) (ret := none) (by decide) rfl ?_
  intro p e s m args below meth c s₁ B hml hv
  obtain ⟨rfl, hsz, hP, hK, hD0, hAO, hT⟩ := hv
  have hts0 := atoms_spec (ws := wU yX1_init cX1_init 2 none) B.pre
  have hts : ∀ w ∈ wsL_law, w.before _ s = true := fun w hw => hts0 w (List.mem_cons_of_mem _ hw)
  have hx := B.exec
  have hb := B.bytes
  have hr := B.returns
  have hown : s.vm.findClass RX1 = some m.cls := findClass_of_methodNamed B.named
  have hlocks := B.notSynchronized
  have hin : meth.name = "<init>" := (name_of_methodNamed B.named B.method).1
  subst hsz
  have hD := hD0.self (sz := s.heap.size)
  generalize hAe : va_A [(h0, .inr (1, x1Z))] s.heap.size = A at hD hT ⊢
  have hA : ∀ q : Nat, s.heap.size ≤ q → A q := fun q h => by rw [← hAe]; exact Or.inr h
  have hS : va_S A s.heap s.heap [] := va_S.rf
  have hP : va_P D vwCl ([(h0, .inr (1, [.null, .null, .null, .int (iN 0), .null, .int (iN 0), .int (iN 0), .int (iN 0), .int (iN 0)]))]) s.heap := hP
  have hD : va_D A ([(h0, .inr (1, [.null, .null, .null, .int (iN 0), .null, .int (iN 0), .int (iN 0), .int (iN 0), .int (iN 0)]))]) := hD
  have hl := lv_entry ([.ref h0]) (n := 2) (Nat.le_of_ble_eq_true rfl)
  rw [lg_entry_eq]
  generalize (lg_sl ([.ref h0]) ++ List.replicate (2 - (lg_sl ([.ref h0])).length) Slot.unset).toArray = ls at hl ⊢
  have hl : lv_has ls 2 [(0, .ref h0)] := hl
  have cx : CallFix p m c cX1_init 2 s _ wsL_law RX1 := ⟨hx, hb, hml, hown, hts⟩
  refine lv_aload_n hx hb dX1_init_0 rfl (lv_at hl 0 rfl) ?_
  refine W.objInit hx hb hown (hts _ (tw_in1 _ (List.mem_of_getElem? (i := 9) rfl))) (hts _ (tw_in1 _ (List.mem_of_getElem? (i := 10) rfl))) (hts _ (tw_in1 _ (List.mem_of_getElem? (i := 11) rfl))) rfl (by rw [hml]; exact hl.1) rfl dX1_init_1 (Nat.le_of_ble_eq_true rfl) (Nat.le_of_ble_eq_true rfl) ?_
  refine W.eq (g2 := F0 m 4 ls []) rfl ?_
  refine lv_aload_n hx hb dX1_init_4 rfl (lv_at hl 0 rfl) ?_
  refine va_new (ci := 0) (fs := x0Z) (C := RX0) (T := TX0) (N := 14) hx hb hts inlX0 tyX0 tyX0_ok hown (hts _ (tw_in1 _ (List.mem_of_getElem? (i := 12) rfl))) (hts _ (tw_in1 _ (List.mem_of_getElem? (i := 13) rfl))) (hts _ (tw_in1 _ (List.mem_of_getElem? (i := 14) rfl))) hK hP hD hS hA rfl (fun j hj => by rcases (show j = 0 ∨ j = 1 ∨ j = 2 ∨ j = 3 ∨ j = 4 ∨ j = 5 ∨ j = 6 ∨ j = 7 ∨ j = 8 ∨ j = 9 ∨ j = 10 ∨ j = 11 ∨ j = 12 ∨ j = 13 by omega) with rfl | rfl | rfl | rfl | rfl | rfl | rfl | rfl | rfl | rfl | rfl | rfl | rfl | rfl <;> rfl) (Nat.le_of_ble_eq_true rfl) (Nat.le_of_ble_eq_true rfl) dX1_init_5 (fun qu1 H hP hD hS => ?_)
  have hP : va_P D vwCl ([(h0, .inr (1, [.null, .null, .null, .int (iN 0), .null, .int (iN 0), .int (iN 0), .int (iN 0), .int (iN 0)]))] ++ [(qu1, .inr (0, x0Z))]) H := hP
  have hD : va_D A ([(h0, .inr (1, [.null, .null, .null, .int (iN 0), .null, .int (iN 0), .int (iN 0), .int (iN 0), .int (iN 0)]))] ++ [(qu1, .inr (0, x0Z))]) := hD
  refine W.widen (k := 1) (n := 14) (by omega) (by omega) ?_
  refine lv_dup hx hb dX1_init_8 rfl ?_
  have hPc := hP.sub (ws' := [(qu1, .inr (0, x0Z))]) [1] rfl
  have hDc := hD.sub (ws' := [(qu1, .inr (0, x0Z))]) [1] (by decide) rfl
  have hFc := va_free (wc := [(qu1, .inr (0, x0Z))]) hD hS hA [1] rfl
  refine va_callv (va_runI (As := []) (rest := [.ref qu1, .ref h0]) cx (c_X0_init l D (ci 0) qu1 H.size) (cwI 0 cx.2.2.2.2 tg_RX1_9 rfl rfl rfl (hts _ (tw_in1 _ (List.mem_of_getElem? (i := 14) rfl))) (hts _ tm_RX1_9) (hts _ (tw_in1 _ (List.mem_of_getElem? (i := 22) rfl))) rfl (by decide +kernel) ⟨Nat.le_of_ble_eq_true rfl, Nat.le_of_ble_eq_true rfl⟩) ⟨fun a U gf mk q => by obtain ⟨q0, q1, qP, qK, qD⟩ := q; exact ⟨q0, q1, qP, va_K.moved (u := U) (U := U.calling gf mk a) (Vm.Alike.refl U.vm) qK, qD⟩, fun U hU hW => ⟨rfl, by rw [hU], by rw [hU]; exact hPc, va_K.moved hW.alike (hK.sub (tys' := [(ci 0, .int)]) [0] rfl), hDc.weaken (fun _ _ _ _ => trivial)⟩⟩ rfl rfl hl.1 rfl (lv_room (Nat.le_of_ble_eq_true rfl)) dX1_init_9 ⟨Nat.le_of_ble_eq_true rfl, Nat.le_of_ble_eq_true rfl⟩) hS (fun q _ h => hFc q h) hFc (fun u1 t H1 locs ht hvm hu hB hz1 hk1 hS => ?_)
  obtain ⟨hP1, hD1⟩ := hB
  rw [ht] at hP1
  obtain ⟨hPju1, hDju1⟩ := va_join (wr := [(h0, .inr (1, [.null, .null, .null, .int (iN 0), .null, .int (iN 0), .int (iN 0), .int (iN 0), .int (iN 0)]))]) (w1 := gmW (ci 0) u1 zGS) hP hD [1] [0] rfl rfl (by decide) (by decide) hk1 hFc hP1 hD1
  generalize H1 = H at hPju1 hS ⊢
  subst hu
  have hP := hPju1
  have hD := hDju1
  have hP : va_P D vwCl ([(h0, .inr (1, [.null, .null, .null, .int (iN 0), .null, .int (iN 0), .int (iN 0), .int (iN 0), .int (iN 0)]))] ++ gmW (ci 0) u1 zGS) H := hP
  have hD : va_D A ([(h0, .inr (1, [.null, .null, .null, .int (iN 0), .null, .int (iN 0), .int (iN 0), .int (iN 0), .int (iN 0)]))] ++ gmW (ci 0) u1 zGS) := hD
  refine W.widen (k := 5) (n := 215) (by omega) (by omega) ?_
  refine va_put (D := D) (ci := 1) (v := .ref (u1 0)) (ty := .object "TurningShop$Game") (C := RX1) (T := TX1) (N := 9) hx hb hts inlX1 tyX1 tyX1_ok nmX1 hown hK hP hD hS 0 rfl rfl 0 (by decide) (hts _ tl_RX1_10) (fun _ h9 => h9) rfl (by decide +kernel) rfl rfl (Nat.le_of_ble_eq_true rfl) dX1_init_12 (fun H locs hP hD hS => ?_)
  have hP : va_P D vwCl ([(h0, .inr (1, [.ref (u1 0), .null, .null, .int (iN 0), .null, .int (iN 0), .int (iN 0), .int (iN 0), .int (iN 0)]))] ++ gmW (ci 0) u1 zGS) H := hP
  have hD : va_D A ([(h0, .inr (1, [.ref (u1 0), .null, .null, .int (iN 0), .null, .int (iN 0), .int (iN 0), .int (iN 0), .int (iN 0)]))] ++ gmW (ci 0) u1 zGS) := hD
  refine lv_aload_n hx hb dX1_init_15 rfl (lv_at hl 0 rfl) ?_
  refine va_new (ci := 0) (fs := x0Z) (C := RX0) (T := TX0) (N := 14) hx hb hts inlX0 tyX0 tyX0_ok hown (hts _ (tw_in1 _ (List.mem_of_getElem? (i := 12) rfl))) (hts _ (tw_in1 _ (List.mem_of_getElem? (i := 13) rfl))) (hts _ (tw_in1 _ (List.mem_of_getElem? (i := 14) rfl))) hK hP hD hS hA rfl (fun j hj => by rcases (show j = 0 ∨ j = 1 ∨ j = 2 ∨ j = 3 ∨ j = 4 ∨ j = 5 ∨ j = 6 ∨ j = 7 ∨ j = 8 ∨ j = 9 ∨ j = 10 ∨ j = 11 ∨ j = 12 ∨ j = 13 by omega) with rfl | rfl | rfl | rfl | rfl | rfl | rfl | rfl | rfl | rfl | rfl | rfl | rfl | rfl <;> rfl) (Nat.le_of_ble_eq_true rfl) (Nat.le_of_ble_eq_true rfl) dX1_init_16 (fun qu2g H hP hD hS => ?_)
  have hP : va_P D vwCl ([(h0, .inr (1, [.ref (u1 0), .null, .null, .int (iN 0), .null, .int (iN 0), .int (iN 0), .int (iN 0), .int (iN 0)]))] ++ (gmW (ci 0) u1 zGS ++ [(qu2g, .inr (0, x0Z))])) H := hP
  have hD : va_D A ([(h0, .inr (1, [.ref (u1 0), .null, .null, .int (iN 0), .null, .int (iN 0), .int (iN 0), .int (iN 0), .int (iN 0)]))] ++ (gmW (ci 0) u1 zGS ++ [(qu2g, .inr (0, x0Z))])) := hD
  refine W.widen (k := 6) (n := 229) (by omega) (by omega) ?_
  refine lv_dup hx hb dX1_init_19 rfl ?_
  have hPc := hP.sub (ws' := [(qu2g, .inr (0, x0Z))]) [6] rfl
  have hDc := hD.sub (ws' := [(qu2g, .inr (0, x0Z))]) [6] (by decide) rfl
  have hFc := va_free (wc := [(qu2g, .inr (0, x0Z))]) hD hS hA [6] rfl
  refine va_callv (va_runI (As := []) (rest := [.ref qu2g, .ref h0]) cx (c_X0_init l D (ci 0) qu2g H.size) (cwI 0 cx.2.2.2.2 tg_RX1_9 rfl rfl rfl (hts _ (tw_in1 _ (List.mem_of_getElem? (i := 14) rfl))) (hts _ tm_RX1_9) (hts _ (tw_in1 _ (List.mem_of_getElem? (i := 22) rfl))) rfl (by decide +kernel) ⟨Nat.le_of_ble_eq_true rfl, Nat.le_of_ble_eq_true rfl⟩) ⟨fun a U gf mk q => by obtain ⟨q0, q1, qP, qK, qD⟩ := q; exact ⟨q0, q1, qP, va_K.moved (u := U) (U := U.calling gf mk a) (Vm.Alike.refl U.vm) qK, qD⟩, fun U hU hW => ⟨rfl, by rw [hU], by rw [hU]; exact hPc, va_K.moved hW.alike (hK.sub (tys' := [(ci 0, .int)]) [0] rfl), hDc.weaken (fun _ _ _ _ => trivial)⟩⟩ rfl rfl hl.1 rfl (lv_room (Nat.le_of_ble_eq_true rfl)) dX1_init_20 ⟨Nat.le_of_ble_eq_true rfl, Nat.le_of_ble_eq_true rfl⟩) hS (fun q _ h => hFc q h) hFc (fun u2g t H1 locs ht hvm hu hB hz1 hk1 hS => ?_)
  obtain ⟨hP1, hD1⟩ := hB
  rw [ht] at hP1
  obtain ⟨hPju2g, hDju2g⟩ := va_join (wr := [(h0, .inr (1, [.ref (u1 0), .null, .null, .int (iN 0), .null, .int (iN 0), .int (iN 0), .int (iN 0), .int (iN 0)]))] ++ gmW (ci 0) u1 zGS) (w1 := gmW (ci 0) u2g zGS) hP hD [6] [0, 1, 2, 3, 4, 5] rfl rfl (by decide) (by decide) hk1 hFc hP1 hD1
  generalize H1 = H at hPju2g hS ⊢
  subst hu
  have hP := hPju2g
  have hD := hDju2g
  have hP : va_P D vwCl ([(h0, .inr (1, [.ref (u1 0), .null, .null, .int (iN 0), .null, .int (iN 0), .int (iN 0), .int (iN 0), .int (iN 0)]))] ++ (gmW (ci 0) u1 zGS ++ gmW (ci 0) u2g zGS)) H := hP
  have hD : va_D A ([(h0, .inr (1, [.ref (u1 0), .null, .null, .int (iN 0), .null, .int (iN 0), .int (iN 0), .int (iN 0), .int (iN 0)]))] ++ (gmW (ci 0) u1 zGS ++ gmW (ci 0) u2g zGS)) := hD
  refine W.widen (k := 10) (n := 430) (by omega) (by omega) ?_
  refine va_put (D := D) (ci := 1) (v := .ref (u2g 0)) (ty := .object "TurningShop$Game") (C := RX1) (T := TX1) (N := 9) hx hb hts inlX1 tyX1 tyX1_ok nmX1 hown hK hP hD hS 0 rfl rfl 1 (by decide) (hts _ tl_RX1_16) (fun _ h9 => h9) rfl (by decide +kernel) rfl rfl (Nat.le_of_ble_eq_true rfl) dX1_init_23 (fun H locs hP hD hS => ?_)
  have hP : va_P D vwCl ([(h0, .inr (1, [.ref (u1 0), .ref (u2g 0), .null, .int (iN 0), .null, .int (iN 0), .int (iN 0), .int (iN 0), .int (iN 0)]))] ++ (gmW (ci 0) u1 zGS ++ gmW (ci 0) u2g zGS)) H := hP
  have hD : va_D A ([(h0, .inr (1, [.ref (u1 0), .ref (u2g 0), .null, .int (iN 0), .null, .int (iN 0), .int (iN 0), .int (iN 0), .int (iN 0)]))] ++ (gmW (ci 0) u1 zGS ++ gmW (ci 0) u2g zGS)) := hD
  refine lv_aload_n hx hb dX1_init_26 rfl (lv_at hl 0 rfl) ?_
  refine ts_iconst (n := 4) hx hb dX1_init_27 ?_
  refine va_newq (C := "TurningShop$Game") (N' := 4) hx hb hown (hts _ (tw_in1 _ (List.mem_of_getElem? (i := 12) rfl))) hAO hK hP hD hS hA (by rw [← iN_z, iN_lt (by omega) (by omega)]; omega) (iN_k (k := 4) (n := 5) rfl (by omega) (by omega)) (Nat.le_of_ble_eq_true rfl) (Nat.le_of_ble_eq_true rfl) (Nat.le_of_ble_eq_true rfl) dX1_init_28 (fun qh ch H hKh hP hD hS => ?_)
  have hch : ch = ci 1 := K_oneq (i := 1) (j := 3) hKh rfl rfl
  rw [hch] at hP hD
  have hP : va_P D vwCl ([(h0, .inr (1, [.ref (u1 0), .ref (u2g 0), .null, .int (iN 0), .null, .int (iN 0), .int (iN 0), .int (iN 0), .int (iN 0)]))] ++ (gmW (ci 0) u1 zGS ++ (gmW (ci 0) u2g zGS ++ [(qh, .inl (ci 1, 4, .inr (.inr (.inr (.inr (fun _ => none))))))]))) H := hP
  have hD : va_D A ([(h0, .inr (1, [.ref (u1 0), .ref (u2g 0), .null, .int (iN 0), .null, .int (iN 0), .int (iN 0), .int (iN 0), .int (iN 0)]))] ++ (gmW (ci 0) u1 zGS ++ (gmW (ci 0) u2g zGS ++ [(qh, .inl (ci 1, 4, .inr (.inr (.inr (.inr (fun _ => none))))))]))) := hD
  refine W.widen (k := 11) (n := 434) (by omega) (by omega) ?_
  refine va_putF (D := D) (ci := 1) (v := .ref (qh)) (ty := .array (.object "TurningShop$Game")) (C := RX1) (T := TX1) (N := 9) hx hb hts inlX1 tyX1 tyX1_ok nmX1 hown hK hP hD hS 0 rfl rfl 2 (by decide) (hts _ tl_RX1_19) (fun _ h9 => h9) rfl hin rfl (by decide +kernel) rfl rfl (Nat.le_of_ble_eq_true rfl) dX1_init_31 (fun H locs hP hD hS => ?_)
  have hP : va_P D vwCl ([(h0, .inr (1, [.ref (u1 0), .ref (u2g 0), .ref (qh), .int (iN 0), .null, .int (iN 0), .int (iN 0), .int (iN 0), .int (iN 0)]))] ++ (gmW (ci 0) u1 zGS ++ (gmW (ci 0) u2g zGS ++ [(qh, .inl (ci 1, 4, .inr (.inr (.inr (.inr (fun _ => none))))))]))) H := hP
  have hD : va_D A ([(h0, .inr (1, [.ref (u1 0), .ref (u2g 0), .ref (qh), .int (iN 0), .null, .int (iN 0), .int (iN 0), .int (iN 0), .int (iN 0)]))] ++ (gmW (ci 0) u1 zGS ++ (gmW (ci 0) u2g zGS ++ [(qh, .inl (ci 1, 4, .inr (.inr (.inr (.inr (fun _ => none))))))]))) := hD
  refine ts_iconst (n := 0) hx hb dX1_init_34 ?_
  refine lv_istore_n (lv' := [(1, .int (iN 0)), (0, .ref h0)]) hx hb dX1_init_35 rfl hl (by decide) rfl (fun ls hl => ?_)
  refine lv_iload_n hx hb dX1_init_36 rfl (lv_at hl 0 rfl) ?_
  refine ts_iconst (n := 4) hx hb dX1_init_37 ?_
  refine ts_icmp_ge (tgt := 60) hx hb (by omega) dX1_init_38 (by decide) (fun c38 => absurd c38 (by omega)) (fun c038 => ?_)
  refine lv_aload_n hx hb dX1_init_41 rfl (lv_at hl 1 rfl) ?_
  refine va_get (D := D) (ci := 1) (C := RX1) (T := TX1) (N := 9) hx hb hts inlX1 hown hK hP 0 (fs := [.ref (u1 0), .ref (u2g 0), .ref (qh), .int (iN 0), .null, .int (iN 0), .int (iN 0), .int (iN 0), .int (iN 0)]) rfl rfl 2 (by decide) (hts _ tl_RX1_19) (fun _ h9 => h9) rfl dX1_init_42 ?_
  refine lv_iload_n hx hb dX1_init_45 rfl (lv_at hl 0 rfl) ?_
  refine va_new (ci := 0) (fs := x0Z) (C := RX0) (T := TX0) (N := 14) hx hb hts inlX0 tyX0 tyX0_ok hown (hts _ (tw_in1 _ (List.mem_of_getElem? (i := 12) rfl))) (hts _ (tw_in1 _ (List.mem_of_getElem? (i := 13) rfl))) (hts _ (tw_in1 _ (List.mem_of_getElem? (i := 14) rfl))) hK hP hD hS hA rfl (fun j hj => by rcases (show j = 0 ∨ j = 1 ∨ j = 2 ∨ j = 3 ∨ j = 4 ∨ j = 5 ∨ j = 6 ∨ j = 7 ∨ j = 8 ∨ j = 9 ∨ j = 10 ∨ j = 11 ∨ j = 12 ∨ j = 13 by omega) with rfl | rfl | rfl | rfl | rfl | rfl | rfl | rfl | rfl | rfl | rfl | rfl | rfl | rfl <;> rfl) (Nat.le_of_ble_eq_true rfl) (Nat.le_of_ble_eq_true rfl) dX1_init_46 (fun qu3 H hP hD hS => ?_)
  have hP : va_P D vwCl ([(h0, .inr (1, [.ref (u1 0), .ref (u2g 0), .ref (qh), .int (iN 0), .null, .int (iN 0), .int (iN 0), .int (iN 0), .int (iN 0)]))] ++ (gmW (ci 0) u1 zGS ++ (gmW (ci 0) u2g zGS ++ ([(qh, .inl (ci 1, 4, .inr (.inr (.inr (.inr (fun _ => none))))))] ++ [(qu3, .inr (0, x0Z))])))) H := hP
  have hD : va_D A ([(h0, .inr (1, [.ref (u1 0), .ref (u2g 0), .ref (qh), .int (iN 0), .null, .int (iN 0), .int (iN 0), .int (iN 0), .int (iN 0)]))] ++ (gmW (ci 0) u1 zGS ++ (gmW (ci 0) u2g zGS ++ ([(qh, .inl (ci 1, 4, .inr (.inr (.inr (.inr (fun _ => none))))))] ++ [(qu3, .inr (0, x0Z))])))) := hD
  refine W.widen (k := 12) (n := 448) (by omega) (by omega) ?_
  refine lv_dup hx hb dX1_init_49 rfl ?_
  have hPc := hP.sub (ws' := [(qu3, .inr (0, x0Z))]) [12] rfl
  have hDc := hD.sub (ws' := [(qu3, .inr (0, x0Z))]) [12] (by decide) rfl
  have hFc := va_free (wc := [(qu3, .inr (0, x0Z))]) hD hS hA [12] rfl
  refine va_callv (va_runI (As := []) (rest := [.ref qu3, .int (iN (0)), .ref qh]) cx (c_X0_init l D (ci 0) qu3 H.size) (cwI 0 cx.2.2.2.2 tg_RX1_9 rfl rfl rfl (hts _ (tw_in1 _ (List.mem_of_getElem? (i := 14) rfl))) (hts _ tm_RX1_9) (hts _ (tw_in1 _ (List.mem_of_getElem? (i := 22) rfl))) rfl (by decide +kernel) ⟨Nat.le_of_ble_eq_true rfl, Nat.le_of_ble_eq_true rfl⟩) ⟨fun a U gf mk q => by obtain ⟨q0, q1, qP, qK, qD⟩ := q; exact ⟨q0, q1, qP, va_K.moved (u := U) (U := U.calling gf mk a) (Vm.Alike.refl U.vm) qK, qD⟩, fun U hU hW => ⟨rfl, by rw [hU], by rw [hU]; exact hPc, va_K.moved hW.alike (hK.sub (tys' := [(ci 0, .int)]) [0] rfl), hDc.weaken (fun _ _ _ _ => trivial)⟩⟩ rfl rfl hl.1 rfl (lv_room (Nat.le_of_ble_eq_true rfl)) dX1_init_50 ⟨Nat.le_of_ble_eq_true rfl, Nat.le_of_ble_eq_true rfl⟩) hS (fun q _ h => hFc q h) hFc (fun u3 t H1 locs ht hvm hu hB hz1 hk1 hS => ?_)
  obtain ⟨hP1, hD1⟩ := hB
  rw [ht] at hP1
  obtain ⟨hPju3, hDju3⟩ := va_join (wr := [(h0, .inr (1, [.ref (u1 0), .ref (u2g 0), .ref (qh), .int (iN 0), .null, .int (iN 0), .int (iN 0), .int (iN 0), .int (iN 0)]))] ++ (gmW (ci 0) u1 zGS ++ (gmW (ci 0) u2g zGS ++ [(qh, .inl (ci 1, 4, .inr (.inr (.inr (.inr (fun _ => none))))))]))) (w1 := gmW (ci 0) u3 zGS) hP hD [12] [0, 1, 2, 3, 4, 5, 6, 7, 8, 9, 10, 11] rfl rfl (by decide) (by decide) hk1 hFc hP1 hD1
  generalize H1 = H at hPju3 hS ⊢
  subst hu
  have hP := hPju3
  have hD := hDju3
  have hP : va_P D vwCl ([(h0, .inr (1, [.ref (u1 0), .ref (u2g 0), .ref (qh), .int (iN 0), .null, .int (iN 0), .int (iN 0), .int (iN 0), .int (iN 0)]))] ++ (gmW (ci 0) u1 zGS ++ (gmW (ci 0) u2g zGS ++ ([(qh, .inl (ci 1, 4, .inr (.inr (.inr (.inr (fun _ => none))))))] ++ gmW (ci 0) u3 zGS)))) H := hP
  have hD : va_D A ([(h0, .inr (1, [.ref (u1 0), .ref (u2g 0), .ref (qh), .int (iN 0), .null, .int (iN 0), .int (iN 0), .int (iN 0), .int (iN 0)]))] ++ (gmW (ci 0) u1 zGS ++ (gmW (ci 0) u2g zGS ++ ([(qh, .inl (ci 1, 4, .inr (.inr (.inr (.inr (fun _ => none))))))] ++ gmW (ci 0) u3 zGS)))) := hD
  refine W.widen (k := 16) (n := 649) (by omega) (by omega) ?_
  have hik : (iN (0)).toNatClampNeg = 0 := iN_k (k := 0) (n := 5) (by omega) (by omega) (by omega)
  refine va_astq (D := D) hx hb hK hP hD hS 11 1 12 0 (cA := ci 1) (r := (RX0, TX0, 14)) (n := 4) (f := fun _ => none) rfl rfl (vs := gmF u3 zGS) rfl rfl (iN_in (k := 0) (by omega) (by omega) (by omega)) dX1_init_53 (fun H locs hP hD hS => ?_)
  rw [hik] at hP hD
  have hP : va_P D vwCl ([(h0, .inr (1, [.ref (u1 0), .ref (u2g 0), .ref (qh), .int (iN 0), .null, .int (iN 0), .int (iN 0), .int (iN 0), .int (iN 0)]))] ++ (gmW (ci 0) u1 zGS ++ (gmW (ci 0) u2g zGS ++ ([(qh, .inl (ci 1, 4, .inr (.inr (.inr (.inr (va_up (fun _ => none) 0 (some (u3 0))))))))] ++ gmW (ci 0) u3 zGS)))) H := hP
  have hD : va_D A ([(h0, .inr (1, [.ref (u1 0), .ref (u2g 0), .ref (qh), .int (iN 0), .null, .int (iN 0), .int (iN 0), .int (iN 0), .int (iN 0)]))] ++ (gmW (ci 0) u1 zGS ++ (gmW (ci 0) u2g zGS ++ ([(qh, .inl (ci 1, 4, .inr (.inr (.inr (.inr (va_up (fun _ => none) 0 (some (u3 0))))))))] ++ gmW (ci 0) u3 zGS)))) := hD
  obtain ⟨i0, hi0⟩ : ∃ z : Int, z = 0 + 1 := ⟨_, rfl⟩
  refine lv_iinc (v := iN i0) (lv' := [(1, .int (iN i0)), (0, .ref h0)]) hx hb dX1_init_54 hl (k := 0) rfl (by rw [hi0]; exact iN_add _ _) (by decide) rfl (fun ls hl => ?_)
  refine lv_goto (tgt := 36) hx hb dX1_init_57 (by decide) ?_
  refine lv_iload_n hx hb dX1_init_36 rfl (lv_at hl 0 rfl) ?_
  refine ts_iconst (n := 4) hx hb dX1_init_37 ?_
  refine ts_icmp_ge (tgt := 60) hx hb (by omega) dX1_init_38 (by decide) (fun c38 => absurd c38 (by omega)) (fun c138 => ?_)
  refine lv_aload_n hx hb dX1_init_41 rfl (lv_at hl 1 rfl) ?_
  refine va_get (D := D) (ci := 1) (C := RX1) (T := TX1) (N := 9) hx hb hts inlX1 hown hK hP 0 (fs := [.ref (u1 0), .ref (u2g 0), .ref (qh), .int (iN 0), .null, .int (iN 0), .int (iN 0), .int (iN 0), .int (iN 0)]) rfl rfl 2 (by decide) (hts _ tl_RX1_19) (fun _ h9 => h9) rfl dX1_init_42 ?_
  refine lv_iload_n hx hb dX1_init_45 rfl (lv_at hl 0 rfl) ?_
  refine va_new (ci := 0) (fs := x0Z) (C := RX0) (T := TX0) (N := 14) hx hb hts inlX0 tyX0 tyX0_ok hown (hts _ (tw_in1 _ (List.mem_of_getElem? (i := 12) rfl))) (hts _ (tw_in1 _ (List.mem_of_getElem? (i := 13) rfl))) (hts _ (tw_in1 _ (List.mem_of_getElem? (i := 14) rfl))) hK hP hD hS hA rfl (fun j hj => by rcases (show j = 0 ∨ j = 1 ∨ j = 2 ∨ j = 3 ∨ j = 4 ∨ j = 5 ∨ j = 6 ∨ j = 7 ∨ j = 8 ∨ j = 9 ∨ j = 10 ∨ j = 11 ∨ j = 12 ∨ j = 13 by omega) with rfl | rfl | rfl | rfl | rfl | rfl | rfl | rfl | rfl | rfl | rfl | rfl | rfl | rfl <;> rfl) (Nat.le_of_ble_eq_true rfl) (Nat.le_of_ble_eq_true rfl) dX1_init_46 (fun qu4 H hP hD hS => ?_)
  have hP : va_P D vwCl ([(h0, .inr (1, [.ref (u1 0), .ref (u2g 0), .ref (qh), .int (iN 0), .null, .int (iN 0), .int (iN 0), .int (iN 0), .int (iN 0)]))] ++ (gmW (ci 0) u1 zGS ++ (gmW (ci 0) u2g zGS ++ ([(qh, .inl (ci 1, 4, .inr (.inr (.inr (.inr (va_up (fun _ => none) 0 (some (u3 0))))))))] ++ (gmW (ci 0) u3 zGS ++ [(qu4, .inr (0, x0Z))]))))) H := hP
  have hD : va_D A ([(h0, .inr (1, [.ref (u1 0), .ref (u2g 0), .ref (qh), .int (iN 0), .null, .int (iN 0), .int (iN 0), .int (iN 0), .int (iN 0)]))] ++ (gmW (ci 0) u1 zGS ++ (gmW (ci 0) u2g zGS ++ ([(qh, .inl (ci 1, 4, .inr (.inr (.inr (.inr (va_up (fun _ => none) 0 (some (u3 0))))))))] ++ (gmW (ci 0) u3 zGS ++ [(qu4, .inr (0, x0Z))]))))) := hD
  refine W.widen (k := 17) (n := 663) (by omega) (by omega) ?_
  refine lv_dup hx hb dX1_init_49 rfl ?_
  have hPc := hP.sub (ws' := [(qu4, .inr (0, x0Z))]) [17] rfl
  have hDc := hD.sub (ws' := [(qu4, .inr (0, x0Z))]) [17] (by decide) rfl
  have hFc := va_free (wc := [(qu4, .inr (0, x0Z))]) hD hS hA [17] rfl
  refine va_callv (va_runI (As := []) (rest := [.ref qu4, .int (iN (i0)), .ref qh]) cx (c_X0_init l D (ci 0) qu4 H.size) (cwI 0 cx.2.2.2.2 tg_RX1_9 rfl rfl rfl (hts _ (tw_in1 _ (List.mem_of_getElem? (i := 14) rfl))) (hts _ tm_RX1_9) (hts _ (tw_in1 _ (List.mem_of_getElem? (i := 22) rfl))) rfl (by decide +kernel) ⟨Nat.le_of_ble_eq_true rfl, Nat.le_of_ble_eq_true rfl⟩) ⟨fun a U gf mk q => by obtain ⟨q0, q1, qP, qK, qD⟩ := q; exact ⟨q0, q1, qP, va_K.moved (u := U) (U := U.calling gf mk a) (Vm.Alike.refl U.vm) qK, qD⟩, fun U hU hW => ⟨rfl, by rw [hU], by rw [hU]; exact hPc, va_K.moved hW.alike (hK.sub (tys' := [(ci 0, .int)]) [0] rfl), hDc.weaken (fun _ _ _ _ => trivial)⟩⟩ rfl rfl hl.1 rfl (lv_room (Nat.le_of_ble_eq_true rfl)) dX1_init_50 ⟨Nat.le_of_ble_eq_true rfl, Nat.le_of_ble_eq_true rfl⟩) hS (fun q _ h => hFc q h) hFc (fun u4 t H1 locs ht hvm hu hB hz1 hk1 hS => ?_)
  obtain ⟨hP1, hD1⟩ := hB
  rw [ht] at hP1
  obtain ⟨hPju4, hDju4⟩ := va_join (wr := [(h0, .inr (1, [.ref (u1 0), .ref (u2g 0), .ref (qh), .int (iN 0), .null, .int (iN 0), .int (iN 0), .int (iN 0), .int (iN 0)]))] ++ (gmW (ci 0) u1 zGS ++ (gmW (ci 0) u2g zGS ++ ([(qh, .inl (ci 1, 4, .inr (.inr (.inr (.inr (va_up (fun _ => none) 0 (some (u3 0))))))))] ++ gmW (ci 0) u3 zGS)))) (w1 := gmW (ci 0) u4 zGS) hP hD [17] [0, 1, 2, 3, 4, 5, 6, 7, 8, 9, 10, 11, 12, 13, 14, 15, 16] rfl rfl (by decide) (by decide) hk1 hFc hP1 hD1
  generalize H1 = H at hPju4 hS ⊢
  subst hu
  have hP := hPju4
  have hD := hDju4
  have hP : va_P D vwCl ([(h0, .inr (1, [.ref (u1 0), .ref (u2g 0), .ref (qh), .int (iN 0), .null, .int (iN 0), .int (iN 0), .int (iN 0), .int (iN 0)]))] ++ (gmW (ci 0) u1 zGS ++ (gmW (ci 0) u2g zGS ++ ([(qh, .inl (ci 1, 4, .inr (.inr (.inr (.inr (va_up (fun _ => none) 0 (some (u3 0))))))))] ++ (gmW (ci 0) u3 zGS ++ gmW (ci 0) u4 zGS))))) H := hP
  have hD : va_D A ([(h0, .inr (1, [.ref (u1 0), .ref (u2g 0), .ref (qh), .int (iN 0), .null, .int (iN 0), .int (iN 0), .int (iN 0), .int (iN 0)]))] ++ (gmW (ci 0) u1 zGS ++ (gmW (ci 0) u2g zGS ++ ([(qh, .inl (ci 1, 4, .inr (.inr (.inr (.inr (va_up (fun _ => none) 0 (some (u3 0))))))))] ++ (gmW (ci 0) u3 zGS ++ gmW (ci 0) u4 zGS))))) := hD
  refine W.widen (k := 21) (n := 864) (by omega) (by omega) ?_
  have hik : (iN (i0)).toNatClampNeg = 1 := iN_k (k := 1) (n := 5) (by omega) (by omega) (by omega)
  refine va_astq (D := D) hx hb hK hP hD hS 11 1 17 0 (cA := ci 1) (r := (RX0, TX0, 14)) (n := 4) (f := va_up (fun _ => none) 0 (some (u3 0))) rfl rfl (vs := gmF u4 zGS) rfl rfl (iN_in (k := 1) (by omega) (by omega) (by omega)) dX1_init_53 (fun H locs hP hD hS => ?_)
  rw [hik] at hP hD
  have hP : va_P D vwCl ([(h0, .inr (1, [.ref (u1 0), .ref (u2g 0), .ref (qh), .int (iN 0), .null, .int (iN 0), .int (iN 0), .int (iN 0), .int (iN 0)]))] ++ (gmW (ci 0) u1 zGS ++ (gmW (ci 0) u2g zGS ++ ([(qh, .inl (ci 1, 4, .inr (.inr (.inr (.inr (va_up (va_up (fun _ => none) 0 (some (u3 0))) 1 (some (u4 0))))))))] ++ (gmW (ci 0) u3 zGS ++ gmW (ci 0) u4 zGS))))) H := hP
  have hD : va_D A ([(h0, .inr (1, [.ref (u1 0), .ref (u2g 0), .ref (qh), .int (iN 0), .null, .int (iN 0), .int (iN 0), .int (iN 0), .int (iN 0)]))] ++ (gmW (ci 0) u1 zGS ++ (gmW (ci 0) u2g zGS ++ ([(qh, .inl (ci 1, 4, .inr (.inr (.inr (.inr (va_up (va_up (fun _ => none) 0 (some (u3 0))) 1 (some (u4 0))))))))] ++ (gmW (ci 0) u3 zGS ++ gmW (ci 0) u4 zGS))))) := hD
  obtain ⟨i1, hi1⟩ : ∃ z : Int, z = i0 + 1 := ⟨_, rfl⟩
  refine lv_iinc (v := iN i1) (lv' := [(1, .int (iN i1)), (0, .ref h0)]) hx hb dX1_init_54 hl (k := 0) rfl (by rw [hi1]; exact iN_add _ _) (by decide) rfl (fun ls hl => ?_)
  refine lv_goto (tgt := 36) hx hb dX1_init_57 (by decide) ?_
  refine lv_iload_n hx hb dX1_init_36 rfl (lv_at hl 0 rfl) ?_
  refine ts_iconst (n := 4) hx hb dX1_init_37 ?_
  refine ts_icmp_ge (tgt := 60) hx hb (by omega) dX1_init_38 (by decide) (fun c38 => absurd c38 (by omega)) (fun c238 => ?_)
  refine lv_aload_n hx hb dX1_init_41 rfl (lv_at hl 1 rfl) ?_
  refine va_get (D := D) (ci := 1) (C := RX1) (T := TX1) (N := 9) hx hb hts inlX1 hown hK hP 0 (fs := [.ref (u1 0), .ref (u2g 0), .ref (qh), .int (iN 0), .null, .int (iN 0), .int (iN 0), .int (iN 0), .int (iN 0)]) rfl rfl 2 (by decide) (hts _ tl_RX1_19) (fun _ h9 => h9) rfl dX1_init_42 ?_
  refine lv_iload_n hx hb dX1_init_45 rfl (lv_at hl 0 rfl) ?_
  refine va_new (ci := 0) (fs := x0Z) (C := RX0) (T := TX0) (N := 14) hx hb hts inlX0 tyX0 tyX0_ok hown (hts _ (tw_in1 _ (List.mem_of_getElem? (i := 12) rfl))) (hts _ (tw_in1 _ (List.mem_of_getElem? (i := 13) rfl))) (hts _ (tw_in1 _ (List.mem_of_getElem? (i := 14) rfl))) hK hP hD hS hA rfl (fun j hj => by rcases (show j = 0 ∨ j = 1 ∨ j = 2 ∨ j = 3 ∨ j = 4 ∨ j = 5 ∨ j = 6 ∨ j = 7 ∨ j = 8 ∨ j = 9 ∨ j = 10 ∨ j = 11 ∨ j = 12 ∨ j = 13 by omega) with rfl | rfl | rfl | rfl | rfl | rfl | rfl | rfl | rfl | rfl | rfl | rfl | rfl | rfl <;> rfl) (Nat.le_of_ble_eq_true rfl) (Nat.le_of_ble_eq_true rfl) dX1_init_46 (fun qu5 H hP hD hS => ?_)
  have hP : va_P D vwCl ([(h0, .inr (1, [.ref (u1 0), .ref (u2g 0), .ref (qh), .int (iN 0), .null, .int (iN 0), .int (iN 0), .int (iN 0), .int (iN 0)]))] ++ (gmW (ci 0) u1 zGS ++ (gmW (ci 0) u2g zGS ++ ([(qh, .inl (ci 1, 4, .inr (.inr (.inr (.inr (va_up (va_up (fun _ => none) 0 (some (u3 0))) 1 (some (u4 0))))))))] ++ (gmW (ci 0) u3 zGS ++ (gmW (ci 0) u4 zGS ++ [(qu5, .inr (0, x0Z))])))))) H := hP
  have hD : va_D A ([(h0, .inr (1, [.ref (u1 0), .ref (u2g 0), .ref (qh), .int (iN 0), .null, .int (iN 0), .int (iN 0), .int (iN 0), .int (iN 0)]))] ++ (gmW (ci 0) u1 zGS ++ (gmW (ci 0) u2g zGS ++ ([(qh, .inl (ci 1, 4, .inr (.inr (.inr (.inr (va_up (va_up (fun _ => none) 0 (some (u3 0))) 1 (some (u4 0))))))))] ++ (gmW (ci 0) u3 zGS ++ (gmW (ci 0) u4 zGS ++ [(qu5, .inr (0, x0Z))])))))) := hD
  refine W.widen (k := 22) (n := 878) (by omega) (by omega) ?_
  refine lv_dup hx hb dX1_init_49 rfl ?_
  have hPc := hP.sub (ws' := [(qu5, .inr (0, x0Z))]) [22] rfl
  have hDc := hD.sub (ws' := [(qu5, .inr (0, x0Z))]) [22] (by decide) rfl
  have hFc := va_free (wc := [(qu5, .inr (0, x0Z))]) hD hS hA [22] rfl
  refine va_callv (va_runI (As := []) (rest := [.ref qu5, .int (iN (i1)), .ref qh]) cx (c_X0_init l D (ci 0) qu5 H.size) (cwI 0 cx.2.2.2.2 tg_RX1_9 rfl rfl rfl (hts _ (tw_in1 _ (List.mem_of_getElem? (i := 14) rfl))) (hts _ tm_RX1_9) (hts _ (tw_in1 _ (List.mem_of_getElem? (i := 22) rfl))) rfl (by decide +kernel) ⟨Nat.le_of_ble_eq_true rfl, Nat.le_of_ble_eq_true rfl⟩) ⟨fun a U gf mk q => by obtain ⟨q0, q1, qP, qK, qD⟩ := q; exact ⟨q0, q1, qP, va_K.moved (u := U) (U := U.calling gf mk a) (Vm.Alike.refl U.vm) qK, qD⟩, fun U hU hW => ⟨rfl, by rw [hU], by rw [hU]; exact hPc, va_K.moved hW.alike (hK.sub (tys' := [(ci 0, .int)]) [0] rfl), hDc.weaken (fun _ _ _ _ => trivial)⟩⟩ rfl rfl hl.1 rfl (lv_room (Nat.le_of_ble_eq_true rfl)) dX1_init_50 ⟨Nat.le_of_ble_eq_true rfl, Nat.le_of_ble_eq_true rfl⟩) hS (fun q _ h => hFc q h) hFc (fun u5 t H1 locs ht hvm hu hB hz1 hk1 hS => ?_)
  obtain ⟨hP1, hD1⟩ := hB
  rw [ht] at hP1
  obtain ⟨hPju5, hDju5⟩ := va_join (wr := [(h0, .inr (1, [.ref (u1 0), .ref (u2g 0), .ref (qh), .int (iN 0), .null, .int (iN 0), .int (iN 0), .int (iN 0), .int (iN 0)]))] ++ (gmW (ci 0) u1 zGS ++ (gmW (ci 0) u2g zGS ++ ([(qh, .inl (ci 1, 4, .inr (.inr (.inr (.inr (va_up (va_up (fun _ => none) 0 (some (u3 0))) 1 (some (u4 0))))))))] ++ (gmW (ci 0) u3 zGS ++ gmW (ci 0) u4 zGS))))) (w1 := gmW (ci 0) u5 zGS) hP hD [22] [0, 1, 2, 3, 4, 5, 6, 7, 8, 9, 10, 11, 12, 13, 14, 15, 16, 17, 18, 19, 20, 21] rfl rfl (by decide) (by decide) hk1 hFc hP1 hD1
  generalize H1 = H at hPju5 hS ⊢
  subst hu
  have hP := hPju5
  have hD := hDju5
  have hP : va_P D vwCl ([(h0, .inr (1, [.ref (u1 0), .ref (u2g 0), .ref (qh), .int (iN 0), .null, .int (iN 0), .int (iN 0), .int (iN 0), .int (iN 0)]))] ++ (gmW (ci 0) u1 zGS ++ (gmW (ci 0) u2g zGS ++ ([(qh, .inl (ci 1, 4, .inr (.inr (.inr (.inr (va_up (va_up (fun _ => none) 0 (some (u3 0))) 1 (some (u4 0))))))))] ++ (gmW (ci 0) u3 zGS ++ (gmW (ci 0) u4 zGS ++ gmW (ci 0) u5 zGS)))))) H := hP
  have hD : va_D A ([(h0, .inr (1, [.ref (u1 0), .ref (u2g 0), .ref (qh), .int (iN 0), .null, .int (iN 0), .int (iN 0), .int (iN 0), .int (iN 0)]))] ++ (gmW (ci 0) u1 zGS ++ (gmW (ci 0) u2g zGS ++ ([(qh, .inl (ci 1, 4, .inr (.inr (.inr (.inr (va_up (va_up (fun _ => none) 0 (some (u3 0))) 1 (some (u4 0))))))))] ++ (gmW (ci 0) u3 zGS ++ (gmW (ci 0) u4 zGS ++ gmW (ci 0) u5 zGS)))))) := hD
  refine W.widen (k := 26) (n := 1079) (by omega) (by omega) ?_
  have hik : (iN (i1)).toNatClampNeg = 2 := iN_k (k := 2) (n := 5) (by omega) (by omega) (by omega)
  refine va_astq (D := D) hx hb hK hP hD hS 11 1 22 0 (cA := ci 1) (r := (RX0, TX0, 14)) (n := 4) (f := va_up (va_up (fun _ => none) 0 (some (u3 0))) 1 (some (u4 0))) rfl rfl (vs := gmF u5 zGS) rfl rfl (iN_in (k := 2) (by omega) (by omega) (by omega)) dX1_init_53 (fun H locs hP hD hS => ?_)
  rw [hik] at hP hD
  have hP : va_P D vwCl ([(h0, .inr (1, [.ref (u1 0), .ref (u2g 0), .ref (qh), .int (iN 0), .null, .int (iN 0), .int (iN 0), .int (iN 0), .int (iN 0)]))] ++ (gmW (ci 0) u1 zGS ++ (gmW (ci 0) u2g zGS ++ ([(qh, .inl (ci 1, 4, .inr (.inr (.inr (.inr (va_up (va_up (va_up (fun _ => none) 0 (some (u3 0))) 1 (some (u4 0))) 2 (some (u5 0))))))))] ++ (gmW (ci 0) u3 zGS ++ (gmW (ci 0) u4 zGS ++ gmW (ci 0) u5 zGS)))))) H := hP
  have hD : va_D A ([(h0, .inr (1, [.ref (u1 0), .ref (u2g 0), .ref (qh), .int (iN 0), .null, .int (iN 0), .int (iN 0), .int (iN 0), .int (iN 0)]))] ++ (gmW (ci 0) u1 zGS ++ (gmW (ci 0) u2g zGS ++ ([(qh, .inl (ci 1, 4, .inr (.inr (.inr (.inr (va_up (va_up (va_up (fun _ => none) 0 (some (u3 0))) 1 (some (u4 0))) 2 (some (u5 0))))))))] ++ (gmW (ci 0) u3 zGS ++ (gmW (ci 0) u4 zGS ++ gmW (ci 0) u5 zGS)))))) := hD
  obtain ⟨i2, hi2⟩ : ∃ z : Int, z = i1 + 1 := ⟨_, rfl⟩
  refine lv_iinc (v := iN i2) (lv' := [(1, .int (iN i2)), (0, .ref h0)]) hx hb dX1_init_54 hl (k := 0) rfl (by rw [hi2]; exact iN_add _ _) (by decide) rfl (fun ls hl => ?_)
  refine lv_goto (tgt := 36) hx hb dX1_init_57 (by decide) ?_
  refine lv_iload_n hx hb dX1_init_36 rfl (lv_at hl 0 rfl) ?_
  refine ts_iconst (n := 4) hx hb dX1_init_37 ?_
  refine ts_icmp_ge (tgt := 60) hx hb (by omega) dX1_init_38 (by decide) (fun c38 => absurd c38 (by omega)) (fun c338 => ?_)
  refine lv_aload_n hx hb dX1_init_41 rfl (lv_at hl 1 rfl) ?_
  refine va_get (D := D) (ci := 1) (C := RX1) (T := TX1) (N := 9) hx hb hts inlX1 hown hK hP 0 (fs := [.ref (u1 0), .ref (u2g 0), .ref (qh), .int (iN 0), .null, .int (iN 0), .int (iN 0), .int (iN 0), .int (iN 0)]) rfl rfl 2 (by decide) (hts _ tl_RX1_19) (fun _ h9 => h9) rfl dX1_init_42 ?_
  refine lv_iload_n hx hb dX1_init_45 rfl (lv_at hl 0 rfl) ?_
  refine va_new (ci := 0) (fs := x0Z) (C := RX0) (T := TX0) (N := 14) hx hb hts inlX0 tyX0 tyX0_ok hown (hts _ (tw_in1 _ (List.mem_of_getElem? (i := 12) rfl))) (hts _ (tw_in1 _ (List.mem_of_getElem? (i := 13) rfl))) (hts _ (tw_in1 _ (List.mem_of_getElem? (i := 14) rfl))) hK hP hD hS hA rfl (fun j hj => by rcases (show j = 0 ∨ j = 1 ∨ j = 2 ∨ j = 3 ∨ j = 4 ∨ j = 5 ∨ j = 6 ∨ j = 7 ∨ j = 8 ∨ j = 9 ∨ j = 10 ∨ j = 11 ∨ j = 12 ∨ j = 13 by omega) with rfl | rfl | rfl | rfl | rfl | rfl | rfl | rfl | rfl | rfl | rfl | rfl | rfl | rfl <;> rfl) (Nat.le_of_ble_eq_true rfl) (Nat.le_of_ble_eq_true rfl) dX1_init_46 (fun qu6 H hP hD hS => ?_)
  have hP : va_P D vwCl ([(h0, .inr (1, [.ref (u1 0), .ref (u2g 0), .ref (qh), .int (iN 0), .null, .int (iN 0), .int (iN 0), .int (iN 0), .int (iN 0)]))] ++ (gmW (ci 0) u1 zGS ++ (gmW (ci 0) u2g zGS ++ ([(qh, .inl (ci 1, 4, .inr (.inr (.inr (.inr (va_up (va_up (va_up (fun _ => none) 0 (some (u3 0))) 1 (some (u4 0))) 2 (some (u5 0))))))))] ++ (gmW (ci 0) u3 zGS ++ (gmW (ci 0) u4 zGS ++ (gmW (ci 0) u5 zGS ++ [(qu6, .inr (0, x0Z))]))))))) H := hP
  have hD : va_D A ([(h0, .inr (1, [.ref (u1 0), .ref (u2g 0), .ref (qh), .int (iN 0), .null, .int (iN 0), .int (iN 0), .int (iN 0), .int (iN 0)]))] ++ (gmW (ci 0) u1 zGS ++ (gmW (ci 0) u2g zGS ++ ([(qh, .inl (ci 1, 4, .inr (.inr (.inr (.inr (va_up (va_up (va_up (fun _ => none) 0 (some (u3 0))) 1 (some (u4 0))) 2 (some (u5 0))))))))] ++ (gmW (ci 0) u3 zGS ++ (gmW (ci 0) u4 zGS ++ (gmW (ci 0) u5 zGS ++ [(qu6, .inr (0, x0Z))]))))))) := hD
  refine W.widen (k := 27) (n := 1093) (by omega) (by omega) ?_
  refine lv_dup hx hb dX1_init_49 rfl ?_
  have hPc := hP.sub (ws' := [(qu6, .inr (0, x0Z))]) [27] rfl
  have hDc := hD.sub (ws' := [(qu6, .inr (0, x0Z))]) [27] (by decide) rfl
  have hFc := va_free (wc := [(qu6, .inr (0, x0Z))]) hD hS hA [27] rfl
  refine va_callv (va_runI (As := []) (rest := [.ref qu6, .int (iN (i2)), .ref qh]) cx (c_X0_init l D (ci 0) qu6 H.size) (cwI 0 cx.2.2.2.2 tg_RX1_9 rfl rfl rfl (hts _ (tw_in1 _ (List.mem_of_getElem? (i := 14) rfl))) (hts _ tm_RX1_9) (hts _ (tw_in1 _ (List.mem_of_getElem? (i := 22) rfl))) rfl (by decide +kernel) ⟨Nat.le_of_ble_eq_true rfl, Nat.le_of_ble_eq_true rfl⟩) ⟨fun a U gf mk q => by obtain ⟨q0, q1, qP, qK, qD⟩ := q; exact ⟨q0, q1, qP, va_K.moved (u := U) (U := U.calling gf mk a) (Vm.Alike.refl U.vm) qK, qD⟩, fun U hU hW => ⟨rfl, by rw [hU], by rw [hU]; exact hPc, va_K.moved hW.alike (hK.sub (tys' := [(ci 0, .int)]) [0] rfl), hDc.weaken (fun _ _ _ _ => trivial)⟩⟩ rfl rfl hl.1 rfl (lv_room (Nat.le_of_ble_eq_true rfl)) dX1_init_50 ⟨Nat.le_of_ble_eq_true rfl, Nat.le_of_ble_eq_true rfl⟩) hS (fun q _ h => hFc q h) hFc (fun u6 t H1 locs ht hvm hu hB hz1 hk1 hS => ?_)
  obtain ⟨hP1, hD1⟩ := hB
  rw [ht] at hP1
  obtain ⟨hPju6, hDju6⟩ := va_join (wr := [(h0, .inr (1, [.ref (u1 0), .ref (u2g 0), .ref (qh), .int (iN 0), .null, .int (iN 0), .int (iN 0), .int (iN 0), .int (iN 0)]))] ++ (gmW (ci 0) u1 zGS ++ (gmW (ci 0) u2g zGS ++ ([(qh, .inl (ci 1, 4, .inr (.inr (.inr (.inr (va_up (va_up (va_up (fun _ => none) 0 (some (u3 0))) 1 (some (u4 0))) 2 (some (u5 0))))))))] ++ (gmW (ci 0) u3 zGS ++ (gmW (ci 0) u4 zGS ++ gmW (ci 0) u5 zGS)))))) (w1 := gmW (ci 0) u6 zGS) hP hD [27] [0, 1, 2, 3, 4, 5, 6, 7, 8, 9, 10, 11, 12, 13, 14, 15, 16, 17, 18, 19, 20, 21, 22, 23, 24, 25, 26] rfl rfl (by decide) (by decide) hk1 hFc hP1 hD1
  generalize H1 = H at hPju6 hS ⊢
  subst hu
  have hP := hPju6
  have hD := hDju6
  have hP : va_P D vwCl ([(h0, .inr (1, [.ref (u1 0), .ref (u2g 0), .ref (qh), .int (iN 0), .null, .int (iN 0), .int (iN 0), .int (iN 0), .int (iN 0)]))] ++ (gmW (ci 0) u1 zGS ++ (gmW (ci 0) u2g zGS ++ ([(qh, .inl (ci 1, 4, .inr (.inr (.inr (.inr (va_up (va_up (va_up (fun _ => none) 0 (some (u3 0))) 1 (some (u4 0))) 2 (some (u5 0))))))))] ++ (gmW (ci 0) u3 zGS ++ (gmW (ci 0) u4 zGS ++ (gmW (ci 0) u5 zGS ++ gmW (ci 0) u6 zGS))))))) H := hP
  have hD : va_D A ([(h0, .inr (1, [.ref (u1 0), .ref (u2g 0), .ref (qh), .int (iN 0), .null, .int (iN 0), .int (iN 0), .int (iN 0), .int (iN 0)]))] ++ (gmW (ci 0) u1 zGS ++ (gmW (ci 0) u2g zGS ++ ([(qh, .inl (ci 1, 4, .inr (.inr (.inr (.inr (va_up (va_up (va_up (fun _ => none) 0 (some (u3 0))) 1 (some (u4 0))) 2 (some (u5 0))))))))] ++ (gmW (ci 0) u3 zGS ++ (gmW (ci 0) u4 zGS ++ (gmW (ci 0) u5 zGS ++ gmW (ci 0) u6 zGS))))))) := hD
  refine W.widen (k := 31) (n := 1294) (by omega) (by omega) ?_
  have hik : (iN (i2)).toNatClampNeg = 3 := iN_k (k := 3) (n := 5) (by omega) (by omega) (by omega)
  refine va_astq (D := D) hx hb hK hP hD hS 11 1 27 0 (cA := ci 1) (r := (RX0, TX0, 14)) (n := 4) (f := va_up (va_up (va_up (fun _ => none) 0 (some (u3 0))) 1 (some (u4 0))) 2 (some (u5 0))) rfl rfl (vs := gmF u6 zGS) rfl rfl (iN_in (k := 3) (by omega) (by omega) (by omega)) dX1_init_53 (fun H locs hP hD hS => ?_)
  rw [hik] at hP hD
  have hP : va_P D vwCl ([(h0, .inr (1, [.ref (u1 0), .ref (u2g 0), .ref (qh), .int (iN 0), .null, .int (iN 0), .int (iN 0), .int (iN 0), .int (iN 0)]))] ++ (gmW (ci 0) u1 zGS ++ (gmW (ci 0) u2g zGS ++ ([(qh, .inl (ci 1, 4, .inr (.inr (.inr (.inr (va_up (va_up (va_up (va_up (fun _ => none) 0 (some (u3 0))) 1 (some (u4 0))) 2 (some (u5 0))) 3 (some (u6 0))))))))] ++ (gmW (ci 0) u3 zGS ++ (gmW (ci 0) u4 zGS ++ (gmW (ci 0) u5 zGS ++ gmW (ci 0) u6 zGS))))))) H := hP
  have hD : va_D A ([(h0, .inr (1, [.ref (u1 0), .ref (u2g 0), .ref (qh), .int (iN 0), .null, .int (iN 0), .int (iN 0), .int (iN 0), .int (iN 0)]))] ++ (gmW (ci 0) u1 zGS ++ (gmW (ci 0) u2g zGS ++ ([(qh, .inl (ci 1, 4, .inr (.inr (.inr (.inr (va_up (va_up (va_up (va_up (fun _ => none) 0 (some (u3 0))) 1 (some (u4 0))) 2 (some (u5 0))) 3 (some (u6 0))))))))] ++ (gmW (ci 0) u3 zGS ++ (gmW (ci 0) u4 zGS ++ (gmW (ci 0) u5 zGS ++ gmW (ci 0) u6 zGS))))))) := hD
  obtain ⟨i3, hi3⟩ : ∃ z : Int, z = i2 + 1 := ⟨_, rfl⟩
  refine lv_iinc (v := iN i3) (lv' := [(1, .int (iN i3)), (0, .ref h0)]) hx hb dX1_init_54 hl (k := 0) rfl (by rw [hi3]; exact iN_add _ _) (by decide) rfl (fun ls hl => ?_)
  refine lv_goto (tgt := 36) hx hb dX1_init_57 (by decide) ?_
  refine lv_iload_n hx hb dX1_init_36 rfl (lv_at hl 0 rfl) ?_
  refine ts_iconst (n := 4) hx hb dX1_init_37 ?_
  refine ts_icmp_ge (tgt := 60) hx hb (by omega) dX1_init_38 (by decide) (fun c38 => ?_) (fun c38 => absurd c38 (by omega))
  refine lv_aload_n hx hb dX1_init_60 rfl (lv_at hl 1 rfl) ?_
  refine ts_bipush (n := 60) hx hb dX1_init_61 (by decide) ?_
  refine va_newa (atype := .char) (ty := .char) (a0 := (60, .inl (fun _ => iN 0))) (N' := 60) hx hb (hts _ (tw_in1 _ (List.mem_of_getElem? (i := 18) rfl))) rfl hK hP hD hS hA (fun _ => rfl) (by rw [← iN_z, iN_lt (by omega) (by omega)]; omega) (iN_k (k := 60) (n := 61) rfl (by omega) (by omega)) (Nat.le_of_ble_eq_true rfl) (Nat.le_of_ble_eq_true rfl) (Nat.le_of_ble_eq_true rfl) dX1_init_63 (fun qt ct H hKt hP hD hS => ?_)
  have hct : ct = ci 2 := K_onec (i := 2) (j := 3) hKt rfl rfl
  rw [hct] at hP hD
  have hP : va_P D vwCl ([(h0, .inr (1, [.ref (u1 0), .ref (u2g 0), .ref (qh), .int (iN 0), .null, .int (iN 0), .int (iN 0), .int (iN 0), .int (iN 0)]))] ++ (gmW (ci 0) u1 zGS ++ (gmW (ci 0) u2g zGS ++ ([(qh, .inl (ci 1, 4, .inr (.inr (.inr (.inr (va_up (va_up (va_up (va_up (fun _ => none) 0 (some (u3 0))) 1 (some (u4 0))) 2 (some (u5 0))) 3 (some (u6 0))))))))] ++ (gmW (ci 0) u3 zGS ++ (gmW (ci 0) u4 zGS ++ (gmW (ci 0) u5 zGS ++ (gmW (ci 0) u6 zGS ++ [(qt, .inl (ci 2, 60, .inl (fun _ => iN 0)))])))))))) H := hP
  have hD : va_D A ([(h0, .inr (1, [.ref (u1 0), .ref (u2g 0), .ref (qh), .int (iN 0), .null, .int (iN 0), .int (iN 0), .int (iN 0), .int (iN 0)]))] ++ (gmW (ci 0) u1 zGS ++ (gmW (ci 0) u2g zGS ++ ([(qh, .inl (ci 1, 4, .inr (.inr (.inr (.inr (va_up (va_up (va_up (va_up (fun _ => none) 0 (some (u3 0))) 1 (some (u4 0))) 2 (some (u5 0))) 3 (some (u6 0))))))))] ++ (gmW (ci 0) u3 zGS ++ (gmW (ci 0) u4 zGS ++ (gmW (ci 0) u5 zGS ++ (gmW (ci 0) u6 zGS ++ [(qt, .inl (ci 2, 60, .inl (fun _ => iN 0)))])))))))) := hD
  refine W.widen (k := 32) (n := 1354) (by omega) (by omega) ?_
  refine va_putF (D := D) (ci := 1) (v := .ref (qt)) (ty := .array .char) (C := RX1) (T := TX1) (N := 9) hx hb hts inlX1 tyX1 tyX1_ok nmX1 hown hK hP hD hS 0 rfl rfl 4 (by decide) (hts _ tl_RX1_23) (fun _ h9 => h9) rfl hin rfl (by decide +kernel) rfl rfl (Nat.le_of_ble_eq_true rfl) dX1_init_65 (fun H locs hP hD hS => ?_)
  have hP : va_P D vwCl ([(h0, .inr (1, [.ref (u1 0), .ref (u2g 0), .ref (qh), .int (iN 0), .ref (qt), .int (iN 0), .int (iN 0), .int (iN 0), .int (iN 0)]))] ++ (gmW (ci 0) u1 zGS ++ (gmW (ci 0) u2g zGS ++ ([(qh, .inl (ci 1, 4, .inr (.inr (.inr (.inr (va_up (va_up (va_up (va_up (fun _ => none) 0 (some (u3 0))) 1 (some (u4 0))) 2 (some (u5 0))) 3 (some (u6 0))))))))] ++ (gmW (ci 0) u3 zGS ++ (gmW (ci 0) u4 zGS ++ (gmW (ci 0) u5 zGS ++ (gmW (ci 0) u6 zGS ++ [(qt, .inl (ci 2, 60, .inl (fun _ => iN 0)))])))))))) H := hP
  have hD : va_D A ([(h0, .inr (1, [.ref (u1 0), .ref (u2g 0), .ref (qh), .int (iN 0), .ref (qt), .int (iN 0), .int (iN 0), .int (iN 0), .int (iN 0)]))] ++ (gmW (ci 0) u1 zGS ++ (gmW (ci 0) u2g zGS ++ ([(qh, .inl (ci 1, 4, .inr (.inr (.inr (.inr (va_up (va_up (va_up (va_up (fun _ => none) 0 (some (u3 0))) 1 (some (u4 0))) 2 (some (u5 0))) 3 (some (u6 0))))))))] ++ (gmW (ci 0) u3 zGS ++ (gmW (ci 0) u4 zGS ++ (gmW (ci 0) u5 zGS ++ (gmW (ci 0) u6 zGS ++ [(qt, .inl (ci 2, 60, .inl (fun _ => iN 0)))])))))))) := hD
  obtain ⟨ga, hga⟩ : ∃ ga : GA, ga = gaD u1 u2g u3 u4 u5 u6 := ⟨_, rfl⟩
  obtain ⟨ad, had⟩ : ∃ ad : Nat → Nat, ad = ad3 h0 qh qt := ⟨_, rfl⟩
  have hP2 := hP.sub (ws' := [(h0, .inr (1, [.ref (u1 0), .ref (u2g 0), .ref (qh), .int (iN 0), .ref (qt), .int (iN 0), .int (iN 0), .int (iN 0), .int (iN 0)])), (qh, .inl (ci 1, 4, .inr (.inr (.inr (.inr (va_up (va_up (va_up (va_up (fun _ => none) 0 (some (u3 0))) 1 (some (u4 0))) 2 (some (u5 0))) 3 (some (u6 0)))))))), (qt, .inl (ci 2, 60, .inl (fun _ => iN 0)))] ++ xgW (ci 0) (gaD u1 u2g u3 u4 u5 u6) (fun _ => zGS)) [0, 11, 32, 1, 2, 3, 4, 5, 6, 7, 8, 9, 10, 12, 13, 14, 15, 16, 17, 18, 19, 20, 21, 22, 23, 24, 25, 26, 27, 28, 29, 30, 31] rfl
  have hD2 := hD.sub (ws' := [(h0, .inr (1, [.ref (u1 0), .ref (u2g 0), .ref (qh), .int (iN 0), .ref (qt), .int (iN 0), .int (iN 0), .int (iN 0), .int (iN 0)])), (qh, .inl (ci 1, 4, .inr (.inr (.inr (.inr (va_up (va_up (va_up (va_up (fun _ => none) 0 (some (u3 0))) 1 (some (u4 0))) 2 (some (u5 0))) 3 (some (u6 0)))))))), (qt, .inl (ci 2, 60, .inl (fun _ => iN 0)))] ++ xgW (ci 0) (gaD u1 u2g u3 u4 u5 u6) (fun _ => zGS)) [0, 11, 32, 1, 2, 3, 4, 5, 6, 7, 8, 9, 10, 12, 13, 14, 15, 16, 17, 18, 19, 20, 21, 22, 23, 24, 25, 26, 27, 28, 29, 30, 31] (by decide) rfl
  have hh : ∀ j : Nat, j < 4 → (va_up (va_up (va_up (va_up (fun _ => none) 0 (some (u3 0))) 1 (some (u4 0))) 2 (some (u5 0))) 3 (some (u6 0))) j = some (rh (gaD u1 u2g u3 u4 u5 u6) j) := fun j hj => by rcases (show j = 0 ∨ j = 1 ∨ j = 2 ∨ j = 3 by omega) with rfl | rfl | rfl | rfl <;> rfl
  have hP3 := P_hist hP2 (k := 1) rfl hh
  have hD3 := hD2.set (p := 1) (e := .inl (ci 1, 4, .inr (.inr (.inr (.inr (fun j => some (rh (gaD u1 u2g u3 u4 u5 u6) j))))))) (a := qh) rfl
  have hw : xmB D A s ci (ad3 h0 qh qt) (gaD u1 u2g u3 u4 u5 u6) (fun _ => zGS) H locs := ⟨hP3, hD3, hS⟩
  have ha0 : ad3 h0 qh qt 0 = h0 := rfl
  rw [← had, ← hga] at hw
  rw [← had] at ha0
  have hl : lv_has ls 2 [(0, .ref (ad 0))] := by rw [ha0]; exact lv_sub hl [1] rfl
  refine lv_aload_n hx hb dX1_init_68 rfl (lv_at hl 0 rfl) ?_
  refine xp_get0 cx hK hw tl_RX1_10 dX1_init_69 ?_
  refine ts_iconst (n := 1) hx hb dX1_init_72 ?_
  refine xp_set0 cx hK hw tl_RX1_27 dX1_init_73 (fun g73 H locs hg73 hw => ?_)
  refine lv_aload_n hx hb dX1_init_76 rfl (lv_at hl 0 rfl) ?_
  refine xp_get0 cx hK hw tl_RX1_10 dX1_init_77 ?_
  refine ts_iconst (n := 2) hx hb dX1_init_80 ?_
  refine xg_calli (rest := []) cx hK hT hA hw hl 0 (by decide) (c_X0_startGame l 2 (g73 0) (scI, fun _ _ => []) (by rw [hg73, ux_s]; exact RX_zero) (by omega)) tg_RX1_31 ⟨rfl, rfl⟩ 1 rfl (by decide +kernel) ⟨Nat.le_of_ble_eq_true rfl, Nat.le_of_ble_eq_true rfl⟩ ⟨Nat.le_of_ble_eq_true rfl, Nat.le_of_ble_eq_true rfl⟩ (Nat.le_of_ble_eq_true rfl) dX1_init_81 rfl (fun z81 y81 H locs hq81 hw => ?_)
  refine lv_pop hx hb dX1_init_84 rfl ?_
  have h6 : ux g73 0 y81 6 = zGS := by rw [ux_n _ _ (by decide), hg73, ux_n _ _ (by decide)]
  have hF : FX (ux g73 0 y81) T00 := by
    refine ⟨by rw [ux_s]; exact hq81.2, by rw [h6]; rfl, fun b hb => absurd hb (Nat.not_lt_zero b), by rw [h6]; rfl, fun j hj => absurd hj (Nat.not_lt_zero j)⟩
  exact W.vret hx hb hr (fun t ht hW => ⟨⟨(ad, ga, ux g73 0 y81), rfl, ⟨ha0, hF⟩, by rw [ht]; exact hw.1, hw.2.1⟩, hw.2.2.F ht⟩) hw.2.2.2.2 dX1_init_85 hlocks
