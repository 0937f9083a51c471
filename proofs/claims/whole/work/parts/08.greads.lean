theorem tc_RX0 : tcW RX0 24 := ⟨tw_in2 _ (List.mem_of_getElem? (i := 16) rfl), tw_in2 _ (List.mem_of_getElem? (i := 17) rfl), tw_in2 _ (List.mem_of_getElem? (i := 18) rfl), tw_in2 _ (List.mem_of_getElem? (i := 19) rfl)⟩
set_option maxHeartbeats 4000000 in
set_option maxRecDepth 100000 in
theorem c_X0_kindAt (l : Launch) (i : Int) (g : GS) (hib : -2147483648 ≤ i ∧ i ≤ 2147483647) : gmRi l yX0_kindAt (wU yX0_kindAt cX0_kindAt 2 (some .int)) ({ frames := 0, cells := 0, slots := 0, locals := 0 } : Room) [.int (iN i)] g (fun z => (0 ≤ i ∧ i < 164 ∧ z = g 0 i.toNat) ∨ (¬ (0 ≤ i ∧ i < 164) ∧ z = -1)) := by
  refine gmRi_of (by decide) (Nat.le_of_ble_eq_true rfl) ?_
  intro p e s m args below meth c D cI tb ad A ls cx hr hlocks hK hA hT hw hl
  have hx := cx.1
  have hb := cx.2.1
  have hl : lv_has ls 2 [(0, .ref (ad 0)), (1, .int (iN i))] := hl
  refine lv_iload_n hx hb dX0_kindAt_0 rfl (lv_at hl 1 rfl) ?_
  refine ts_if_lt (tgt := 11) hx hb (by omega) dX0_kindAt_1 (by decide) (fun c1 => ?_) (fun c1 => ?_)
  · skip
    refine ts_iconst hx hb dX0_kindAt_11 ?_
    refine lv_goto (tgt := 21) hx hb dX0_kindAt_12 (by decide) ?_
    exact ro_ret cx hr hlocks (by omega) dX0_kindAt_21
  · skip
    refine lv_iload_n hx hb dX0_kindAt_4 rfl (lv_at hl 1 rfl) ?_
    refine ts_sipush hx hb dX0_kindAt_5 (by decide) ?_
    refine ts_icmp_lt (tgt := 15) hx hb (by omega) dX0_kindAt_8 (by decide) (fun c8 => ?_) (fun c8 => ?_)
    · skip
      refine lv_aload_n hx hb dX0_kindAt_15 rfl (lv_at hl 0 rfl) ?_
      refine gm_get0 cx hK hw tl_RX0_9 dX0_kindAt_16 ?_
      refine lv_iload_n hx hb dX0_kindAt_19 rfl (lv_at hl 1 rfl) ?_
      refine gm_ld0 cx hK hw (i.toNat) (by omega) dX0_kindAt_20 (fun z20 hz20 => ?_)
      exact ro_ret cx hr hlocks (by omega) dX0_kindAt_21
    · skip
      refine ts_iconst hx hb dX0_kindAt_11 ?_
      refine lv_goto (tgt := 21) hx hb dX0_kindAt_12 (by decide) ?_
      exact ro_ret cx hr hlocks (by omega) dX0_kindAt_21
set_option maxHeartbeats 4000000 in
set_option maxRecDepth 100000 in
theorem c_X0_hasPlayer (l : Launch) (who : Int) (g : GS) (hwho : -2147483648 ≤ who ∧ who ≤ 2147483647) (hn : NX g) : gmRi l yX0_hasPlayer (wU yX0_hasPlayer cX0_hasPlayer 2 (some .boolean)) ({ frames := 0, cells := 0, slots := 0, locals := 0 } : Room) [.int (iN who)] g (fun z => (z = 1 ∧ 0 ≤ who ∧ who < g 4 4) ∨ (z = 0 ∧ ¬ (0 ≤ who ∧ who < g 4 4))) := by
  refine gmRi_of (by decide) (Nat.le_of_ble_eq_true rfl) ?_
  intro p e s m args below meth c D cI tb ad A ls cx hr hlocks hK hA hT hw hl
  have hx := cx.1
  have hb := cx.2.1
  have hl : lv_has ls 2 [(0, .ref (ad 0)), (1, .int (iN who))] := hl
  have hn1 := hn.1
  refine lv_iload_n hx hb dX0_hasPlayer_0 rfl (lv_at hl 1 rfl) ?_
  refine ts_if_lt (tgt := 16) hx hb (by omega) dX0_hasPlayer_1 (by decide) (fun c1 => ?_) (fun c1 => ?_)
  · skip
    refine ts_iconst hx hb dX0_hasPlayer_16 ?_
    exact ro_retz cx hr hlocks (by omega) (by omega) dX0_hasPlayer_17
  · skip
    refine lv_iload_n hx hb dX0_hasPlayer_4 rfl (lv_at hl 1 rfl) ?_
    refine lv_aload_n hx hb dX0_hasPlayer_5 rfl (lv_at hl 0 rfl) ?_
    refine gm_get4 cx hK hw tl_RX0_30 dX0_hasPlayer_6 (fun z6 hz6 => ?_)
    refine ts_icmp_ge (tgt := 16) hx hb (by omega) dX0_hasPlayer_9 (by decide) (fun c9 => ?_) (fun c9 => ?_)
    · skip
      refine ts_iconst hx hb dX0_hasPlayer_16 ?_
      exact ro_retz cx hr hlocks (by omega) (by omega) dX0_hasPlayer_17
    · skip
      refine ts_iconst hx hb dX0_hasPlayer_12 ?_
      refine lv_goto (tgt := 17) hx hb dX0_hasPlayer_13 (by decide) ?_
      exact ro_retz cx hr hlocks (by omega) (by omega) dX0_hasPlayer_17
set_option maxHeartbeats 4000000 in
set_option maxRecDepth 100000 in
theorem c_X0_playerBehind (l : Launch) (who : Int) (g : GS) (hwho : 0 ≤ who ∧ who < g 4 4) (hn : 2 ≤ g 4 4 ∧ g 4 4 ≤ 4) : gmRi l yX0_playerBehind (wU yX0_playerBehind cX0_playerBehind 2 (some .int)) ({ frames := 0, cells := 0, slots := 0, locals := 0 } : Room) [.int (iN who)] g (fun z => (who + 1 < g 4 4 ∧ z = who + 1) ∨ (who + 1 = g 4 4 ∧ z = 0)) := by
  refine gmRi_of (by decide) (Nat.le_of_ble_eq_true rfl) ?_
  intro p e s m args below meth c D cI tb ad A ls cx hr hlocks hK hA hT hw hl
  have hx := cx.1
  have hb := cx.2.1
  have hl : lv_has ls 2 [(0, .ref (ad 0)), (1, .int (iN who))] := hl
  have hn1 := hn
  refine lv_iload_n hx hb dX0_playerBehind_0 rfl (lv_at hl 1 rfl) ?_
  refine ts_iconst hx hb dX0_playerBehind_1 ?_
  refine ts_iadd hx hb dX0_playerBehind_2 (fun z2 hz2 => ?_)
  refine lv_aload_n hx hb dX0_playerBehind_3 rfl (lv_at hl 0 rfl) ?_
  refine gm_get4 cx hK hw tl_RX0_30 dX0_playerBehind_4 (fun z4 hz4 => ?_)
  refine ts_icmp_ge (tgt := 16) hx hb (by omega) dX0_playerBehind_7 (by decide) (fun c7 => ?_) (fun c7 => ?_)
  · skip
    refine ts_iconst hx hb dX0_playerBehind_16 ?_
    exact ro_ret cx hr hlocks (by omega) dX0_playerBehind_17
  · skip
    refine lv_iload_n hx hb dX0_playerBehind_10 rfl (lv_at hl 1 rfl) ?_
    refine ts_iconst hx hb dX0_playerBehind_11 ?_
    refine ts_iadd hx hb dX0_playerBehind_12 (fun z12 hz12 => ?_)
    refine lv_goto (tgt := 17) hx hb dX0_playerBehind_13 (by decide) ?_
    exact ro_ret cx hr hlocks (by omega) dX0_playerBehind_17
set_option maxHeartbeats 4000000 in
set_option maxRecDepth 100000 in
theorem c_X0_cardOf (l : Launch) (w r : Nat) (place : Int) (g : GS) (hw0 : w < 4) (hr0 : r < 4) (hpl : -2147483648 ≤ place ∧ place ≤ 2147483647) (hm : MX g) (hm2 : KX g) : gmRi l yX0_cardOf (wU yX0_cardOf cX0_cardOf 6 (some .int)) ({ frames := 1, cells := 0, slots := 0, locals := 21 } : Room) [.int (iN ((w : Int))), .int (iN ((r : Int))), .int (iN place)] g (fun z => (0 ≤ place ∧ place < g 1 (4 * w + r + 1) - g 1 (4 * w + r) ∧ z = g 0 ((g 1 (4 * w + r)).toNat + place.toNat)) ∨ (¬ (0 ≤ place ∧ place < g 1 (4 * w + r + 1) - g 1 (4 * w + r)) ∧ z = -1)) := by
  refine gmRi_of (by decide) (Nat.le_of_ble_eq_true rfl) ?_
  intro p e s m args below meth c D cI tb ad A ls cx hr hlocks hK hA hT hw hl
  have hx := cx.1
  have hb := cx.2.1
  have hl : lv_has ls 6 [(0, .ref (ad 0)), (1, .int (iN ((w : Int)))), (2, .int (iN ((r : Int)))), (3, .int (iN place))] := hl
  have hT2 := MX_b hm
  have hq := MX_le hm (a := 4 * w + r + 1) (b := 16) (by omega) (by omega)
  refine lv_aload_n hx hb dX0_cardOf_0 rfl (lv_at hl 0 rfl) ?_
  refine gm_get1 cx hK hw tl_RX0_15 dX0_cardOf_1 ?_
  refine lv_iload_n hx hb dX0_cardOf_4 rfl (lv_at hl 1 rfl) ?_
  refine ts_iconst hx hb dX0_cardOf_5 ?_
  refine ts_imul hx hb dX0_cardOf_6 (fun z6 hz6 => ?_)
  refine lv_iload_n hx hb dX0_cardOf_7 rfl (lv_at hl 2 rfl) ?_
  refine ts_iadd hx hb dX0_cardOf_8 (fun z8 hz8 => ?_)
  refine gm_ld1 cx hK hw (4 * w + r) (by omega) dX0_cardOf_9 (fun z9 hz9 => ?_)
  have hb9 := hT2 (4 * w + r) (by omega)
  refine lv_istore (lv' := [(4, .int (iN z9)), (0, .ref (ad 0)), (1, .int (iN ((w : Int)))), (2, .int (iN ((r : Int)))), (3, .int (iN place))]) hx hb dX0_cardOf_10 hl (by decide) rfl (fun ls hl => ?_)
  refine lv_aload_n hx hb dX0_cardOf_12 rfl (lv_at hl 1 rfl) ?_
  refine gm_get1 cx hK hw tl_RX0_15 dX0_cardOf_13 ?_
  refine lv_iload_n hx hb dX0_cardOf_16 rfl (lv_at hl 2 rfl) ?_
  refine ts_iconst hx hb dX0_cardOf_17 ?_
  refine ts_imul hx hb dX0_cardOf_18 (fun z18 hz18 => ?_)
  refine lv_iload_n hx hb dX0_cardOf_19 rfl (lv_at hl 3 rfl) ?_
  refine ts_iadd hx hb dX0_cardOf_20 (fun z20 hz20 => ?_)
  refine ts_iconst hx hb dX0_cardOf_21 ?_
  refine ts_iadd hx hb dX0_cardOf_22 (fun z22 hz22 => ?_)
  refine gm_ld1 cx hK hw (4 * w + r + 1) (by omega) dX0_cardOf_23 (fun z23 hz23 => ?_)
  have hb23 := hT2 (4 * w + r + 1) (by omega)
  refine lv_iload hx hb dX0_cardOf_24 (lv_at hl 0 rfl) ?_
  refine ts_isub hx hb dX0_cardOf_26 (fun z26 hz26 => ?_)
  refine lv_istore (lv' := [(5, .int (iN z26)), (4, .int (iN z9)), (0, .ref (ad 0)), (1, .int (iN ((w : Int)))), (2, .int (iN ((r : Int)))), (3, .int (iN place))]) hx hb dX0_cardOf_27 hl (by decide) rfl (fun ls hl => ?_)
  refine lv_iload_n hx hb dX0_cardOf_29 rfl (lv_at hl 5 rfl) ?_
  refine ts_if_lt (tgt := 39) hx hb (by omega) dX0_cardOf_30 (by decide) (fun c30 => ?_) (fun c30 => ?_)
  · skip
    refine ts_iconst hx hb dX0_cardOf_39 ?_
    refine lv_goto (tgt := 51) hx hb dX0_cardOf_40 (by decide) ?_
    exact ro_ret cx hr hlocks (by omega) dX0_cardOf_51
  · skip
    refine lv_iload_n hx hb dX0_cardOf_33 rfl (lv_at hl 5 rfl) ?_
    refine lv_iload hx hb dX0_cardOf_34 (lv_at hl 0 rfl) ?_
    refine ts_icmp_lt (tgt := 43) hx hb (by omega) dX0_cardOf_36 (by decide) (fun c36 => ?_) (fun c36 => ?_)
    · skip
      refine lv_aload_n hx hb dX0_cardOf_43 rfl (lv_at hl 2 rfl) ?_
      refine lv_iload hx hb dX0_cardOf_44 (lv_at hl 1 rfl) ?_
      refine lv_iload_n hx hb dX0_cardOf_46 rfl (lv_at hl 5 rfl) ?_
      refine ts_iadd hx hb dX0_cardOf_47 (fun z47 hz47 => ?_)
      refine gm_callr (rest := []) cx hK hT hA hw hl (c_X0_kindAt l z47 g (by omega)) tg_RX0_151 ⟨rfl, rfl⟩ 1 rfl (by decide +kernel) ⟨Nat.le_of_ble_eq_true rfl, Nat.le_of_ble_eq_true rfl⟩ ⟨Nat.zero_le _, Nat.zero_le _⟩ (Nat.le_of_ble_eq_true rfl) dX0_cardOf_48 (rfl) (fun z48 hz48 => ?_)
      rw [show z47.toNat = (g 1 (4 * w + r)).toNat + place.toNat by omega] at hz48
      exact ro_ret cx hr hlocks (by omega) dX0_cardOf_51
    · skip
      refine ts_iconst hx hb dX0_cardOf_39 ?_
      refine lv_goto (tgt := 51) hx hb dX0_cardOf_40 (by decide) ?_
      exact ro_ret cx hr hlocks (by omega) dX0_cardOf_51
set_option maxHeartbeats 4000000 in
set_option maxRecDepth 100000 in
theorem c_X0_howMany (l : Launch) (w r1 r2 : Nat) (kind : Int) (g : GS) (hw0 : w < 4) (hr0 : r1 ≤ r2 ∧ r2 < 4) (hpl : -2147483648 ≤ kind ∧ kind ≤ 2147483647) (hm : MX g) (hm2 : KX g) : gmRi l yX0_howMany (wU yX0_howMany cX0_howMany 9 (some .int)) ({ frames := 1, cells := 0, slots := 0, locals := 21 } : Room) [.int (iN ((w : Int))), .int (iN ((r1 : Int))), .int (iN ((r2 : Int))), .int (iN kind)] g (fun z => (kind = 10 ∧ z = g 1 (4 * w + r2 + 1) - g 1 (4 * w + r1)) ∨ (kind ≠ 10 ∧ z = sumN (fun i => if g 0 ((g 1 (4 * w + r1)).toNat + i) = kind then 1 else 0) (g 1 (4 * w + r2 + 1) - g 1 (4 * w + r1)).toNat)) := by
  refine gmRi_of (by decide) (Nat.le_of_ble_eq_true rfl) ?_
  intro p e s m args below meth c D cI tb ad A ls cx hr hlocks hK hA hT hw hl
  have hx := cx.1
  have hb := cx.2.1
  have hl : lv_has ls 9 [(0, .ref (ad 0)), (1, .int (iN ((w : Int)))), (2, .int (iN ((r1 : Int)))), (3, .int (iN ((r2 : Int)))), (4, .int (iN kind))] := hl
  have hT2 := MX_b hm
  have hq := MX_le hm (a := 4 * w + r2 + 1) (b := 16) (by omega) (by omega)
  have hq2 := MX_le hm (a := 4 * w + r1) (b := 4 * w + r2 + 1) (by omega) (by omega)
  refine lv_aload_n hx hb dX0_howMany_0 rfl (lv_at hl 0 rfl) ?_
  refine gm_get1 cx hK hw tl_RX0_15 dX0_howMany_1 ?_
  refine lv_iload_n hx hb dX0_howMany_4 rfl (lv_at hl 1 rfl) ?_
  refine ts_iconst hx hb dX0_howMany_5 ?_
  refine ts_imul hx hb dX0_howMany_6 (fun z6 hz6 => ?_)
  refine lv_iload_n hx hb dX0_howMany_7 rfl (lv_at hl 2 rfl) ?_
  refine ts_iadd hx hb dX0_howMany_8 (fun z8 hz8 => ?_)
  refine gm_ld1 cx hK hw (4 * w + r1) (by omega) dX0_howMany_9 (fun z9 hz9 => ?_)
  have hb9 := hT2 (4 * w + r1) (by omega)
  refine lv_istore (lv' := [(5, .int (iN z9)), (0, .ref (ad 0)), (1, .int (iN ((w : Int)))), (2, .int (iN ((r1 : Int)))), (3, .int (iN ((r2 : Int)))), (4, .int (iN kind))]) hx hb dX0_howMany_10 hl (by decide) rfl (fun ls hl => ?_)
  refine lv_aload_n hx hb dX0_howMany_12 rfl (lv_at hl 1 rfl) ?_
  refine gm_get1 cx hK hw tl_RX0_15 dX0_howMany_13 ?_
  refine lv_iload_n hx hb dX0_howMany_16 rfl (lv_at hl 2 rfl) ?_
  refine ts_iconst hx hb dX0_howMany_17 ?_
  refine ts_imul hx hb dX0_howMany_18 (fun z18 hz18 => ?_)
  refine lv_iload_n hx hb dX0_howMany_19 rfl (lv_at hl 4 rfl) ?_
  refine ts_iadd hx hb dX0_howMany_20 (fun z20 hz20 => ?_)
  refine ts_iconst hx hb dX0_howMany_21 ?_
  refine ts_iadd hx hb dX0_howMany_22 (fun z22 hz22 => ?_)
  refine gm_ld1 cx hK hw (4 * w + r2 + 1) (by omega) dX0_howMany_23 (fun z23 hz23 => ?_)
  have hb23 := hT2 (4 * w + r2 + 1) (by omega)
  refine lv_istore (lv' := [(6, .int (iN z23)), (5, .int (iN z9)), (0, .ref (ad 0)), (1, .int (iN ((w : Int)))), (2, .int (iN ((r1 : Int)))), (3, .int (iN ((r2 : Int)))), (4, .int (iN kind))]) hx hb dX0_howMany_24 hl (by decide) rfl (fun ls hl => ?_)
  refine lv_iload hx hb dX0_howMany_26 (lv_at hl 6 rfl) ?_
  refine ts_bipush hx hb dX0_howMany_28 (by decide) ?_
  refine ts_icmp_ne (tgt := 39) hx hb (by omega) dX0_howMany_30 (by decide) (fun c30 => ?_) (fun c30 => ?_)
  · skip
    refine ts_iconst hx hb dX0_howMany_39 ?_
    refine lv_istore (lv' := [(7, .int (iN 0)), (6, .int (iN z23)), (5, .int (iN z9)), (0, .ref (ad 0)), (1, .int (iN ((w : Int)))), (2, .int (iN ((r1 : Int)))), (3, .int (iN ((r2 : Int)))), (4, .int (iN kind))]) hx hb dX0_howMany_40 hl (by decide) rfl (fun ls hl => ?_)
    refine lv_iload hx hb dX0_howMany_42 (lv_at hl 2 rfl) ?_
    refine lv_istore (lv' := [(8, .int (iN z9)), (7, .int (iN 0)), (6, .int (iN z23)), (5, .int (iN z9)), (0, .ref (ad 0)), (1, .int (iN ((w : Int)))), (2, .int (iN ((r1 : Int)))), (3, .int (iN ((r2 : Int)))), (4, .int (iN kind))]) hx hb dX0_howMany_44 hl (by decide) rfl (fun ls hl => ?_)
    have cut46 : ∀ (fu : Nat) (n : Int) (i : Int) (hmu : (z23 - i).toNat < fu) (hi : z9 ≤ i ∧ i ≤ z23) (hn : n = sumN (fun i => if g 0 ((g 1 (4 * w + r1)).toNat + i) = kind then 1 else 0) (i - z9).toNat) (hn2 : 0 ≤ n ∧ n ≤ i - z9) (ls : Array Slot) (hl : lv_has ls 9 [(0, .ref (ad 0)), (4, .int (iN kind)), (5, .int (iN z9)), (6, .int (iN z23)), (7, .int (iN n)), (8, .int (iN i))]), W p l e ({ frames := 1, cells := 0, slots := 0, locals := 21 } : Room) s m args below meth c s.heap [] 0 0 (roQ below args s (fun z => (kind = 10 ∧ z = g 1 (4 * w + r2 + 1) - g 1 (4 * w + r1)) ∨ (kind ≠ 10 ∧ z = sumN (fun i => if g 0 ((g 1 (4 * w + r1)).toNat + i) = kind then 1 else 0) (g 1 (4 * w + r2 + 1) - g 1 (4 * w + r1)).toNat))) (F0 m 46 ls []) := by
      intro fu
      induction fu with
      | zero => intro n i hmu; exact absurd hmu (Nat.not_lt_zero _)
      | succ fu ih46 =>
        intro n i hmu hi hn hn2 ls hl
        refine lv_iload hx hb dX0_howMany_46 (lv_at hl 5 rfl) ?_
        refine lv_iload hx hb dX0_howMany_48 (lv_at hl 3 rfl) ?_
        refine ts_icmp_ge (tgt := 73) hx hb (by omega) dX0_howMany_50 (by decide) (fun c50 => ?_) (fun c50 => ?_)
        · skip
          refine lv_iload hx hb dX0_howMany_73 (lv_at hl 4 rfl) ?_
          exact ro_ret cx hr hlocks (Or.inr ⟨by omega, by rw [hn]; congr 1; omega⟩) dX0_howMany_75
        · skip
          refine lv_aload_n hx hb dX0_howMany_53 rfl (lv_at hl 0 rfl) ?_
          refine lv_iload hx hb dX0_howMany_54 (lv_at hl 5 rfl) ?_
          refine gm_callr (rest := []) cx hK hT hA hw hl (c_X0_kindAt l i g (by omega)) tg_RX0_151 ⟨rfl, rfl⟩ 1 rfl (by decide +kernel) ⟨Nat.le_of_ble_eq_true rfl, Nat.le_of_ble_eq_true rfl⟩ ⟨Nat.zero_le _, Nat.zero_le _⟩ (Nat.le_of_ble_eq_true rfl) dX0_howMany_56 (rfl) (fun z56 hz56 => ?_)
          have hk56 : z56 = g 0 i.toNat := by omega
          have hb56 := hm2 i.toNat (by omega)
          refine lv_iload hx hb dX0_howMany_59 (lv_at hl 1 rfl) ?_
          refine ts_icmp_ne (tgt := 67) hx hb (by omega) dX0_howMany_61 (by decide) (fun c61 => ?_) (fun c61 => ?_)
          · skip
            have hs := sumN_s (f := fun i => if g 0 ((g 1 (4 * w + r1)).toNat + i) = kind then 1 else 0) (a := (i + 1 - z9).toNat) (b := (i - z9).toNat) (by omega)
            have he : (g 1 (4 * w + r1)).toNat + (i - z9).toNat = i.toNat := by omega
            simp only [he] at hs
            rw [← hk56] at hs
            obtain ⟨z67, hz67⟩ : ∃ z : Int, z = i + 1 := ⟨_, rfl⟩
            refine lv_iinc (v := iN z67) (lv' := [(8, .int (iN z67)), (0, .ref (ad 0)), (4, .int (iN kind)), (5, .int (iN z9)), (6, .int (iN z23)), (7, .int (iN n))]) hx hb dX0_howMany_67 hl (k := 5) rfl (by rw [hz67]; exact iN_add _ _) (by decide) rfl (fun ls hl => ?_)
            have hsn : n = sumN (fun i => if g 0 ((g 1 (4 * w + r1)).toNat + i) = kind then 1 else 0) (z67 - z9).toNat := by
              rw [hz67, hs]
              by_cases hk : z56 = kind
              · rw [if_pos hk]; omega
              · rw [if_neg hk]; omega
            refine lv_goto (tgt := 46) hx hb dX0_howMany_70 (by decide) ?_
            exact ih46 (n) (z67) (by omega) (by omega) (hsn) (by omega) _ (lv_sub hl [1, 2, 3, 4, 5, 0] rfl)
          · skip
            obtain ⟨z64, hz64⟩ : ∃ z : Int, z = n + 1 := ⟨_, rfl⟩
            refine lv_iinc (v := iN z64) (lv' := [(7, .int (iN z64)), (0, .ref (ad 0)), (4, .int (iN kind)), (5, .int (iN z9)), (6, .int (iN z23)), (8, .int (iN i))]) hx hb dX0_howMany_64 hl (k := 4) rfl (by rw [hz64]; exact iN_add _ _) (by decide) rfl (fun ls hl => ?_)
            have hs := sumN_s (f := fun i => if g 0 ((g 1 (4 * w + r1)).toNat + i) = kind then 1 else 0) (a := (i + 1 - z9).toNat) (b := (i - z9).toNat) (by omega)
            have he : (g 1 (4 * w + r1)).toNat + (i - z9).toNat = i.toNat := by omega
            simp only [he] at hs
            rw [← hk56] at hs
            obtain ⟨z67, hz67⟩ : ∃ z : Int, z = i + 1 := ⟨_, rfl⟩
            refine lv_iinc (v := iN z67) (lv' := [(8, .int (iN z67)), (7, .int (iN z64)), (0, .ref (ad 0)), (4, .int (iN kind)), (5, .int (iN z9)), (6, .int (iN z23))]) hx hb dX0_howMany_67 hl (k := 5) rfl (by rw [hz67]; exact iN_add _ _) (by decide) rfl (fun ls hl => ?_)
            have hsn : z64 = sumN (fun i => if g 0 ((g 1 (4 * w + r1)).toNat + i) = kind then 1 else 0) (z67 - z9).toNat := by
              rw [hz67, hs]
              by_cases hk : z56 = kind
              · rw [if_pos hk]; omega
              · rw [if_neg hk]; omega
            refine lv_goto (tgt := 46) hx hb dX0_howMany_70 (by decide) ?_
            exact ih46 (z64) (z67) (by omega) (by omega) (hsn) (by omega) _ (lv_sub hl [2, 3, 4, 5, 1, 0] rfl)
    exact cut46 _ (0) (z9) (Nat.lt_succ_self _) (by omega) (by rw [show (z9 - z9).toNat = 0 by omega]; rfl) (by omega) _ (lv_sub hl [4, 8, 3, 2, 1, 0] rfl)
  · skip
    refine lv_iload hx hb dX0_howMany_33 (lv_at hl 0 rfl) ?_
    refine lv_iload hx hb dX0_howMany_35 (lv_at hl 1 rfl) ?_
    refine ts_isub hx hb dX0_howMany_37 (fun z37 hz37 => ?_)
    exact ro_ret cx hr hlocks (Or.inl ⟨by omega, by omega⟩) dX0_howMany_38
set_option maxHeartbeats 4000000 in
set_option maxRecDepth 100000 in
theorem c_X0_isInRow (l : Launch) (k : Nat) (g : GS) (hk : k < 10) (hn : NX g) : gmRi l yX0_isInRow (wU yX0_isInRow cX0_isInRow 2 (some .boolean)) ({ frames := 0, cells := 0, slots := 0, locals := 0 } : Room) [.int (iN ((k : Int)))] g (fun z => ((k - g 4 10 + 10) % 10 < 6 ∧ z = 1) ∨ (6 ≤ (k - g 4 10 + 10) % 10 ∧ z = 0)) := by
  refine gmRi_of (by decide) (Nat.le_of_ble_eq_true rfl) ?_
  intro p e s m args below meth c D cI tb ad A ls cx hr hlocks hK hA hT hw hl
  have hx := cx.1
  have hb := cx.2.1
  have hl : lv_has ls 2 [(0, .ref (ad 0)), (1, .int (iN ((k : Int))))] := hl
  have hn1 := hn.2.2.2.2.2.2.1
  refine lv_iload_n hx hb dX0_isInRow_0 rfl (lv_at hl 1 rfl) ?_
  refine lv_aload_n hx hb dX0_isInRow_1 rfl (lv_at hl 0 rfl) ?_
  refine gm_get10 cx hK hw tl_RX0_49 dX0_isInRow_2 (fun z2 hz2 => ?_)
  refine ts_isub hx hb dX0_isInRow_5 (fun z5 hz5 => ?_)
  refine ts_bipush hx hb dX0_isInRow_6 (by decide) ?_
  refine ts_iadd hx hb dX0_isInRow_8 (fun z8 hz8 => ?_)
  refine ts_bipush hx hb dX0_isInRow_9 (by decide) ?_
  refine ts_irem hx hb (by omega) dX0_isInRow_11 (fun z11 hz11 => ?_)
  refine ts_bipush hx hb dX0_isInRow_12 (by decide) ?_
  refine ts_icmp_ge (tgt := 21) hx hb (by omega) dX0_isInRow_14 (by decide) (fun c14 => ?_) (fun c14 => ?_)
  · skip
    refine ts_iconst hx hb dX0_isInRow_21 ?_
    exact ro_retz cx hr hlocks (by omega) (by omega) dX0_isInRow_22
  · skip
    refine ts_iconst hx hb dX0_isInRow_17 ?_
    refine lv_goto (tgt := 22) hx hb dX0_isInRow_18 (by decide) ?_
    exact ro_retz cx hr hlocks (by omega) (by omega) dX0_isInRow_22
set_option maxHeartbeats 4000000 in
set_option maxRecDepth 100000 in
theorem c_X0_emptyPiles (l : Launch) (g : GS) (hn : ∀ k : Nat, k < 10 → 0 ≤ g 2 k ∧ g 2 k ≤ 164) : gmRi l yX0_emptyPiles (wU yX0_emptyPiles cX0_emptyPiles 3 (some .int)) ({ frames := 0, cells := 0, slots := 0, locals := 0 } : Room) [] g (fun z => z = sumN (fun k => if g 2 k = 0 then 1 else 0) 10) := by
  refine gmRi_of (by decide) (Nat.le_of_ble_eq_true rfl) ?_
  intro p e s m args below meth c D cI tb ad A ls cx hr hlocks hK hA hT hw hl
  have hx := cx.1
  have hb := cx.2.1
  have hl : lv_has ls 3 [(0, .ref (ad 0))] := hl
  refine ts_iconst hx hb dX0_emptyPiles_0 ?_
  refine lv_istore_n (lv' := [(1, .int (iN 0)), (0, .ref (ad 0))]) hx hb dX0_emptyPiles_1 rfl hl (by decide) rfl (fun ls hl => ?_)
  refine ts_iconst hx hb dX0_emptyPiles_2 ?_
  refine lv_istore_n (lv' := [(2, .int (iN 0)), (1, .int (iN 0)), (0, .ref (ad 0))]) hx hb dX0_emptyPiles_3 rfl hl (by decide) rfl (fun ls hl => ?_)
  have cut4 : ∀ (fu : Nat) (n : Int) (i : Int) (hmu : (10 - i).toNat < fu) (hi : 0 ≤ i ∧ i ≤ 10) (hq : n = sumN (fun k => if g 2 k = 0 then 1 else 0) i.toNat) (hq2 : 0 ≤ n ∧ n ≤ i) (ls : Array Slot) (hl : lv_has ls 3 [(0, .ref (ad 0)), (1, .int (iN n)), (2, .int (iN i))]), W p l e ({ frames := 0, cells := 0, slots := 0, locals := 0 } : Room) s m args below meth c s.heap [] 0 0 (roQ below args s (fun z => z = sumN (fun k => if g 2 k = 0 then 1 else 0) 10)) (F0 m 4 ls []) := by
    intro fu
    induction fu with
    | zero => intro n i hmu; exact absurd hmu (Nat.not_lt_zero _)
    | succ fu ih4 =>
      intro n i hmu hi hq hq2 ls hl
      refine lv_iload_n hx hb dX0_emptyPiles_4 rfl (lv_at hl 2 rfl) ?_
      refine ts_bipush hx hb dX0_emptyPiles_5 (by decide) ?_
      refine ts_icmp_ge (tgt := 28) hx hb (by omega) dX0_emptyPiles_7 (by decide) (fun c7 => ?_) (fun c7 => ?_)
      · skip
        refine lv_iload_n hx hb dX0_emptyPiles_28 rfl (lv_at hl 1 rfl) ?_
        exact ro_ret cx hr hlocks (by rw [hq]; congr 1; omega) dX0_emptyPiles_29
      · skip
        refine lv_aload_n hx hb dX0_emptyPiles_10 rfl (lv_at hl 0 rfl) ?_
        refine gm_get2 cx hK hw tl_RX0_18 dX0_emptyPiles_11 ?_
        refine lv_iload_n hx hb dX0_emptyPiles_14 rfl (lv_at hl 2 rfl) ?_
        refine gm_ld2 cx hK hw ((i).toNat) (by omega) dX0_emptyPiles_15 (fun z15 hz15 => ?_)
        have hb15 := hn ((i).toNat) (by omega)
        refine ts_if_gt (tgt := 22) hx hb (by omega) dX0_emptyPiles_16 (by decide) (fun c16 => ?_) (fun c16 => ?_)
        · skip
          have hs := sumN_s (f := fun k => if g 2 k = 0 then 1 else 0) (a := (i + 1).toNat) (b := i.toNat) (by omega)
          rw [← hz15] at hs
          obtain ⟨z22, hz22⟩ : ∃ z : Int, z = i + 1 := ⟨_, rfl⟩
          refine lv_iinc (v := iN z22) (lv' := [(2, .int (iN z22)), (0, .ref (ad 0)), (1, .int (iN n))]) hx hb dX0_emptyPiles_22 hl (k := 2) rfl (by rw [hz22]; exact iN_add _ _) (by decide) rfl (fun ls hl => ?_)
          have hsn : n = sumN (fun k => if g 2 k = 0 then 1 else 0) z22.toNat := by
            rw [hz22, hs]
            by_cases hk : z15 = 0
            · rw [if_pos hk]; omega
            · rw [if_neg hk]; omega
          refine lv_goto (tgt := 4) hx hb dX0_emptyPiles_25 (by decide) ?_
          exact ih4 (n) (z22) (by omega) (by omega) (hsn) (by omega) _ (lv_sub hl [1, 2, 0] rfl)
        · skip
          obtain ⟨z19, hz19⟩ : ∃ z : Int, z = n + 1 := ⟨_, rfl⟩
          refine lv_iinc (v := iN z19) (lv' := [(1, .int (iN z19)), (0, .ref (ad 0)), (2, .int (iN i))]) hx hb dX0_emptyPiles_19 hl (k := 1) rfl (by rw [hz19]; exact iN_add _ _) (by decide) rfl (fun ls hl => ?_)
          have hs := sumN_s (f := fun k => if g 2 k = 0 then 1 else 0) (a := (i + 1).toNat) (b := i.toNat) (by omega)
          rw [← hz15] at hs
          obtain ⟨z22, hz22⟩ : ∃ z : Int, z = i + 1 := ⟨_, rfl⟩
          refine lv_iinc (v := iN z22) (lv' := [(2, .int (iN z22)), (1, .int (iN z19)), (0, .ref (ad 0))]) hx hb dX0_emptyPiles_22 hl (k := 2) rfl (by rw [hz22]; exact iN_add _ _) (by decide) rfl (fun ls hl => ?_)
          have hsn : z19 = sumN (fun k => if g 2 k = 0 then 1 else 0) z22.toNat := by
            rw [hz22, hs]
            by_cases hk : z15 = 0
            · rw [if_pos hk]; omega
            · rw [if_neg hk]; omega
          refine lv_goto (tgt := 4) hx hb dX0_emptyPiles_25 (by decide) ?_
          exact ih4 (z19) (z22) (by omega) (by omega) (hsn) (by omega) _ (lv_sub hl [2, 1, 0] rfl)
  exact cut4 _ (0) (0) (Nat.lt_succ_self _) (by omega) (by rfl) (by omega) _ (lv_sub hl [2, 1, 0] rfl)
