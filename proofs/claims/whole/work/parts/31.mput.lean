set_option maxHeartbeats 4000000 in
set_option maxRecDepth 100000 in
theorem c_X2_in (l : Launch) (v lo hi : Int) (hb3 : (-2147483648 ≤ v ∧ v ≤ 2147483647) ∧ (-2147483648 ≤ lo ∧ lo ≤ 2147483647) ∧ (-2147483648 ≤ hi ∧ hi ≤ 2147483647)) : psRi l yX2_in (wU yX2_in cX2_in 3 (some .boolean)) ({ frames := 0, cells := 0, slots := 0, locals := 0 } : Room) [.int (iN v), .int (iN lo), .int (iN hi)] (fun z => (z = 1 ∧ lo ≤ v ∧ v ≤ hi) ∨ (z = 0 ∧ ¬ (lo ≤ v ∧ v ≤ hi))) := by
  refine psRi_of (by decide) (Nat.le_of_ble_eq_true rfl) ?_
  intro p e s m args below meth c ls cx hr hlocks hl
  have hx := cx.1
  have hb := cx.2.1
  have hl : lv_has ls 3 [(0, .int (iN v)), (1, .int (iN lo)), (2, .int (iN hi))] := hl
  refine lv_iload_n hx hb dX2_in_0 rfl (lv_at hl 0 rfl) ?_
  refine lv_iload_n hx hb dX2_in_1 rfl (lv_at hl 1 rfl) ?_
  refine ts_icmp_lt (tgt := 14) hx hb (by omega) dX2_in_2 (by decide) (fun c2 => ?_) (fun c2 => ?_)
  · skip
    refine ts_iconst hx hb dX2_in_14 ?_
    exact ro_retz cx hr hlocks (by omega) (by omega) dX2_in_15
  · skip
    refine lv_iload_n hx hb dX2_in_5 rfl (lv_at hl 0 rfl) ?_
    refine lv_iload_n hx hb dX2_in_6 rfl (lv_at hl 2 rfl) ?_
    refine ts_icmp_gt (tgt := 14) hx hb (by omega) dX2_in_7 (by decide) (fun c7 => ?_) (fun c7 => ?_)
    · skip
      refine ts_iconst hx hb dX2_in_14 ?_
      exact ro_retz cx hr hlocks (by omega) (by omega) dX2_in_15
    · skip
      refine ts_iconst hx hb dX2_in_10 ?_
      refine lv_goto (tgt := 15) hx hb dX2_in_11 (by decide) ?_
      exact ro_retz cx hr hlocks (by omega) (by omega) dX2_in_15
set_option maxHeartbeats 4000000 in
set_option maxRecDepth 100000 in
theorem c_X2_price (l : Launch) (x : Int) (k : Nat) (hk : x = (k : Int) ∧ k < 10) : psRi l yX2_price (wU yX2_price cX2_price 1 (some .int)) ({ frames := 0, cells := 0, slots := 0, locals := 0 } : Room) [.int (iN x)] (fun z => z = tv 0 k) := by
  refine psRi_of (by decide) (Nat.le_of_ble_eq_true rfl) ?_
  intro p e s m args below meth c ls cx hr hlocks hl
  have hx := cx.1
  have hb := cx.2.1
  have hl : lv_has ls 1 [(0, .int (iN x))] := hl
  have hk9 := hk.2
  have hkk : k = 0 ∨ k = 1 ∨ k = 2 ∨ k = 3 ∨ k = 4 ∨ k = 5 ∨ k = 6 ∨ k = 7 ∨ k = 8 ∨ k = 9 := by omega
  refine lv_iload_n hx hb dX2_price_0 rfl (lv_at hl 0 rfl) ?_
  by_cases c1 : x < 1 ∨ 9 < x
  · refine lv_tableOut (tgt := 66) hx hb dX2_price_1 (by rw [toInt_iN (by omega)]; exact c1) (by decide) ?_
    refine ts_iconst hx hb dX2_price_66 ?_
    exact ro_ret cx hr hlocks (by rcases hkk with rfl | rfl | rfl | rfl | rfl | rfl | rfl | rfl | rfl | rfl <;> first | (exfalso; omega) | rfl | exact hz7.trans (by rw [hk.1]; rfl)) dX2_price_67
  · have c1_ : x = 1 ∨ x = 2 ∨ x = 3 ∨ x = 4 ∨ x = 5 ∨ x = 6 ∨ x = 7 ∨ x = 8 ∨ x = 9 := by omega
    rcases c1_ with c1 | c1 | c1 | c1 | c1 | c1 | c1 | c1 | c1
    · refine lv_tableIn (off := 51) (tgt := 52) hx hb dX2_price_1 (by rw [toInt_iN (by omega)]; omega) (by rw [toInt_iN (by omega)]; omega) (by rw [toInt_iN (by omega), c1]; rfl) (by decide) ?_
      refine ts_iconst hx hb dX2_price_52 ?_
      exact ro_ret cx hr hlocks (by rcases hkk with rfl | rfl | rfl | rfl | rfl | rfl | rfl | rfl | rfl | rfl <;> first | (exfalso; omega) | rfl | exact hz7.trans (by rw [hk.1]; rfl)) dX2_price_53
    · refine lv_tableIn (off := 53) (tgt := 54) hx hb dX2_price_1 (by rw [toInt_iN (by omega)]; omega) (by rw [toInt_iN (by omega)]; omega) (by rw [toInt_iN (by omega), c1]; rfl) (by decide) ?_
      refine ts_bipush hx hb dX2_price_54 (by decide) ?_
      exact ro_ret cx hr hlocks (by rcases hkk with rfl | rfl | rfl | rfl | rfl | rfl | rfl | rfl | rfl | rfl <;> first | (exfalso; omega) | rfl | exact hz7.trans (by rw [hk.1]; rfl)) dX2_price_56
    · refine lv_tableIn (off := 56) (tgt := 57) hx hb dX2_price_1 (by rw [toInt_iN (by omega)]; omega) (by rw [toInt_iN (by omega)]; omega) (by rw [toInt_iN (by omega), c1]; rfl) (by decide) ?_
      refine ts_iconst hx hb dX2_price_57 ?_
      exact ro_ret cx hr hlocks (by rcases hkk with rfl | rfl | rfl | rfl | rfl | rfl | rfl | rfl | rfl | rfl <;> first | (exfalso; omega) | rfl | exact hz7.trans (by rw [hk.1]; rfl)) dX2_price_58
    · refine lv_tableIn (off := 58) (tgt := 59) hx hb dX2_price_1 (by rw [toInt_iN (by omega)]; omega) (by rw [toInt_iN (by omega)]; omega) (by rw [toInt_iN (by omega), c1]; rfl) (by decide) ?_
      refine ts_bipush hx hb dX2_price_59 (by decide) ?_
      exact ro_ret cx hr hlocks (by rcases hkk with rfl | rfl | rfl | rfl | rfl | rfl | rfl | rfl | rfl | rfl <;> first | (exfalso; omega) | rfl | exact hz7.trans (by rw [hk.1]; rfl)) dX2_price_61
    · refine lv_tableIn (off := 65) (tgt := 66) hx hb dX2_price_1 (by rw [toInt_iN (by omega)]; omega) (by rw [toInt_iN (by omega)]; omega) (by rw [toInt_iN (by omega), c1]; rfl) (by decide) ?_
      refine ts_iconst hx hb dX2_price_66 ?_
      exact ro_ret cx hr hlocks (by rcases hkk with rfl | rfl | rfl | rfl | rfl | rfl | rfl | rfl | rfl | rfl <;> first | (exfalso; omega) | rfl | exact hz7.trans (by rw [hk.1]; rfl)) dX2_price_67
    · refine lv_tableIn (off := 61) (tgt := 62) hx hb dX2_price_1 (by rw [toInt_iN (by omega)]; omega) (by rw [toInt_iN (by omega)]; omega) (by rw [toInt_iN (by omega), c1]; rfl) (by decide) ?_
      refine ts_iconst hx hb dX2_price_62 ?_
      exact ro_ret cx hr hlocks (by rcases hkk with rfl | rfl | rfl | rfl | rfl | rfl | rfl | rfl | rfl | rfl <;> first | (exfalso; omega) | rfl | exact hz7.trans (by rw [hk.1]; rfl)) dX2_price_63
    · refine lv_tableIn (off := 61) (tgt := 62) hx hb dX2_price_1 (by rw [toInt_iN (by omega)]; omega) (by rw [toInt_iN (by omega)]; omega) (by rw [toInt_iN (by omega), c1]; rfl) (by decide) ?_
      refine ts_iconst hx hb dX2_price_62 ?_
      exact ro_ret cx hr hlocks (by rcases hkk with rfl | rfl | rfl | rfl | rfl | rfl | rfl | rfl | rfl | rfl <;> first | (exfalso; omega) | rfl | exact hz7.trans (by rw [hk.1]; rfl)) dX2_price_63
    · refine lv_tableIn (off := 63) (tgt := 64) hx hb dX2_price_1 (by rw [toInt_iN (by omega)]; omega) (by rw [toInt_iN (by omega)]; omega) (by rw [toInt_iN (by omega), c1]; rfl) (by decide) ?_
      refine ts_iconst hx hb dX2_price_64 ?_
      exact ro_ret cx hr hlocks (by rcases hkk with rfl | rfl | rfl | rfl | rfl | rfl | rfl | rfl | rfl | rfl <;> first | (exfalso; omega) | rfl | exact hz7.trans (by rw [hk.1]; rfl)) dX2_price_65
    · refine lv_tableIn (off := 51) (tgt := 52) hx hb dX2_price_1 (by rw [toInt_iN (by omega)]; omega) (by rw [toInt_iN (by omega)]; omega) (by rw [toInt_iN (by omega), c1]; rfl) (by decide) ?_
      refine ts_iconst hx hb dX2_price_52 ?_
      exact ro_ret cx hr hlocks (by rcases hkk with rfl | rfl | rfl | rfl | rfl | rfl | rfl | rfl | rfl | rfl <;> first | (exfalso; omega) | rfl | exact hz7.trans (by rw [hk.1]; rfl)) dX2_price_53
set_option maxHeartbeats 4000000 in
set_option maxRecDepth 100000 in
theorem c_X2_coins (l : Launch) (x : Int) (k : Nat) (hk : x = (k : Int) ∧ k < 10) : psRi l yX2_coins (wU yX2_coins cX2_coins 1 (some .int)) ({ frames := 0, cells := 0, slots := 0, locals := 0 } : Room) [.int (iN x)] (fun z => z = tv 1 k) := by
  refine psRi_of (by decide) (Nat.le_of_ble_eq_true rfl) ?_
  intro p e s m args below meth c ls cx hr hlocks hl
  have hx := cx.1
  have hb := cx.2.1
  have hl : lv_has ls 1 [(0, .int (iN x))] := hl
  have hk9 := hk.2
  have hkk : k = 0 ∨ k = 1 ∨ k = 2 ∨ k = 3 ∨ k = 4 ∨ k = 5 ∨ k = 6 ∨ k = 7 ∨ k = 8 ∨ k = 9 := by omega
  refine lv_iload_n hx hb dX2_coins_0 rfl (lv_at hl 0 rfl) ?_
  refine ts_iconst hx hb dX2_coins_1 ?_
  refine ts_icmp_ge (tgt := 11) hx hb (by omega) dX2_coins_2 (by decide) (fun c2 => ?_) (fun c2 => ?_)
  · skip
    refine lv_iload_n hx hb dX2_coins_11 rfl (lv_at hl 0 rfl) ?_
    refine ts_bipush hx hb dX2_coins_12 (by decide) ?_
    refine ts_icmp_ne (tgt := 21) hx hb (by omega) dX2_coins_14 (by decide) (fun c14 => ?_) (fun c14 => ?_)
    · skip
      refine ts_iconst hx hb dX2_coins_21 ?_
      exact ro_ret cx hr hlocks (by rcases hkk with rfl | rfl | rfl | rfl | rfl | rfl | rfl | rfl | rfl | rfl <;> first | (exfalso; omega) | rfl | exact hz7.trans (by rw [hk.1]; rfl)) dX2_coins_22
    · skip
      refine ts_iconst hx hb dX2_coins_17 ?_
      refine lv_goto (tgt := 22) hx hb dX2_coins_18 (by decide) ?_
      exact ro_ret cx hr hlocks (by rcases hkk with rfl | rfl | rfl | rfl | rfl | rfl | rfl | rfl | rfl | rfl <;> first | (exfalso; omega) | rfl | exact hz7.trans (by rw [hk.1]; rfl)) dX2_coins_22
  · skip
    refine lv_iload_n hx hb dX2_coins_5 rfl (lv_at hl 0 rfl) ?_
    refine ts_iconst hx hb dX2_coins_6 ?_
    refine ts_iadd hx hb dX2_coins_7 (fun z7 hz7 => ?_)
    refine lv_goto (tgt := 22) hx hb dX2_coins_8 (by decide) ?_
    exact ro_ret cx hr hlocks (by rcases hkk with rfl | rfl | rfl | rfl | rfl | rfl | rfl | rfl | rfl | rfl <;> first | (exfalso; omega) | rfl | exact hz7.trans (by rw [hk.1]; rfl)) dX2_coins_22
set_option maxHeartbeats 4000000 in
set_option maxRecDepth 100000 in
theorem c_X2_cards (l : Launch) (x : Int) (k : Nat) (hk : x = (k : Int) ∧ k < 10) : psRi l yX2_cards (wU yX2_cards cX2_cards 1 (some .int)) ({ frames := 0, cells := 0, slots := 0, locals := 0 } : Room) [.int (iN x)] (fun z => z = tv 2 k) := by
  refine psRi_of (by decide) (Nat.le_of_ble_eq_true rfl) ?_
  intro p e s m args below meth c ls cx hr hlocks hl
  have hx := cx.1
  have hb := cx.2.1
  have hl : lv_has ls 1 [(0, .int (iN x))] := hl
  have hk9 := hk.2
  have hkk : k = 0 ∨ k = 1 ∨ k = 2 ∨ k = 3 ∨ k = 4 ∨ k = 5 ∨ k = 6 ∨ k = 7 ∨ k = 8 ∨ k = 9 := by omega
  refine lv_iload_n hx hb dX2_cards_0 rfl (lv_at hl 0 rfl) ?_
  refine ts_bipush hx hb dX2_cards_1 (by decide) ?_
  refine ts_icmp_eq (tgt := 12) hx hb (by omega) dX2_cards_3 (by decide) (fun c3 => ?_) (fun c3 => ?_)
  · skip
    refine ts_iconst hx hb dX2_cards_12 ?_
    refine lv_goto (tgt := 27) hx hb dX2_cards_13 (by decide) ?_
    exact ro_ret cx hr hlocks (by rcases hkk with rfl | rfl | rfl | rfl | rfl | rfl | rfl | rfl | rfl | rfl <;> first | (exfalso; omega) | rfl | exact hz7.trans (by rw [hk.1]; rfl)) dX2_cards_27
  · skip
    refine lv_iload_n hx hb dX2_cards_6 rfl (lv_at hl 0 rfl) ?_
    refine ts_bipush hx hb dX2_cards_7 (by decide) ?_
    refine ts_icmp_ne (tgt := 16) hx hb (by omega) dX2_cards_9 (by decide) (fun c9 => ?_) (fun c9 => ?_)
    · skip
      refine lv_iload_n hx hb dX2_cards_16 rfl (lv_at hl 0 rfl) ?_
      refine ts_bipush hx hb dX2_cards_17 (by decide) ?_
      refine ts_icmp_ne (tgt := 26) hx hb (by omega) dX2_cards_19 (by decide) (fun c19 => ?_) (fun c19 => ?_)
      · skip
        refine ts_iconst hx hb dX2_cards_26 ?_
        exact ro_ret cx hr hlocks (by rcases hkk with rfl | rfl | rfl | rfl | rfl | rfl | rfl | rfl | rfl | rfl <;> first | (exfalso; omega) | rfl | exact hz7.trans (by rw [hk.1]; rfl)) dX2_cards_27
      · skip
        refine ts_iconst hx hb dX2_cards_22 ?_
        refine lv_goto (tgt := 27) hx hb dX2_cards_23 (by decide) ?_
        exact ro_ret cx hr hlocks (by rcases hkk with rfl | rfl | rfl | rfl | rfl | rfl | rfl | rfl | rfl | rfl <;> first | (exfalso; omega) | rfl | exact hz7.trans (by rw [hk.1]; rfl)) dX2_cards_27
    · skip
      refine ts_iconst hx hb dX2_cards_12 ?_
      refine lv_goto (tgt := 27) hx hb dX2_cards_13 (by decide) ?_
      exact ro_ret cx hr hlocks (by rcases hkk with rfl | rfl | rfl | rfl | rfl | rfl | rfl | rfl | rfl | rfl <;> first | (exfalso; omega) | rfl | exact hz7.trans (by rw [hk.1]; rfl)) dX2_cards_27
set_option maxHeartbeats 4000000 in
set_option maxRecDepth 100000 in
theorem c_X2_pointsOf (l : Launch) (x : Int) (k : Nat) (hk : x = (k : Int) ∧ k < 10) : psRi l yX2_pointsOf (wU yX2_pointsOf cX2_pointsOf 1 (some .int)) ({ frames := 0, cells := 0, slots := 0, locals := 0 } : Room) [.int (iN x)] (fun z => z = tv 7 k) := by
  refine psRi_of (by decide) (Nat.le_of_ble_eq_true rfl) ?_
  intro p e s m args below meth c ls cx hr hlocks hl
  have hx := cx.1
  have hb := cx.2.1
  have hl : lv_has ls 1 [(0, .int (iN x))] := hl
  have hk9 := hk.2
  have hkk : k = 0 ∨ k = 1 ∨ k = 2 ∨ k = 3 ∨ k = 4 ∨ k = 5 ∨ k = 6 ∨ k = 7 ∨ k = 8 ∨ k = 9 := by omega
  refine lv_iload_n hx hb dX2_pointsOf_0 rfl (lv_at hl 0 rfl) ?_
  refine ts_iconst hx hb dX2_pointsOf_1 ?_
  refine ts_icmp_ne (tgt := 9) hx hb (by omega) dX2_pointsOf_2 (by decide) (fun c2 => ?_) (fun c2 => ?_)
  · skip
    refine lv_iload_n hx hb dX2_pointsOf_9 rfl (lv_at hl 0 rfl) ?_
    refine ts_iconst hx hb dX2_pointsOf_10 ?_
    refine ts_icmp_ne (tgt := 19) hx hb (by omega) dX2_pointsOf_11 (by decide) (fun c11 => ?_) (fun c11 => ?_)
    · skip
      refine lv_iload_n hx hb dX2_pointsOf_19 rfl (lv_at hl 0 rfl) ?_
      refine ts_iconst hx hb dX2_pointsOf_20 ?_
      refine ts_icmp_ne (tgt := 28) hx hb (by omega) dX2_pointsOf_21 (by decide) (fun c21 => ?_) (fun c21 => ?_)
      · skip
        refine ts_iconst hx hb dX2_pointsOf_28 ?_
        exact ro_ret cx hr hlocks (by rcases hkk with rfl | rfl | rfl | rfl | rfl | rfl | rfl | rfl | rfl | rfl <;> first | (exfalso; omega) | rfl | exact hz7.trans (by rw [hk.1]; rfl)) dX2_pointsOf_29
      · skip
        refine ts_iconst hx hb dX2_pointsOf_24 ?_
        refine lv_goto (tgt := 29) hx hb dX2_pointsOf_25 (by decide) ?_
        exact ro_ret cx hr hlocks (by rcases hkk with rfl | rfl | rfl | rfl | rfl | rfl | rfl | rfl | rfl | rfl <;> first | (exfalso; omega) | rfl | exact hz7.trans (by rw [hk.1]; rfl)) dX2_pointsOf_29
    · skip
      refine ts_bipush hx hb dX2_pointsOf_14 (by decide) ?_
      refine lv_goto (tgt := 29) hx hb dX2_pointsOf_16 (by decide) ?_
      exact ro_ret cx hr hlocks (by rcases hkk with rfl | rfl | rfl | rfl | rfl | rfl | rfl | rfl | rfl | rfl <;> first | (exfalso; omega) | rfl | exact hz7.trans (by rw [hk.1]; rfl)) dX2_pointsOf_29
  · skip
    refine ts_iconst hx hb dX2_pointsOf_5 ?_
    refine lv_goto (tgt := 29) hx hb dX2_pointsOf_6 (by decide) ?_
    exact ro_ret cx hr hlocks (by rcases hkk with rfl | rfl | rfl | rfl | rfl | rfl | rfl | rfl | rfl | rfl <;> first | (exfalso; omega) | rfl | exact hz7.trans (by rw [hk.1]; rfl)) dX2_pointsOf_29
set_option maxHeartbeats 4000000 in
set_option maxRecDepth 100000 in
theorem c_X2_inPile (l : Launch) (x : Int) (k : Nat) (hk : x = (k : Int) ∧ k < 10) : psRi l yX2_inPile (wU yX2_inPile cX2_inPile 1 (some .int)) ({ frames := 0, cells := 0, slots := 0, locals := 0 } : Room) [.int (iN x)] (fun z => z = tv 8 k) := by
  refine psRi_of (by decide) (Nat.le_of_ble_eq_true rfl) ?_
  intro p e s m args below meth c ls cx hr hlocks hl
  have hx := cx.1
  have hb := cx.2.1
  have hl : lv_has ls 1 [(0, .int (iN x))] := hl
  have hk9 := hk.2
  have hkk : k = 0 ∨ k = 1 ∨ k = 2 ∨ k = 3 ∨ k = 4 ∨ k = 5 ∨ k = 6 ∨ k = 7 ∨ k = 8 ∨ k = 9 := by omega
  refine lv_iload_n hx hb dX2_inPile_0 rfl (lv_at hl 0 rfl) ?_
  by_cases c1 : x < 0 ∨ 5 < x
  · refine lv_tableOut (tgt := 58) hx hb dX2_inPile_1 (by rw [toInt_iN (by omega)]; exact c1) (by decide) ?_
    refine ts_bipush hx hb dX2_inPile_58 (by decide) ?_
    exact ro_ret cx hr hlocks (by rcases hkk with rfl | rfl | rfl | rfl | rfl | rfl | rfl | rfl | rfl | rfl <;> first | (exfalso; omega) | rfl | exact hz7.trans (by rw [hk.1]; rfl)) dX2_inPile_60
  · have c1_ : x = 0 ∨ x = 1 ∨ x = 2 ∨ x = 3 ∨ x = 4 ∨ x = 5 := by omega
    rcases c1_ with c1 | c1 | c1 | c1 | c1 | c1
    · refine lv_tableIn (off := 39) (tgt := 40) hx hb dX2_inPile_1 (by rw [toInt_iN (by omega)]; omega) (by rw [toInt_iN (by omega)]; omega) (by rw [toInt_iN (by omega), c1]; rfl) (by decide) ?_
      refine ts_bipush hx hb dX2_inPile_40 (by decide) ?_
      exact ro_ret cx hr hlocks (by rcases hkk with rfl | rfl | rfl | rfl | rfl | rfl | rfl | rfl | rfl | rfl <;> first | (exfalso; omega) | rfl | exact hz7.trans (by rw [hk.1]; rfl)) dX2_inPile_42
    · refine lv_tableIn (off := 42) (tgt := 43) hx hb dX2_inPile_1 (by rw [toInt_iN (by omega)]; omega) (by rw [toInt_iN (by omega)]; omega) (by rw [toInt_iN (by omega), c1]; rfl) (by decide) ?_
      refine ts_bipush hx hb dX2_inPile_43 (by decide) ?_
      exact ro_ret cx hr hlocks (by rcases hkk with rfl | rfl | rfl | rfl | rfl | rfl | rfl | rfl | rfl | rfl <;> first | (exfalso; omega) | rfl | exact hz7.trans (by rw [hk.1]; rfl)) dX2_inPile_45
    · refine lv_tableIn (off := 45) (tgt := 46) hx hb dX2_inPile_1 (by rw [toInt_iN (by omega)]; omega) (by rw [toInt_iN (by omega)]; omega) (by rw [toInt_iN (by omega), c1]; rfl) (by decide) ?_
      refine ts_bipush hx hb dX2_inPile_46 (by decide) ?_
      exact ro_ret cx hr hlocks (by rcases hkk with rfl | rfl | rfl | rfl | rfl | rfl | rfl | rfl | rfl | rfl <;> first | (exfalso; omega) | rfl | exact hz7.trans (by rw [hk.1]; rfl)) dX2_inPile_48
    · refine lv_tableIn (off := 48) (tgt := 49) hx hb dX2_inPile_1 (by rw [toInt_iN (by omega)]; omega) (by rw [toInt_iN (by omega)]; omega) (by rw [toInt_iN (by omega), c1]; rfl) (by decide) ?_
      refine ts_bipush hx hb dX2_inPile_49 (by decide) ?_
      exact ro_ret cx hr hlocks (by rcases hkk with rfl | rfl | rfl | rfl | rfl | rfl | rfl | rfl | rfl | rfl <;> first | (exfalso; omega) | rfl | exact hz7.trans (by rw [hk.1]; rfl)) dX2_inPile_51
    · refine lv_tableIn (off := 51) (tgt := 52) hx hb dX2_inPile_1 (by rw [toInt_iN (by omega)]; omega) (by rw [toInt_iN (by omega)]; omega) (by rw [toInt_iN (by omega), c1]; rfl) (by decide) ?_
      refine ts_bipush hx hb dX2_inPile_52 (by decide) ?_
      exact ro_ret cx hr hlocks (by rcases hkk with rfl | rfl | rfl | rfl | rfl | rfl | rfl | rfl | rfl | rfl <;> first | (exfalso; omega) | rfl | exact hz7.trans (by rw [hk.1]; rfl)) dX2_inPile_54
    · refine lv_tableIn (off := 54) (tgt := 55) hx hb dX2_inPile_1 (by rw [toInt_iN (by omega)]; omega) (by rw [toInt_iN (by omega)]; omega) (by rw [toInt_iN (by omega), c1]; rfl) (by decide) ?_
      refine ts_bipush hx hb dX2_inPile_55 (by decide) ?_
      exact ro_ret cx hr hlocks (by rcases hkk with rfl | rfl | rfl | rfl | rfl | rfl | rfl | rfl | rfl | rfl <;> first | (exfalso; omega) | rfl | exact hz7.trans (by rw [hk.1]; rfl)) dX2_inPile_57
set_option maxHeartbeats 4000000 in
set_option maxRecDepth 100000 in
theorem c_X2_placeOf (l : Launch) (x y : Int) (pq w : Nat) (h : (x = (pq : Int) ∧ pq < 4) ∧ (y = (w : Int) ∧ w < 4)) : psRi l yX2_placeOf (wU yX2_placeOf cX2_placeOf 2 (some .int)) ({ frames := 0, cells := 0, slots := 0, locals := 0 } : Room) [.int (iN x), .int (iN y)] (fun z => z = 30 + 165 * (4 * (pq : Int) + w)) := by
  refine psRi_of (by decide) (Nat.le_of_ble_eq_true rfl) ?_
  intro p e s m args below meth c ls cx hr hlocks hl
  have hx := cx.1
  have hb := cx.2.1
  have hl : lv_has ls 2 [(0, .int (iN x)), (1, .int (iN y))] := hl
  refine ts_bipush hx hb dX2_placeOf_0 (by decide) ?_
  refine ts_sipush hx hb dX2_placeOf_2 (by decide) ?_
  refine ts_iconst hx hb dX2_placeOf_5 ?_
  refine lv_iload_n hx hb dX2_placeOf_6 rfl (lv_at hl 0 rfl) ?_
  refine ts_imul hx hb dX2_placeOf_7 (fun z7 hz7 => ?_)
  refine lv_iload_n hx hb dX2_placeOf_8 rfl (lv_at hl 1 rfl) ?_
  refine ts_iadd hx hb dX2_placeOf_9 (fun z9 hz9 => ?_)
  refine ts_imul hx hb dX2_placeOf_10 (fun z10 hz10 => ?_)
  refine ts_iadd hx hb dX2_placeOf_11 (fun z11 hz11 => ?_)
  exact ro_ret cx hr hlocks (by omega) dX2_placeOf_12
set_option maxHeartbeats 4000000 in
set_option maxRecDepth 100000 in
theorem c_X2_manyAt (l : Launch) (x y : Int) (pq w : Nat) (h : (x = (pq : Int) ∧ pq < 4) ∧ (y = (w : Int) ∧ w < 4)) (g : GS) (L : LLT) (hq : QM g L) : mmRi l yX2_manyAt (wU yX2_manyAt cX2_manyAt 3 (some .int)) ({ frames := 1, cells := 0, slots := 0, locals := 21 } : Room) [.int (iN x), .int (iN y)] g (fun z => z = ((L pq w).length : Int)) := by
  refine mmRi_of (by decide) (Nat.le_of_ble_eq_true rfl) ?_
  intro p e s m args below meth c D cI tb ad A ls cx hr hlocks hK hA hw hl
  have hx := cx.1
  have hb := cx.2.1
  have hl : lv_has ls 3 [(0, .ref (ad 0)), (1, .int (iN x)), (2, .int (iN y))] := hl
  refine lv_aload_n hx hb dX2_manyAt_0 rfl (lv_at hl 0 rfl) ?_
  refine mm_get0 cx hK hw tl_RX2_7 dX2_manyAt_1 ?_
  refine lv_iload_n hx hb dX2_manyAt_4 rfl (lv_at hl 1 rfl) ?_
  refine lv_iload_n hx hb dX2_manyAt_5 rfl (lv_at hl 2 rfl) ?_
  refine ps_call (rest := [.ref (ad 1)]) cx hl (c_X2_placeOf l x y pq w h) tg_RX2_26 ⟨rfl, rfl⟩ 2 rfl (by decide +kernel) ⟨Nat.le_of_ble_eq_true rfl, Nat.le_of_ble_eq_true rfl⟩ ⟨Nat.zero_le _, Nat.zero_le _⟩ (Nat.le_of_ble_eq_true rfl) dX2_manyAt_6 (rfl) (fun z6 hz6 => ?_)
  refine mm_ld0 cx hK hw (30 + 165 * (4 * pq + w)) (by omega) dX2_manyAt_9 (fun z9 hz9 => ?_)
  exact ro_ret cx hr hlocks (by rw [hz9]; exact (hq pq w h.1.2 h.2.2).1) dX2_manyAt_10
set_option maxHeartbeats 4000000 in
set_option maxRecDepth 100000 in
theorem c_X2_put (l : Launch) (x y : Int) (pq w : Nat) (h : (x = (pq : Int) ∧ pq < 4) ∧ (y = (w : Int) ∧ w < 4)) (v : Int) (g : GS) (L : LLT) (hq : QM g L) (hlt : (L pq w).length < 164) : mmMv l yX2_put (wU yX2_put cX2_put 5 none) ({ frames := 1, cells := 0, slots := 0, locals := 21 } : Room) [.int (iN x), .int (iN y), .int (iN v)] g (fun g1 => QM g1 (ul L pq w (L pq w ++ [v])) ∧ MR g1 g) := by
  refine mmMv_of (by decide) (Nat.le_of_ble_eq_true rfl) ?_
  intro p e s m args below meth c D cI tb ad A ls cx hr hlocks hK hA hw hl
  have hx := cx.1
  have hb := cx.2.1
  have hl : lv_has ls 5 [(0, .ref (ad 0)), (1, .int (iN x)), (2, .int (iN y)), (3, .int (iN v))] := hl
  obtain ⟨q1, q2, q3⟩ := hq pq w h.1.2 h.2.2
  refine lv_iload_n hx hb dX2_put_0 rfl (lv_at hl 1 rfl) ?_
  refine lv_iload_n hx hb dX2_put_1 rfl (lv_at hl 2 rfl) ?_
  refine ps_call (rest := []) cx hl (c_X2_placeOf l x y pq w h) tg_RX2_26 ⟨rfl, rfl⟩ 2 rfl (by decide +kernel) ⟨Nat.le_of_ble_eq_true rfl, Nat.le_of_ble_eq_true rfl⟩ ⟨Nat.zero_le _, Nat.zero_le _⟩ (Nat.le_of_ble_eq_true rfl) dX2_put_2 (rfl) (fun z2 hz2 => ?_)
  refine lv_istore (lv' := [(4, .int (iN z2)), (0, .ref (ad 0)), (1, .int (iN x)), (2, .int (iN y)), (3, .int (iN v))]) hx hb dX2_put_5 hl (by decide) rfl (fun ls hl => ?_)
  refine lv_aload_n hx hb dX2_put_7 rfl (lv_at hl 1 rfl) ?_
  refine mm_get0 cx hK hw tl_RX2_7 dX2_put_8 ?_
  refine lv_iload hx hb dX2_put_11 (lv_at hl 0 rfl) ?_
  refine lv_dup2_11 hx hb dX2_put_13 rfl rfl ?_
  refine mm_ld0 cx hK hw (30 + 165 * (4 * pq + w)) (by omega) dX2_put_14 (fun z14 hz14 => ?_)
  refine ts_iconst hx hb dX2_put_15 ?_
  refine ts_iadd hx hb dX2_put_16 (fun z16 hz16 => ?_)
  refine mm_st0 cx hK hw (30 + 165 * (4 * pq + w)) (by omega) dX2_put_17 (fun g17 H locs hg17 hw => ?_)
  refine lv_aload_n hx hb dX2_put_18 rfl (lv_at hl 1 rfl) ?_
  refine mm_get0 cx hK hw tl_RX2_7 dX2_put_19 ?_
  refine lv_iload hx hb dX2_put_22 (lv_at hl 0 rfl) ?_
  refine lv_aload_n hx hb dX2_put_24 rfl (lv_at hl 1 rfl) ?_
  refine mm_get0 cx hK hw tl_RX2_7 dX2_put_25 ?_
  refine lv_iload hx hb dX2_put_28 (lv_at hl 0 rfl) ?_
  refine mm_ld0 cx hK hw (30 + 165 * (4 * pq + w)) (by omega) dX2_put_30 (fun z30 hz30 => ?_)
  rw [hg17, u2_s] at hz30
  refine ts_iadd hx hb dX2_put_31 (fun z31 hz31 => ?_)
  refine lv_iload_n hx hb dX2_put_32 rfl (lv_at hl 4 rfl) ?_
  refine mm_st0 cx hK hw (31 + 165 * (4 * pq + w) + (L pq w).length) (by omega) dX2_put_33 (fun g33 H locs hg33 hw => ?_)
  have hj : ∀ j : Nat, g33 0 j = if j = 31 + 165 * (4 * pq + w) + (L pq w).length then v else if j = 30 + 165 * (4 * pq + w) then ((L pq w).length : Int) + 1 else g 0 j := by
    intro j
    rw [hg33, u2_r, hg17, u2_r]
    by_cases e1 : j = 31 + 165 * (4 * pq + w) + (L pq w).length
    · rw [if_pos e1, if_pos e1]
    · rw [if_neg e1, if_neg e1]
      by_cases e2 : j = 30 + 165 * (4 * pq + w)
      · rw [if_pos e2, if_pos e2]; omega
      · rw [if_neg e2, if_neg e2]
  have hMR : MR g33 g := ⟨fun i hi => by rw [hj i, if_neg (by omega), if_neg (by omega)], by rw [hg33, u2_row _ (by decide), hg17, u2_row _ (by decide)], by rw [hg33, u2_row _ (by decide), hg17, u2_row _ (by decide)], by rw [hg33, u2_row _ (by decide), hg17, u2_row _ (by decide)], by rw [hg33, u2_row _ (by decide), hg17, u2_row _ (by decide)]⟩
  exact mm_vret cx hr hlocks hw (⟨QM_put hq h.1.2 h.2.2 hlt hj, hMR⟩) dX2_put_34
set_option maxHeartbeats 4000000 in
set_option maxRecDepth 100000 in
theorem c_X2_take (l : Launch) (x y : Int) (pq w : Nat) (h : (x = (pq : Int) ∧ pq < 4) ∧ (y = (w : Int) ∧ w < 4)) (xi : Int) (i : Nat) (hi : xi = (i : Int)) (g : GS) (L : LLT) (hq : QM g L) (hlt : i < (L pq w).length) : mmMi l yX2_take (wU yX2_take cX2_take 7 (some .int)) ({ frames := 1, cells := 0, slots := 0, locals := 21 } : Room) [.int (iN x), .int (iN y), .int (iN xi)] g (fun z g1 => z = (L pq w).getD i 0 ∧ QM g1 (ul L pq w ((L pq w).eraseIdx i)) ∧ MR g1 g) := by
  refine mmMi_of (by decide) (Nat.le_of_ble_eq_true rfl) ?_
  intro p e s m args below meth c D cI tb ad A ls cx hr hlocks hK hA hw hl
  have hx := cx.1
  have hb := cx.2.1
  have hl : lv_has ls 7 [(0, .ref (ad 0)), (1, .int (iN x)), (2, .int (iN y)), (3, .int (iN xi))] := hl
  obtain ⟨q1, q2, q3⟩ := hq pq w h.1.2 h.2.2
  refine lv_iload_n hx hb dX2_take_0 rfl (lv_at hl 1 rfl) ?_
  refine lv_iload_n hx hb dX2_take_1 rfl (lv_at hl 2 rfl) ?_
  refine ps_call (rest := []) cx hl (c_X2_placeOf l x y pq w h) tg_RX2_26 ⟨rfl, rfl⟩ 2 rfl (by decide +kernel) ⟨Nat.le_of_ble_eq_true rfl, Nat.le_of_ble_eq_true rfl⟩ ⟨Nat.zero_le _, Nat.zero_le _⟩ (Nat.le_of_ble_eq_true rfl) dX2_take_2 (rfl) (fun z2 hz2 => ?_)
  refine lv_istore (lv' := [(4, .int (iN z2)), (0, .ref (ad 0)), (1, .int (iN x)), (2, .int (iN y)), (3, .int (iN xi))]) hx hb dX2_take_5 hl (by decide) rfl (fun ls hl => ?_)
  refine lv_aload_n hx hb dX2_take_7 rfl (lv_at hl 1 rfl) ?_
  refine mm_get0 cx hK hw tl_RX2_7 dX2_take_8 ?_
  refine lv_iload hx hb dX2_take_11 (lv_at hl 0 rfl) ?_
  refine ts_iconst hx hb dX2_take_13 ?_
  refine ts_iadd hx hb dX2_take_14 (fun z14 hz14 => ?_)
  refine lv_iload_n hx hb dX2_take_15 rfl (lv_at hl 4 rfl) ?_
  refine ts_iadd hx hb dX2_take_16 (fun z16 hz16 => ?_)
  refine mm_ld0 cx hK hw (31 + 165 * (4 * pq + w) + i) (by omega) dX2_take_17 (fun z17 hz17 => ?_)
  refine lv_istore (lv' := [(5, .int (iN z17)), (4, .int (iN z2)), (0, .ref (ad 0)), (1, .int (iN x)), (2, .int (iN y)), (3, .int (iN xi))]) hx hb dX2_take_18 hl (by decide) rfl (fun ls hl => ?_)
  refine lv_aload_n hx hb dX2_take_20 rfl (lv_at hl 2 rfl) ?_
  refine mm_get0 cx hK hw tl_RX2_7 dX2_take_21 ?_
  refine lv_iload hx hb dX2_take_24 (lv_at hl 1 rfl) ?_
  refine lv_dup2_11 hx hb dX2_take_26 rfl rfl ?_
  refine mm_ld0 cx hK hw (30 + 165 * (4 * pq + w)) (by omega) dX2_take_27 (fun z27 hz27 => ?_)
  refine ts_iconst hx hb dX2_take_28 ?_
  refine ts_isub hx hb dX2_take_29 (fun z29 hz29 => ?_)
  refine mm_st0 cx hK hw (30 + 165 * (4 * pq + w)) (by omega) dX2_take_30 (fun g30 H locs hg30 hw => ?_)
  refine lv_iload hx hb dX2_take_31 (lv_at hl 1 rfl) ?_
  refine ts_iconst hx hb dX2_take_33 ?_
  refine ts_iadd hx hb dX2_take_34 (fun z34 hz34 => ?_)
  refine lv_iload_n hx hb dX2_take_35 rfl (lv_at hl 5 rfl) ?_
  refine ts_iadd hx hb dX2_take_36 (fun z36 hz36 => ?_)
  refine lv_istore (lv' := [(6, .int (iN z36)), (5, .int (iN z17)), (4, .int (iN z2)), (0, .ref (ad 0)), (1, .int (iN x)), (2, .int (iN y)), (3, .int (iN xi))]) hx hb dX2_take_37 hl (by decide) rfl (fun ls hl => ?_)
  have hent : ∀ j : Nat, g30 0 j = if j = 30 + 165 * (4 * pq + w) then ((L pq w).length : Int) - 1 else if 31 + 165 * (4 * pq + w) + i ≤ j ∧ (j : Int) < z36 then g 0 (j + 1) else g 0 j := by
    intro j
    rw [hg30, u2_r]
    by_cases e : j = 30 + 165 * (4 * pq + w)
    · rw [if_pos e, if_pos e]; omega
    · rw [if_neg e, if_neg e, if_neg (by omega)]
  have cut39 : ∀ (fu : Nat) (k : Int) (ga : GS) (hmu : (z2 + (L pq w).length - k).toNat < fu) (hk : z2 + 1 + i ≤ k ∧ k ≤ z2 + (L pq w).length) (ha : ∀ j : Nat, ga 0 j = if j = 30 + 165 * (4 * pq + w) then ((L pq w).length : Int) - 1 else if 31 + 165 * (4 * pq + w) + i ≤ j ∧ (j : Int) < k then g 0 (j + 1) else g 0 j) (hr0 : ga 1 = g 1 ∧ ga 2 = g 2 ∧ ga 3 = g 3 ∧ ga 4 = g 4) (H : Heap) (locs : List Loc) (hw : mmB D A s cI ad ga H locs) (ls : Array Slot) (hl : lv_has ls 7 [(0, .ref (ad 0)), (4, .int (iN z2)), (5, .int (iN z17)), (6, .int (iN k))]), W p l e ({ frames := 1, cells := 0, slots := 0, locals := 21 } : Room) s m args below meth c H locs 0 0 (mmQi D cI ad A below args s (fun z g1 => z = (L pq w).getD i 0 ∧ QM g1 (ul L pq w ((L pq w).eraseIdx i)) ∧ MR g1 g)) (F0 m 39 ls []) := by
    intro fu
    induction fu with
    | zero => intro k ga hmu; exact absurd hmu (Nat.not_lt_zero _)
    | succ fu ih39 =>
      intro k ga hmu hk ha hr0 H locs hw ls hl
      refine lv_iload hx hb dX2_take_39 (lv_at hl 3 rfl) ?_
      refine lv_iload hx hb dX2_take_41 (lv_at hl 1 rfl) ?_
      refine lv_aload_n hx hb dX2_take_43 rfl (lv_at hl 0 rfl) ?_
      refine mm_get0 cx hK hw tl_RX2_7 dX2_take_44 ?_
      refine lv_iload hx hb dX2_take_47 (lv_at hl 1 rfl) ?_
      refine mm_ld0 cx hK hw (30 + 165 * (4 * pq + w)) (by omega) dX2_take_49 (fun z49 hz49 => ?_)
      rw [ha, if_pos rfl] at hz49
      refine ts_iadd hx hb dX2_take_50 (fun z50 hz50 => ?_)
      refine ts_icmp_gt (tgt := 76) hx hb (by omega) dX2_take_51 (by decide) (fun c51 => ?_) (fun c51 => ?_)
      · skip
        have hfin : ∀ j : Nat, ga 0 j = if j = 30 + 165 * (4 * pq + w) then ((L pq w).length : Int) - 1 else if 31 + 165 * (4 * pq + w) + i ≤ j ∧ j ≤ 30 + 165 * (4 * pq + w) + ((L pq w).length - 1) then g 0 (j + 1) else g 0 j := by
          intro j
          rw [ha j]
          by_cases e2 : j = 30 + 165 * (4 * pq + w)
          · rw [if_pos e2, if_pos e2]
          · rw [if_neg e2, if_neg e2]
            by_cases e3 : 31 + 165 * (4 * pq + w) + i ≤ j ∧ (j : Int) < k
            · rw [if_pos e3, if_pos (by omega)]
            · rw [if_neg e3, if_neg (by omega)]
        have hMR : MR ga g := ⟨fun j hj => by rw [hfin j, if_neg (by omega), if_neg (by omega)], hr0⟩
        refine lv_iload hx hb dX2_take_76 (lv_at hl 2 rfl) ?_
        exact mm_ret cx hr hlocks hw (⟨by rw [hz17]; exact q3 i hlt, QM_take hq h.1.2 h.2.2 hlt hfin, hMR⟩) dX2_take_78
      · skip
        refine lv_aload_n hx hb dX2_take_54 rfl (lv_at hl 0 rfl) ?_
        refine mm_get0 cx hK hw tl_RX2_7 dX2_take_55 ?_
        refine lv_iload hx hb dX2_take_58 (lv_at hl 3 rfl) ?_
        refine lv_aload_n hx hb dX2_take_60 rfl (lv_at hl 0 rfl) ?_
        refine mm_get0 cx hK hw tl_RX2_7 dX2_take_61 ?_
        refine lv_iload hx hb dX2_take_64 (lv_at hl 3 rfl) ?_
        refine ts_iconst hx hb dX2_take_66 ?_
        refine ts_iadd hx hb dX2_take_67 (fun z67 hz67 => ?_)
        refine mm_ld0 cx hK hw ((k + 1).toNat) (by omega) dX2_take_68 (fun z68 hz68 => ?_)
        refine mm_st0 cx hK hw (k.toNat) (by omega) dX2_take_69 (fun g69 H locs hg69 hw => ?_)
        obtain ⟨z70, hz70⟩ : ∃ z : Int, z = k + 1 := ⟨_, rfl⟩
        refine lv_iinc (v := iN z70) (lv' := [(6, .int (iN z70)), (0, .ref (ad 0)), (4, .int (iN z2)), (5, .int (iN z17))]) hx hb dX2_take_70 hl (k := 3) rfl (by rw [hz70]; exact iN_add _ _) (by decide) rfl (fun ls hl => ?_)
        have hnew : ∀ j : Nat, g69 0 j = if j = 30 + 165 * (4 * pq + w) then ((L pq w).length : Int) - 1 else if 31 + 165 * (4 * pq + w) + i ≤ j ∧ (j : Int) < z70 then g 0 (j + 1) else g 0 j := by
          intro j
          rw [hg69, u2_r]
          by_cases e : j = k.toNat
          · rw [if_pos e, if_neg (by omega), if_pos (by omega), hz68, ha, if_neg (by omega), if_neg (by omega), e]
            congr 1
            omega
          · rw [if_neg e, ha j]
            by_cases e2 : j = 30 + 165 * (4 * pq + w)
            · rw [if_pos e2, if_pos e2]
            · rw [if_neg e2, if_neg e2]
              by_cases e3 : 31 + 165 * (4 * pq + w) + i ≤ j ∧ (j : Int) < k
              · rw [if_pos e3, if_pos (by omega)]
              · rw [if_neg e3, if_neg (by omega)]
        refine lv_goto (tgt := 39) hx hb dX2_take_73 (by decide) ?_
        exact ih39 (z70) (g69) (by omega) (by omega) (hnew) (⟨by rw [hg69, u2_row _ (by decide)]; exact hr0.1, by rw [hg69, u2_row _ (by decide)]; exact hr0.2.1, by rw [hg69, u2_row _ (by decide)]; exact hr0.2.2.1, by rw [hg69, u2_row _ (by decide)]; exact hr0.2.2.2⟩) _ _ hw _ (lv_sub hl [1, 2, 3, 0] rfl)
  exact cut39 _ (z36) (g30) (Nat.lt_succ_self _) (by omega) (hent) (⟨by rw [hg30, u2_row _ (by decide)], by rw [hg30, u2_row _ (by decide)], by rw [hg30, u2_row _ (by decide)], by rw [hg30, u2_row _ (by decide)]⟩) _ _ hw _ (lv_sub hl [3, 2, 1, 0] rfl)
