abbrev isP (S : StT) (p : Int) : Prop := 0 ≤ p ∧ p < S.1 0
def cardR (S : StT) (p w i : Int) : Int := if ¬ isP S p ∨ ¬ (0 ≤ w ∧ w ≤ 3) ∨ i < 0 then -1000001 else if i < (S.2 p.toNat w.toNat).length then (S.2 p.toNat w.toNat).getD i.toNat 0 else -1000004
def manyR (S : StT) (p w k : Int) : Int := if ¬ isP S p ∨ ¬ (0 ≤ w ∧ w ≤ 4) ∨ ¬ (0 ≤ k ∧ k ≤ 10) then -1000001 else if w = 4 then cqA k S.2 p.toNat 0 4 else cqA k S.2 p.toNat w.toNat 1
def pointsR (S : StT) (p : Int) : Int := if isP S p then ptA S.2 p.toNat + 100 else -1000001
def kindR (S : StT) (k what : Int) : Int := if ¬ (0 ≤ k ∧ k ≤ 9) then -1000001 else if what = 0 then tv 0 k.toNat else if what = 1 then S.1 (10 + k.toNat) else if what = 2 then (if (k - S.1 6 + 10) % 10 < 6 then 1 else 0) else if what = 3 then S.1 (20 + k.toNat) else if what = 4 then why S.1 k.toNat else -1000001
def turnR (S : StT) (what : Int) : Int := if what = 5 then setN S.1 10 else if what = 6 then S.1 6 else if 0 ≤ what ∧ what ≤ 4 then S.1 (1 + what.toNat) else -1000001
def purseF (x : Int) : Int := if x < 3 then tv 1 x.toNat else 0
def purseR (S : StT) : Int := S.1 2 + lsum purseF (hand S)
def countR (T : TT) (what : Int) : Int := if what = 0 then T.1.1 0 else if what = 1 then T.1.1 7 else if what = 2 then T.1.1 8 else if what = 3 then emp T.1.1 else if what = 4 then sumN (fun k => T.1.1 (20 + k)) 10 else if what = 5 then sumN (fun k => T.1.1 (10 + k)) 10 else if what = 6 then (T.2.1.1 : Int) else if what = 7 then (T.2.2.1 : Int) else if what = 20 then T.1.1 9 else -1000001
def outR (S : StT) (what : Int) : Int := if ¬ (0 ≤ what ∧ what ≤ 4) then -1000001 else if what = 0 then (leadN (goesA 60 S).2.2 ((goesA 60 S).2.1 0 - 1).toNat : Nat) else if what = 1 then ptA (goesA 60 S).2.2 (leadN (goesA 60 S).2.2 ((goesA 60 S).2.1 0 - 1).toNat) + 100 else if what = 2 then (goesA 60 S).1 else if what = 3 then (goesA 60 S).2.1 8 else (goesA 60 S).2.1 15
def wouR (S : StT) (k : Nat) : Int := ptA (goesA 60 (if k < 10 then buyA S k else S)).2.2 (pl S) + 100
def advM (S : StT) : Nat → Int × Int
  | 0 => (-1000004, 0)
  | k + 1 => if (k = 10 ∨ why S.1 k = 0) ∧ ((advM S k).1 = -1000004 ∨ (advM S k).2 < wouR S k) then ((k : Int), wouR S k) else advM S k
def advR (S : StT) (what : Int) : Int := if ¬ (0 ≤ what ∧ what ≤ 1) then -1000001 else if setN S.1 10 = 0 then -1000004 else if what = 0 then (advM S 11).1 else (advM S 11).2
theorem MO_tr {a b c : GS} (h1 : MO a b) (h2 : MO b c) : MO a c := ⟨h1.1.trans h2.1, h1.2.1.trans h2.2.1, h1.2.2.trans h2.2.2⟩
theorem MO_ME {a b : GS} (h : ME a b) : MO a b := ⟨h.2.1, h.2.2.1, h.2.2.2⟩
set_option maxHeartbeats 4000000 in
set_option maxRecDepth 100000 in
theorem c_X2_card (l : Launch) (x w i : Int) (g : GS) (S : StT) (hx0 : RM g S) (hv0 : VS S) (hkb : (-2147483648 ≤ x ∧ x ≤ 2147483647) ∧ (-2147483648 ≤ w ∧ w ≤ 2147483647) ∧ (-2147483648 ≤ i ∧ i ≤ 2147483647)) : mmRi l yX2_card (wU yX2_card cX2_card 4 (some .int)) ({ frames := 2, cells := 0, slots := 0, locals := 43 } : Room) [.int (iN x), .int (iN w), .int (iN i)] g (fun z => z = cardR S x w i) := by
  refine mmRi_of (by decide) (Nat.le_of_ble_eq_true rfl) ?_
  intro p e s m args below meth c D cI tb ad A ls cx hr hlocks hK hA hw hl
  have hx := cx.1
  have hb := cx.2.1
  have hl : lv_has ls 4 [(0, .ref (ad 0)), (1, .int (iN x)), (2, .int (iN w)), (3, .int (iN i))] := hl
  have hvb := VS_nums hv0
  refine lv_aload_n hx hb dX2_card_0 rfl (lv_at hl 0 rfl) ?_
  refine lv_iload_n hx hb dX2_card_1 rfl (lv_at hl 1 rfl) ?_
  refine mm_callr (rest := []) cx hK hA hw hl (c_X2_isPlayer l x g S hx0 hv0 (by omega)) tg_RX2_124 ⟨rfl, rfl⟩ 1 rfl (by decide +kernel) ⟨Nat.le_of_ble_eq_true rfl, Nat.le_of_ble_eq_true rfl⟩ ⟨Nat.zero_le _, Nat.zero_le _⟩ (Nat.le_of_ble_eq_true rfl) dX2_card_2 (rfl) (fun z2 hz2 => ?_)
  refine ts_if_eq (tgt := 21) hx hb (by omega) dX2_card_5 (by decide) (fun c5 => ?_) (fun c5 => ?_)
  · skip
    have hR : cardR S x w i = -1000001 := by
      unfold cardR isP
      rw [if_pos (by omega)]
    refine ts_ldc (z := -1000001) hx hb cx.2.2.2.1 cx.2.2.2.2 tk_RX2_63 dX2_card_21 ?_
    exact ro_ret cx hr hlocks (hR.symm) dX2_card_23
  · skip
    refine lv_iload_n hx hb dX2_card_8 rfl (lv_at hl 2 rfl) ?_
    refine ts_iconst hx hb dX2_card_9 ?_
    refine ts_iconst hx hb dX2_card_10 ?_
    refine ps_call (rest := []) cx hl (c_X2_in l w 0 3 (by omega)) tg_RX2_48 ⟨rfl, rfl⟩ 3 rfl (by decide +kernel) ⟨Nat.le_of_ble_eq_true rfl, Nat.le_of_ble_eq_true rfl⟩ ⟨Nat.zero_le _, Nat.zero_le _⟩ (Nat.le_of_ble_eq_true rfl) dX2_card_11 (rfl) (fun z11 hz11 => ?_)
    refine ts_if_eq (tgt := 21) hx hb (by omega) dX2_card_14 (by decide) (fun c14 => ?_) (fun c14 => ?_)
    · skip
      have hR : cardR S x w i = -1000001 := by
        unfold cardR isP
        rw [if_pos (by omega)]
      refine ts_ldc (z := -1000001) hx hb cx.2.2.2.1 cx.2.2.2.2 tk_RX2_63 dX2_card_21 ?_
      exact ro_ret cx hr hlocks (hR.symm) dX2_card_23
    · skip
      refine lv_iload_n hx hb dX2_card_17 rfl (lv_at hl 3 rfl) ?_
      refine ts_if_ge (tgt := 24) hx hb (by omega) dX2_card_18 (by decide) (fun c18 => ?_) (fun c18 => ?_)
      · skip
        refine lv_iload_n hx hb dX2_card_24 rfl (lv_at hl 3 rfl) ?_
        refine lv_aload_n hx hb dX2_card_25 rfl (lv_at hl 0 rfl) ?_
        refine lv_iload_n hx hb dX2_card_26 rfl (lv_at hl 1 rfl) ?_
        refine lv_iload_n hx hb dX2_card_27 rfl (lv_at hl 2 rfl) ?_
        refine mm_callr (rest := [.int (iN i)]) cx hK hA hw hl (c_X2_manyAt l x w x.toNat w.toNat (by omega) g S.2 hx0.2) tg_RX2_34 ⟨rfl, rfl⟩ 2 rfl (by decide +kernel) ⟨Nat.le_of_ble_eq_true rfl, Nat.le_of_ble_eq_true rfl⟩ ⟨Nat.zero_le _, Nat.zero_le _⟩ (Nat.le_of_ble_eq_true rfl) dX2_card_28 (rfl) (fun z28 hz28 => ?_)
        have hll := VS_len hv0 (p := x.toNat) (w := w.toNat) (by omega) (by omega)
        refine ts_icmp_ge (tgt := 51) hx hb (by omega) dX2_card_31 (by decide) (fun c31 => ?_) (fun c31 => ?_)
        · skip
          have hR : cardR S x w i = -1000004 := by
            unfold cardR isP
            rw [if_neg (by omega), if_neg (by omega)]
          refine ts_ldc (z := -1000004) hx hb cx.2.2.2.1 cx.2.2.2.2 tk_RX2_127 dX2_card_51 ?_
          exact ro_ret cx hr hlocks (hR.symm) dX2_card_53
        · skip
          refine lv_aload_n hx hb dX2_card_34 rfl (lv_at hl 0 rfl) ?_
          refine mm_get0 cx hK hw tl_RX2_7 dX2_card_35 ?_
          refine lv_iload_n hx hb dX2_card_38 rfl (lv_at hl 1 rfl) ?_
          refine lv_iload_n hx hb dX2_card_39 rfl (lv_at hl 2 rfl) ?_
          refine ps_call (rest := [.ref (ad 1)]) cx hl (c_X2_placeOf l x w x.toNat w.toNat (by omega)) tg_RX2_26 ⟨rfl, rfl⟩ 2 rfl (by decide +kernel) ⟨Nat.le_of_ble_eq_true rfl, Nat.le_of_ble_eq_true rfl⟩ ⟨Nat.zero_le _, Nat.zero_le _⟩ (Nat.le_of_ble_eq_true rfl) dX2_card_40 (rfl) (fun z40 hz40 => ?_)
          refine ts_iconst hx hb dX2_card_43 ?_
          refine ts_iadd hx hb dX2_card_44 (fun z44 hz44 => ?_)
          refine lv_iload_n hx hb dX2_card_45 rfl (lv_at hl 3 rfl) ?_
          refine ts_iadd hx hb dX2_card_46 (fun z46 hz46 => ?_)
          refine mm_ld0 cx hK hw (31 + 165 * (4 * x.toNat + w.toNat) + i.toNat) (by omega) dX2_card_47 (fun z47 hz47 => ?_)
          have hq47 := (hx0.2 x.toNat w.toNat (by omega) (by omega)).2.2 i.toNat (by omega)
          have hR : cardR S x w i = z47 := by
            unfold cardR isP
            rw [if_neg (by omega), if_pos (by omega), hz47, hq47]
          refine lv_goto (tgt := 53) hx hb dX2_card_48 (by decide) ?_
          exact ro_ret cx hr hlocks (hR.symm) dX2_card_53
      · skip
        have hR : cardR S x w i = -1000001 := by
          unfold cardR isP
          rw [if_pos (by omega)]
        refine ts_ldc (z := -1000001) hx hb cx.2.2.2.1 cx.2.2.2.2 tk_RX2_63 dX2_card_21 ?_
        exact ro_ret cx hr hlocks (hR.symm) dX2_card_23
set_option maxHeartbeats 4000000 in
set_option maxRecDepth 100000 in
theorem c_X2_many (l : Launch) (x w kk : Int) (g : GS) (S : StT) (hx0 : RM g S) (hv0 : VS S) (hkb : (-2147483648 ≤ x ∧ x ≤ 2147483647) ∧ (-2147483648 ≤ w ∧ w ≤ 2147483647) ∧ (-2147483648 ≤ kk ∧ kk ≤ 2147483647)) : mmRi l yX2_many (wU yX2_many cX2_many 4 (some .int)) ({ frames := 3, cells := 0, slots := 0, locals := 70 } : Room) [.int (iN x), .int (iN w), .int (iN kk)] g (fun z => z = manyR S x w kk) := by
  refine mmRi_of (by decide) (Nat.le_of_ble_eq_true rfl) ?_
  intro p e s m args below meth c D cI tb ad A ls cx hr hlocks hK hA hw hl
  have hx := cx.1
  have hb := cx.2.1
  have hl : lv_has ls 4 [(0, .ref (ad 0)), (1, .int (iN x)), (2, .int (iN w)), (3, .int (iN kk))] := hl
  have hvb := VS_nums hv0
  refine lv_aload_n hx hb dX2_many_0 rfl (lv_at hl 0 rfl) ?_
  refine lv_iload_n hx hb dX2_many_1 rfl (lv_at hl 1 rfl) ?_
  refine mm_callr (rest := []) cx hK hA hw hl (c_X2_isPlayer l x g S hx0 hv0 (by omega)) tg_RX2_124 ⟨rfl, rfl⟩ 1 rfl (by decide +kernel) ⟨Nat.le_of_ble_eq_true rfl, Nat.le_of_ble_eq_true rfl⟩ ⟨Nat.zero_le _, Nat.zero_le _⟩ (Nat.le_of_ble_eq_true rfl) dX2_many_2 (rfl) (fun z2 hz2 => ?_)
  refine ts_if_eq (tgt := 27) hx hb (by omega) dX2_many_5 (by decide) (fun c5 => ?_) (fun c5 => ?_)
  · skip
    have hR : manyR S x w kk = -1000001 := by
      unfold manyR isP
      rw [if_pos (by omega)]
    refine ts_ldc (z := -1000001) hx hb cx.2.2.2.1 cx.2.2.2.2 tk_RX2_63 dX2_many_27 ?_
    exact ro_ret cx hr hlocks (hR.symm) dX2_many_29
  · skip
    refine lv_iload_n hx hb dX2_many_8 rfl (lv_at hl 2 rfl) ?_
    refine ts_iconst hx hb dX2_many_9 ?_
    refine ts_iconst hx hb dX2_many_10 ?_
    refine ps_call (rest := []) cx hl (c_X2_in l w 0 4 (by omega)) tg_RX2_48 ⟨rfl, rfl⟩ 3 rfl (by decide +kernel) ⟨Nat.le_of_ble_eq_true rfl, Nat.le_of_ble_eq_true rfl⟩ ⟨Nat.zero_le _, Nat.zero_le _⟩ (Nat.le_of_ble_eq_true rfl) dX2_many_11 (rfl) (fun z11 hz11 => ?_)
    refine ts_if_eq (tgt := 27) hx hb (by omega) dX2_many_14 (by decide) (fun c14 => ?_) (fun c14 => ?_)
    · skip
      have hR : manyR S x w kk = -1000001 := by
        unfold manyR isP
        rw [if_pos (by omega)]
      refine ts_ldc (z := -1000001) hx hb cx.2.2.2.1 cx.2.2.2.2 tk_RX2_63 dX2_many_27 ?_
      exact ro_ret cx hr hlocks (hR.symm) dX2_many_29
    · skip
      refine lv_iload_n hx hb dX2_many_17 rfl (lv_at hl 3 rfl) ?_
      refine ts_iconst hx hb dX2_many_18 ?_
      refine ts_bipush hx hb dX2_many_19 (by decide) ?_
      refine ps_call (rest := []) cx hl (c_X2_in l kk 0 10 (by omega)) tg_RX2_48 ⟨rfl, rfl⟩ 3 rfl (by decide +kernel) ⟨Nat.le_of_ble_eq_true rfl, Nat.le_of_ble_eq_true rfl⟩ ⟨Nat.zero_le _, Nat.zero_le _⟩ (Nat.le_of_ble_eq_true rfl) dX2_many_21 (rfl) (fun z21 hz21 => ?_)
      refine ts_if_ne (tgt := 30) hx hb (by omega) dX2_many_24 (by decide) (fun c24 => ?_) (fun c24 => ?_)
      · skip
        refine lv_aload_n hx hb dX2_many_30 rfl (lv_at hl 0 rfl) ?_
        refine lv_iload_n hx hb dX2_many_31 rfl (lv_at hl 1 rfl) ?_
        refine lv_iload_n hx hb dX2_many_32 rfl (lv_at hl 2 rfl) ?_
        refine ts_iconst hx hb dX2_many_33 ?_
        refine ts_icmp_ne (tgt := 41) hx hb (by omega) dX2_many_34 (by decide) (fun c34 => ?_) (fun c34 => ?_)
        · skip
          have hw4 : w ≠ 4 := by omega
          refine lv_iload_n hx hb dX2_many_41 rfl (lv_at hl 2 rfl) ?_
          refine lv_iload_n hx hb dX2_many_42 rfl (lv_at hl 2 rfl) ?_
          refine ts_iconst hx hb dX2_many_43 ?_
          refine ts_icmp_ne (tgt := 51) hx hb (by omega) dX2_many_44 (by decide) (fun c44 => ?_) (fun c44 => ?_)
          · skip
            refine lv_iload_n hx hb dX2_many_51 rfl (lv_at hl 2 rfl) ?_
            refine lv_iload_n hx hb dX2_many_52 rfl (lv_at hl 3 rfl) ?_
            refine mm_callr (rest := []) cx hK hA hw hl (c_X2_cardsOf l x w w x.toNat w.toNat w.toNat (by omega) kk g S hx0 hv0 (by omega)) tg_RX2_128 ⟨rfl, rfl⟩ 4 rfl (by decide +kernel) ⟨Nat.le_of_ble_eq_true rfl, Nat.le_of_ble_eq_true rfl⟩ ⟨Nat.zero_le _, Nat.zero_le _⟩ (Nat.le_of_ble_eq_true rfl) dX2_many_53 (rfl) (fun z53 hz53 => ?_)
            have hR : manyR S x w kk = z53 := by
              unfold manyR isP
              rw [if_neg (by omega)]
              first
                | (rw [if_pos hw4, hz53]) <;> done
                | (rw [if_neg hw4, hz53, show w.toNat + 1 - w.toNat = 1 by omega])
            exact ro_ret cx hr hlocks (hR.symm) dX2_many_56
          · exfalso
            omega
        · skip
          have hw4 : w = 4 := by omega
          refine ts_iconst hx hb dX2_many_37 ?_
          refine lv_goto (tgt := 42) hx hb dX2_many_38 (by decide) ?_
          refine lv_iload_n hx hb dX2_many_42 rfl (lv_at hl 2 rfl) ?_
          refine ts_iconst hx hb dX2_many_43 ?_
          refine ts_icmp_ne (tgt := 51) hx hb (by omega) dX2_many_44 (by decide) (fun c44 => ?_) (fun c44 => ?_)
          · exfalso
            omega
          · skip
            refine ts_iconst hx hb dX2_many_47 ?_
            refine lv_goto (tgt := 52) hx hb dX2_many_48 (by decide) ?_
            refine lv_iload_n hx hb dX2_many_52 rfl (lv_at hl 3 rfl) ?_
            refine mm_callr (rest := []) cx hK hA hw hl (c_X2_cardsOf l x 0 3 x.toNat 0 3 (by omega) kk g S hx0 hv0 (by omega)) tg_RX2_128 ⟨rfl, rfl⟩ 4 rfl (by decide +kernel) ⟨Nat.le_of_ble_eq_true rfl, Nat.le_of_ble_eq_true rfl⟩ ⟨Nat.zero_le _, Nat.zero_le _⟩ (Nat.le_of_ble_eq_true rfl) dX2_many_53 (rfl) (fun z53 hz53 => ?_)
            have hR : manyR S x w kk = z53 := by
              unfold manyR isP
              rw [if_neg (by omega)]
              first
                | (rw [if_pos hw4, hz53]) <;> done
                | (rw [if_neg hw4, hz53, show w.toNat + 1 - w.toNat = 1 by omega])
            exact ro_ret cx hr hlocks (hR.symm) dX2_many_56
      · skip
        have hR : manyR S x w kk = -1000001 := by
          unfold manyR isP
          rw [if_pos (by omega)]
        refine ts_ldc (z := -1000001) hx hb cx.2.2.2.1 cx.2.2.2.2 tk_RX2_63 dX2_many_27 ?_
        exact ro_ret cx hr hlocks (hR.symm) dX2_many_29
set_option maxHeartbeats 4000000 in
set_option maxRecDepth 100000 in
theorem c_X2_points (l : Launch) (x : Int) (g : GS) (S : StT) (hx0 : RM g S) (hv0 : VS S) (hkb : (-2147483648 ≤ x ∧ x ≤ 2147483647)) : mmRi l yX2_points (wU yX2_points cX2_points 2 (some .int)) ({ frames := 4, cells := 0, slots := 0, locals := 93 } : Room) [.int (iN x)] g (fun z => z = pointsR S x) := by
  refine mmRi_of (by decide) (Nat.le_of_ble_eq_true rfl) ?_
  intro p e s m args below meth c D cI tb ad A ls cx hr hlocks hK hA hw hl
  have hx := cx.1
  have hb := cx.2.1
  have hl : lv_has ls 2 [(0, .ref (ad 0)), (1, .int (iN x))] := hl
  have hvb := VS_nums hv0
  refine lv_aload_n hx hb dX2_points_0 rfl (lv_at hl 0 rfl) ?_
  refine lv_iload_n hx hb dX2_points_1 rfl (lv_at hl 1 rfl) ?_
  refine mm_callr (rest := []) cx hK hA hw hl (c_X2_isPlayer l x g S hx0 hv0 (by omega)) tg_RX2_124 ⟨rfl, rfl⟩ 1 rfl (by decide +kernel) ⟨Nat.le_of_ble_eq_true rfl, Nat.le_of_ble_eq_true rfl⟩ ⟨Nat.zero_le _, Nat.zero_le _⟩ (Nat.le_of_ble_eq_true rfl) dX2_points_2 (rfl) (fun z2 hz2 => ?_)
  refine ts_if_eq (tgt := 16) hx hb (by omega) dX2_points_5 (by decide) (fun c5 => ?_) (fun c5 => ?_)
  · skip
    have hR : pointsR S x = -1000001 := by
      unfold pointsR isP
      rw [if_neg (by omega)]
    refine ts_ldc (z := -1000001) hx hb cx.2.2.2.1 cx.2.2.2.2 tk_RX2_63 dX2_points_16 ?_
    exact ro_ret cx hr hlocks (hR.symm) dX2_points_18
  · skip
    refine lv_aload_n hx hb dX2_points_8 rfl (lv_at hl 0 rfl) ?_
    refine lv_iload_n hx hb dX2_points_9 rfl (lv_at hl 1 rfl) ?_
    refine mm_callr (rest := []) cx hK hA hw hl (c_X2_pointsBy l x x.toNat (by omega) g S hx0 hv0) tg_RX2_135 ⟨rfl, rfl⟩ 1 rfl (by decide +kernel) ⟨Nat.le_of_ble_eq_true rfl, Nat.le_of_ble_eq_true rfl⟩ ⟨Nat.zero_le _, Nat.zero_le _⟩ (Nat.le_of_ble_eq_true rfl) dX2_points_10 (rfl) (fun z10 hz10 => ?_)
    have hR : pointsR S x = z10 := by
      unfold pointsR isP
      rw [if_pos (by omega), hz10]
    refine lv_goto (tgt := 18) hx hb dX2_points_13 (by decide) ?_
    exact ro_ret cx hr hlocks (hR.symm) dX2_points_18
set_option maxHeartbeats 4000000 in
set_option maxRecDepth 100000 in
theorem c_X2_kindOf (l : Launch) (kk what : Int) (g : GS) (S : StT) (hx0 : RM g S) (hv0 : VS S) (hkb : (-2147483648 ≤ kk ∧ kk ≤ 2147483647) ∧ (-2147483648 ≤ what ∧ what ≤ 2147483647)) : mmRi l yX2_kindOf (wU yX2_kindOf cX2_kindOf 3 (some .int)) ({ frames := 2, cells := 0, slots := 0, locals := 42 } : Room) [.int (iN kk), .int (iN what)] g (fun z => z = kindR S kk what) := by
  refine mmRi_of (by decide) (Nat.le_of_ble_eq_true rfl) ?_
  intro p e s m args below meth c D cI tb ad A ls cx hr hlocks hK hA hw hl
  have hx := cx.1
  have hb := cx.2.1
  have hl : lv_has ls 3 [(0, .ref (ad 0)), (1, .int (iN kk)), (2, .int (iN what))] := hl
  have hvb := VS_nums hv0
  refine lv_iload_n hx hb dX2_kindOf_0 rfl (lv_at hl 1 rfl) ?_
  refine ts_iconst hx hb dX2_kindOf_1 ?_
  refine ts_bipush hx hb dX2_kindOf_2 (by decide) ?_
  refine ps_call (rest := []) cx hl (c_X2_in l kk 0 9 (by omega)) tg_RX2_48 ⟨rfl, rfl⟩ 3 rfl (by decide +kernel) ⟨Nat.le_of_ble_eq_true rfl, Nat.le_of_ble_eq_true rfl⟩ ⟨Nat.zero_le _, Nat.zero_le _⟩ (Nat.le_of_ble_eq_true rfl) dX2_kindOf_4 (rfl) (fun z4 hz4 => ?_)
  refine ts_if_ne (tgt := 13) hx hb (by omega) dX2_kindOf_7 (by decide) (fun c7 => ?_) (fun c7 => ?_)
  · skip
    refine lv_iload_n hx hb dX2_kindOf_13 rfl (lv_at hl 2 rfl) ?_
    by_cases c14 : what < 0 ∨ 4 < what
    · refine lv_tableOut (tgt := 93) hx hb dX2_kindOf_14 (by rw [toInt_iN (by omega)]; exact c14) (by decide) ?_
      have hR : kindR S kk what = -1000001 := by
        unfold kindR
        rw [if_neg (by omega), if_neg (by omega), if_neg (by omega), if_neg (by omega), if_neg (by omega), if_neg (by omega)]
      refine ts_ldc (z := -1000001) hx hb cx.2.2.2.1 cx.2.2.2.2 tk_RX2_63 dX2_kindOf_93 ?_
      exact ro_ret cx hr hlocks (hR.symm) dX2_kindOf_95
    · have c14_ : what = 0 ∨ what = 1 ∨ what = 2 ∨ what = 3 ∨ what = 4 := by omega
      rcases c14_ with c14 | c14 | c14 | c14 | c14
      · refine lv_tableIn (off := 34) (tgt := 48) hx hb dX2_kindOf_14 (by rw [toInt_iN (by omega)]; omega) (by rw [toInt_iN (by omega)]; omega) (by rw [toInt_iN (by omega), c14]; rfl) (by decide) ?_
        refine lv_iload_n hx hb dX2_kindOf_48 rfl (lv_at hl 1 rfl) ?_
        refine ps_call (rest := []) cx hl (c_X2_price l kk kk.toNat (by omega)) tg_RX2_77 ⟨rfl, rfl⟩ 1 rfl (by decide +kernel) ⟨Nat.le_of_ble_eq_true rfl, Nat.le_of_ble_eq_true rfl⟩ ⟨Nat.zero_le _, Nat.zero_le _⟩ (Nat.le_of_ble_eq_true rfl) dX2_kindOf_49 (rfl) (fun z49 hz49 => ?_)
        have hR : kindR S kk what = z49 := by
          unfold kindR
          rw [if_neg (by omega), if_pos (by omega), hz49]
        exact ro_ret cx hr hlocks (hR.symm) dX2_kindOf_52
      · refine lv_tableIn (off := 39) (tgt := 53) hx hb dX2_kindOf_14 (by rw [toInt_iN (by omega)]; omega) (by rw [toInt_iN (by omega)]; omega) (by rw [toInt_iN (by omega), c14]; rfl) (by decide) ?_
        refine lv_aload_n hx hb dX2_kindOf_53 rfl (lv_at hl 0 rfl) ?_
        refine mm_get0 cx hK hw tl_RX2_7 dX2_kindOf_54 ?_
        refine ts_bipush hx hb dX2_kindOf_57 (by decide) ?_
        refine lv_iload_n hx hb dX2_kindOf_59 rfl (lv_at hl 1 rfl) ?_
        refine ts_iadd hx hb dX2_kindOf_60 (fun z60 hz60 => ?_)
        refine mm_ld0 cx hK hw (10 + kk.toNat) (by omega) dX2_kindOf_61 (fun z61 hz61 => ?_)
        have hR : kindR S kk what = z61 := by
          unfold kindR
          rw [if_neg (by omega), if_neg (by omega), if_pos (by omega), hz61, hx0.1 _ (by omega)]
        exact ro_ret cx hr hlocks (hR.symm) dX2_kindOf_62
      · refine lv_tableIn (off := 49) (tgt := 63) hx hb dX2_kindOf_14 (by rw [toInt_iN (by omega)]; omega) (by rw [toInt_iN (by omega)]; omega) (by rw [toInt_iN (by omega), c14]; rfl) (by decide) ?_
        refine lv_aload_n hx hb dX2_kindOf_63 rfl (lv_at hl 0 rfl) ?_
        refine lv_iload_n hx hb dX2_kindOf_64 rfl (lv_at hl 1 rfl) ?_
        refine mm_callr (rest := []) cx hK hA hw hl (c_X2_isInRow l kk kk.toNat g S hx0 hv0 (by omega)) tg_RX2_74 ⟨rfl, rfl⟩ 1 rfl (by decide +kernel) ⟨Nat.le_of_ble_eq_true rfl, Nat.le_of_ble_eq_true rfl⟩ ⟨Nat.zero_le _, Nat.zero_le _⟩ (Nat.le_of_ble_eq_true rfl) dX2_kindOf_65 (rfl) (fun z65 hz65 => ?_)
        refine ts_if_eq (tgt := 75) hx hb (by omega) dX2_kindOf_68 (by decide) (fun c68 => ?_) (fun c68 => ?_)
        · skip
          have hR : kindR S kk what = 0 := by
            unfold kindR
            rw [if_neg (by omega), if_neg (by omega), if_neg (by omega), if_pos (by omega), if_neg (by omega)]
          refine ts_iconst hx hb dX2_kindOf_75 ?_
          exact ro_ret cx hr hlocks (hR.symm) dX2_kindOf_76
        · skip
          have hR : kindR S kk what = 1 := by
            unfold kindR
            rw [if_neg (by omega), if_neg (by omega), if_neg (by omega), if_pos (by omega), if_pos (by omega)]
          refine ts_iconst hx hb dX2_kindOf_71 ?_
          refine lv_goto (tgt := 76) hx hb dX2_kindOf_72 (by decide) ?_
          exact ro_ret cx hr hlocks (hR.symm) dX2_kindOf_76
      · refine lv_tableIn (off := 63) (tgt := 77) hx hb dX2_kindOf_14 (by rw [toInt_iN (by omega)]; omega) (by rw [toInt_iN (by omega)]; omega) (by rw [toInt_iN (by omega), c14]; rfl) (by decide) ?_
        refine lv_aload_n hx hb dX2_kindOf_77 rfl (lv_at hl 0 rfl) ?_
        refine mm_get0 cx hK hw tl_RX2_7 dX2_kindOf_78 ?_
        refine ts_bipush hx hb dX2_kindOf_81 (by decide) ?_
        refine lv_iload_n hx hb dX2_kindOf_83 rfl (lv_at hl 1 rfl) ?_
        refine ts_iadd hx hb dX2_kindOf_84 (fun z84 hz84 => ?_)
        refine mm_ld0 cx hK hw (20 + kk.toNat) (by omega) dX2_kindOf_85 (fun z85 hz85 => ?_)
        have hR : kindR S kk what = z85 := by
          unfold kindR
          rw [if_neg (by omega), if_neg (by omega), if_neg (by omega), if_neg (by omega), if_pos (by omega), hz85, hx0.1 _ (by omega)]
        exact ro_ret cx hr hlocks (hR.symm) dX2_kindOf_86
      · refine lv_tableIn (off := 73) (tgt := 87) hx hb dX2_kindOf_14 (by rw [toInt_iN (by omega)]; omega) (by rw [toInt_iN (by omega)]; omega) (by rw [toInt_iN (by omega), c14]; rfl) (by decide) ?_
        refine lv_aload_n hx hb dX2_kindOf_87 rfl (lv_at hl 0 rfl) ?_
        refine lv_iload_n hx hb dX2_kindOf_88 rfl (lv_at hl 1 rfl) ?_
        refine mm_callr (rest := []) cx hK hA hw hl (c_X2_whyNot l kk kk.toNat g S hx0 hv0 (by omega)) tg_RX2_80 ⟨rfl, rfl⟩ 1 rfl (by decide +kernel) ⟨Nat.le_of_ble_eq_true rfl, Nat.le_of_ble_eq_true rfl⟩ ⟨Nat.zero_le _, Nat.zero_le _⟩ (Nat.le_of_ble_eq_true rfl) dX2_kindOf_89 (rfl) (fun z89 hz89 => ?_)
        have hR : kindR S kk what = z89 := by
          unfold kindR
          rw [if_neg (by omega), if_neg (by omega), if_neg (by omega), if_neg (by omega), if_neg (by omega), if_pos (by omega), hz89]
        exact ro_ret cx hr hlocks (hR.symm) dX2_kindOf_92
  · skip
    have hR : kindR S kk what = -1000001 := by
      unfold kindR
      rw [if_pos (by omega)]
    refine ts_ldc (z := -1000001) hx hb cx.2.2.2.1 cx.2.2.2.2 tk_RX2_63 dX2_kindOf_10 ?_
    exact ro_ret cx hr hlocks (hR.symm) dX2_kindOf_12
set_option maxHeartbeats 4000000 in
set_option maxRecDepth 100000 in
theorem c_X2_turn (l : Launch) (what : Int) (g : GS) (S : StT) (hx0 : RM g S) (hv0 : VS S) (hkb : (-2147483648 ≤ what ∧ what ≤ 2147483647)) : mmRi l yX2_turn (wU yX2_turn cX2_turn 2 (some .int)) ({ frames := 3, cells := 0, slots := 0, locals := 64 } : Room) [.int (iN what)] g (fun z => z = turnR S what) := by
  refine mmRi_of (by decide) (Nat.le_of_ble_eq_true rfl) ?_
  intro p e s m args below meth c D cI tb ad A ls cx hr hlocks hK hA hw hl
  have hx := cx.1
  have hb := cx.2.1
  have hl : lv_has ls 2 [(0, .ref (ad 0)), (1, .int (iN what))] := hl
  have hvb := VS_nums hv0
  refine lv_iload_n hx hb dX2_turn_0 rfl (lv_at hl 1 rfl) ?_
  refine ts_iconst hx hb dX2_turn_1 ?_
  refine ts_icmp_ne (tgt := 12) hx hb (by omega) dX2_turn_2 (by decide) (fun c2 => ?_) (fun c2 => ?_)
  · skip
    refine lv_iload_n hx hb dX2_turn_12 rfl (lv_at hl 1 rfl) ?_
    refine ts_bipush hx hb dX2_turn_13 (by decide) ?_
    refine ts_icmp_ne (tgt := 28) hx hb (by omega) dX2_turn_15 (by decide) (fun c15 => ?_) (fun c15 => ?_)
    · skip
      refine lv_iload_n hx hb dX2_turn_28 rfl (lv_at hl 1 rfl) ?_
      refine ts_iconst hx hb dX2_turn_29 ?_
      refine ts_iconst hx hb dX2_turn_30 ?_
      refine ps_call (rest := []) cx hl (c_X2_in l what 0 4 (by omega)) tg_RX2_48 ⟨rfl, rfl⟩ 3 rfl (by decide +kernel) ⟨Nat.le_of_ble_eq_true rfl, Nat.le_of_ble_eq_true rfl⟩ ⟨Nat.zero_le _, Nat.zero_le _⟩ (Nat.le_of_ble_eq_true rfl) dX2_turn_31 (rfl) (fun z31 hz31 => ?_)
      refine ts_if_eq (tgt := 48) hx hb (by omega) dX2_turn_34 (by decide) (fun c34 => ?_) (fun c34 => ?_)
      · skip
        have hR : turnR S what = -1000001 := by
          unfold turnR
          rw [if_neg (by omega), if_neg (by omega), if_neg (by omega)]
        refine ts_ldc (z := -1000001) hx hb cx.2.2.2.1 cx.2.2.2.2 tk_RX2_63 dX2_turn_48 ?_
        exact ro_ret cx hr hlocks (hR.symm) dX2_turn_50
      · skip
        refine lv_aload_n hx hb dX2_turn_37 rfl (lv_at hl 0 rfl) ?_
        refine mm_get0 cx hK hw tl_RX2_7 dX2_turn_38 ?_
        refine ts_iconst hx hb dX2_turn_41 ?_
        refine lv_iload_n hx hb dX2_turn_42 rfl (lv_at hl 1 rfl) ?_
        refine ts_iadd hx hb dX2_turn_43 (fun z43 hz43 => ?_)
        refine mm_ld0 cx hK hw (1 + what.toNat) (by omega) dX2_turn_44 (fun z44 hz44 => ?_)
        have hR : turnR S what = z44 := by
          unfold turnR
          rw [if_neg (by omega), if_neg (by omega), if_pos (by omega), hz44, hx0.1 _ (by omega)]
        refine lv_goto (tgt := 50) hx hb dX2_turn_45 (by decide) ?_
        exact ro_ret cx hr hlocks (hR.symm) dX2_turn_50
    · skip
      refine lv_aload_n hx hb dX2_turn_18 rfl (lv_at hl 0 rfl) ?_
      refine mm_get0 cx hK hw tl_RX2_7 dX2_turn_19 ?_
      refine ts_bipush hx hb dX2_turn_22 (by decide) ?_
      refine mm_ld0 cx hK hw (6) (by omega) dX2_turn_24 (fun z24 hz24 => ?_)
      have hR : turnR S what = z24 := by
        unfold turnR
        rw [if_neg (by omega), if_pos (by omega), hz24, hx0.1 _ (by omega)]
      refine lv_goto (tgt := 50) hx hb dX2_turn_25 (by decide) ?_
      exact ro_ret cx hr hlocks (hR.symm) dX2_turn_50
  · skip
    refine lv_aload_n hx hb dX2_turn_5 rfl (lv_at hl 0 rfl) ?_
    refine mm_callr (rest := []) cx hK hA hw hl (c_X2_canBuy l g S hx0 hv0) tg_RX2_138 ⟨rfl, rfl⟩ 0 rfl (by decide +kernel) ⟨Nat.le_of_ble_eq_true rfl, Nat.le_of_ble_eq_true rfl⟩ ⟨Nat.zero_le _, Nat.zero_le _⟩ (Nat.le_of_ble_eq_true rfl) dX2_turn_6 (rfl) (fun z6 hz6 => ?_)
    have hR : turnR S what = z6 := by
      unfold turnR
      rw [if_pos (by omega), hz6]
    refine lv_goto (tgt := 50) hx hb dX2_turn_9 (by decide) ?_
    exact ro_ret cx hr hlocks (hR.symm) dX2_turn_50
theorem purse_b (x : Int) : 0 ≤ purseF x ∧ purseF x ≤ 60 := by
  unfold purseF
  have := tv_b 1 x.toNat
  have e : ∀ k : Fin 10, 0 ≤ tv 1 k.1 := by decide +kernel
  split
  · by_cases h : x.toNat < 10
    · have e2 : 0 ≤ tv 1 x.toNat := e ⟨x.toNat, h⟩
      omega
    · omega
  · omega
set_option maxHeartbeats 4000000 in
set_option maxRecDepth 100000 in
theorem c_X2_purse (l : Launch) (g : GS) (S : StT) (hx0 : RM g S) (hv0 : VS S) : mmRi l yX2_purse (wU yX2_purse cX2_purse 3 (some .int)) ({ frames := 2, cells := 0, slots := 0, locals := 43 } : Room) [] g (fun z => z = purseR S) := by
  refine mmRi_of (by decide) (Nat.le_of_ble_eq_true rfl) ?_
  intro p e s m args below meth c D cI tb ad A ls cx hr hlocks hK hA hw hl
  have hx := cx.1
  have hb := cx.2.1
  have hl : lv_has ls 3 [(0, .ref (ad 0))] := hl
  have hpl := VS_pl hv0
  have s0 := hx0.1 0 (by omega)
  have s1 := hx0.1 1 (by omega)
  have s2 := hx0.1 2 (by omega)
  have s3 := hx0.1 3 (by omega)
  have s4 := hx0.1 4 (by omega)
  have s5 := hx0.1 5 (by omega)
  have s6 := hx0.1 6 (by omega)
  have s8 := hx0.1 8 (by omega)
  have hvb := VS_nums hv0
  obtain ⟨hh1, hh2, hh3⟩ := hx0.2 (pl S) 1 hpl.1 (by omega)
  have hhl : (S.2 (pl S) 1).length = (hand S).length := rfl
  refine lv_aload_n hx hb dX2_purse_0 rfl (lv_at hl 0 rfl) ?_
  refine mm_get0 cx hK hw tl_RX2_7 dX2_purse_1 ?_
  refine ts_iconst hx hb dX2_purse_4 ?_
  refine mm_ld0 cx hK hw (2) (by omega) dX2_purse_5 (fun z5 hz5 => ?_)
  refine lv_istore_n (lv' := [(1, .int (iN z5)), (0, .ref (ad 0))]) hx hb dX2_purse_6 rfl hl (by decide) rfl (fun ls hl => ?_)
  refine ts_iconst hx hb dX2_purse_7 ?_
  refine lv_istore_n (lv' := [(2, .int (iN 0)), (1, .int (iN z5)), (0, .ref (ad 0))]) hx hb dX2_purse_8 rfl hl (by decide) rfl (fun ls hl => ?_)
  have cut9 : ∀ (fu : Nat) (n : Int) (i : Int) (hmu : ((hand S).length - i).toNat < fu) (hi2 : 0 ≤ i ∧ i ≤ (hand S).length) (hn2 : n = S.1 2 + lsum purseF ((hand S).take i.toNat) ∧ 0 ≤ n ∧ n ≤ 1000 + 60 * i) (ls : Array Slot) (hl : lv_has ls 3 [(0, .ref (ad 0)), (1, .int (iN n)), (2, .int (iN i))]), W p l e ({ frames := 2, cells := 0, slots := 0, locals := 43 } : Room) s m args below meth c s.heap [] 0 0 (roQ below args s (fun z => z = purseR S)) (F0 m 9 ls []) := by
    intro fu
    induction fu with
    | zero => intro n i hmu; exact absurd hmu (Nat.not_lt_zero _)
    | succ fu ih9 =>
      intro n i hmu hi2 hn2 ls hl
      refine lv_iload_n hx hb dX2_purse_9 rfl (lv_at hl 2 rfl) ?_
      refine lv_aload_n hx hb dX2_purse_10 rfl (lv_at hl 0 rfl) ?_
      refine lv_aload_n hx hb dX2_purse_11 rfl (lv_at hl 0 rfl) ?_
      refine mm_get0 cx hK hw tl_RX2_7 dX2_purse_12 ?_
      refine ts_iconst hx hb dX2_purse_15 ?_
      refine mm_ld0 cx hK hw (1) (by omega) dX2_purse_16 (fun z16 hz16 => ?_)
      refine ts_iconst hx hb dX2_purse_17 ?_
      refine mm_callr (rest := [.int (iN i)]) cx hK hA hw hl (c_X2_manyAt l z16 1 (pl S) 1 (by omega) g S.2 hx0.2) tg_RX2_34 ⟨rfl, rfl⟩ 2 rfl (by decide +kernel) ⟨Nat.le_of_ble_eq_true rfl, Nat.le_of_ble_eq_true rfl⟩ ⟨Nat.zero_le _, Nat.zero_le _⟩ (Nat.le_of_ble_eq_true rfl) dX2_purse_18 (rfl) (fun z18 hz18 => ?_)
      refine ts_icmp_ge (tgt := 54) hx hb (by omega) dX2_purse_21 (by decide) (fun c21 => ?_) (fun c21 => ?_)
      · skip
        refine lv_iload_n hx hb dX2_purse_54 rfl (lv_at hl 1 rfl) ?_
        exact ro_ret cx hr hlocks (by rw [hn2.1, show i.toNat = (hand S).length by omega, List.take_length]; rfl) dX2_purse_55
      · skip
        have hhb := VS_hand hv0 (k := i.toNat) (by omega)
        have hst := lsum_take purseF (hand S) i.toNat (by omega)
        have hpb := purse_b ((hand S).getD i.toNat 0)
        have hl164 := hh2
        refine lv_iload_n hx hb dX2_purse_24 rfl (lv_at hl 1 rfl) ?_
        refine lv_aload_n hx hb dX2_purse_25 rfl (lv_at hl 0 rfl) ?_
        refine lv_iload_n hx hb dX2_purse_26 rfl (lv_at hl 2 rfl) ?_
        refine mm_callr (rest := [.int (iN n)]) cx hK hA hw hl (c_X2_inHand l i i.toNat g S hx0 hv0 (by omega)) tg_RX2_64 ⟨rfl, rfl⟩ 1 rfl (by decide +kernel) ⟨Nat.le_of_ble_eq_true rfl, Nat.le_of_ble_eq_true rfl⟩ ⟨Nat.zero_le _, Nat.zero_le _⟩ (Nat.le_of_ble_eq_true rfl) dX2_purse_27 (rfl) (fun z27 hz27 => ?_)
        refine ts_iconst hx hb dX2_purse_30 ?_
        refine ts_icmp_ge (tgt := 45) hx hb (by omega) dX2_purse_31 (by decide) (fun c31 => ?_) (fun c31 => ?_)
        · skip
          have hpf : purseF ((hand S).getD i.toNat 0) = 0 := by
            unfold purseF
            rw [if_neg (by omega)]
          refine ts_iconst hx hb dX2_purse_45 ?_
          refine ts_iadd hx hb dX2_purse_46 (fun z46 hz46 => ?_)
          refine lv_istore_n (lv' := [(1, .int (iN z46)), (0, .ref (ad 0)), (2, .int (iN i))]) hx hb dX2_purse_47 rfl hl (by decide) rfl (fun ls hl => ?_)
          obtain ⟨z48, hz48⟩ : ∃ z : Int, z = i + 1 := ⟨_, rfl⟩
          refine lv_iinc (v := iN z48) (lv' := [(2, .int (iN z48)), (1, .int (iN z46)), (0, .ref (ad 0))]) hx hb dX2_purse_48 hl (k := 2) rfl (by rw [hz48]; exact iN_add _ _) (by decide) rfl (fun ls hl => ?_)
          have hsn : z46 = S.1 2 + lsum purseF ((hand S).take z48.toNat) ∧ 0 ≤ z46 ∧ z46 ≤ 1000 + 60 * z48 := by
            rw [show z48.toNat = i.toNat + 1 by omega, hst]
            omega
          refine lv_goto (tgt := 9) hx hb dX2_purse_51 (by decide) ?_
          exact ih9 (z46) (z48) (by omega) (by omega) (hsn) _ (lv_sub hl [2, 1, 0] rfl)
        · skip
          refine lv_aload_n hx hb dX2_purse_34 rfl (lv_at hl 0 rfl) ?_
          refine lv_iload_n hx hb dX2_purse_35 rfl (lv_at hl 2 rfl) ?_
          refine mm_callr (rest := [.int (iN n)]) cx hK hA hw hl (c_X2_inHand l i i.toNat g S hx0 hv0 (by omega)) tg_RX2_64 ⟨rfl, rfl⟩ 1 rfl (by decide +kernel) ⟨Nat.le_of_ble_eq_true rfl, Nat.le_of_ble_eq_true rfl⟩ ⟨Nat.zero_le _, Nat.zero_le _⟩ (Nat.le_of_ble_eq_true rfl) dX2_purse_36 (rfl) (fun z36 hz36 => ?_)
          have hpf : purseF ((hand S).getD i.toNat 0) = tv 1 z36.toNat := by
            unfold purseF
            rw [if_pos (by omega), hz36]
          refine ps_call (rest := [.int (iN n)]) cx hl (c_X2_coins l z36 z36.toNat (by omega)) tg_RX2_68 ⟨rfl, rfl⟩ 1 rfl (by decide +kernel) ⟨Nat.le_of_ble_eq_true rfl, Nat.le_of_ble_eq_true rfl⟩ ⟨Nat.zero_le _, Nat.zero_le _⟩ (Nat.le_of_ble_eq_true rfl) dX2_purse_39 (rfl) (fun z39 hz39 => ?_)
          refine lv_goto (tgt := 46) hx hb dX2_purse_42 (by decide) ?_
          refine ts_iadd hx hb dX2_purse_46 (fun z46 hz46 => ?_)
          refine lv_istore_n (lv' := [(1, .int (iN z46)), (0, .ref (ad 0)), (2, .int (iN i))]) hx hb dX2_purse_47 rfl hl (by decide) rfl (fun ls hl => ?_)
          obtain ⟨z48, hz48⟩ : ∃ z : Int, z = i + 1 := ⟨_, rfl⟩
          refine lv_iinc (v := iN z48) (lv' := [(2, .int (iN z48)), (1, .int (iN z46)), (0, .ref (ad 0))]) hx hb dX2_purse_48 hl (k := 2) rfl (by rw [hz48]; exact iN_add _ _) (by decide) rfl (fun ls hl => ?_)
          have hsn : z46 = S.1 2 + lsum purseF ((hand S).take z48.toNat) ∧ 0 ≤ z46 ∧ z46 ≤ 1000 + 60 * z48 := by
            rw [show z48.toNat = i.toNat + 1 by omega, hst]
            omega
          refine lv_goto (tgt := 9) hx hb dX2_purse_51 (by decide) ?_
          exact ih9 (z46) (z48) (by omega) (by omega) (hsn) _ (lv_sub hl [2, 1, 0] rfl)
  exact cut9 _ (z5) (0) (Nat.lt_succ_self _) (by omega) (⟨by rw [hz5, s2, show (0 : Int).toNat = 0 from rfl, List.take_zero]; exact (Int.add_zero _).symm, by omega⟩) _ (lv_sub hl [2, 1, 0] rfl)
set_option maxHeartbeats 4000000 in
set_option maxRecDepth 100000 in
theorem c_X2_count (l : Launch) (what : Int) (g : GS) (T : TT) (hf : FM g T) (hv : VT T) (hkb : (-2147483648 ≤ what ∧ what ≤ 2147483647)) : mmRi l yX2_count (wU yX2_count cX2_count 2 (some .int)) ({ frames := 1, cells := 0, slots := 0, locals := 23 } : Room) [.int (iN what)] g (fun z => z = countR T what) := by
  refine mmRi_of (by decide) (Nat.le_of_ble_eq_true rfl) ?_
  intro p e s m args below meth c D cI tb ad A ls cx hr hlocks hK hA hw hl
  have hx := cx.1
  have hb := cx.2.1
  have hl : lv_has ls 2 [(0, .ref (ad 0)), (1, .int (iN what))] := hl
  have hvb := VS_nums hv.1
  refine lv_iload_n hx hb dX2_count_0 rfl (lv_at hl 1 rfl) ?_
  by_cases c1 : what < 0 ∨ 20 < what
  · refine lv_tableOut (tgt := 160) hx hb dX2_count_1 (by rw [toInt_iN (by omega)]; exact c1) (by decide) ?_
    have hR : countR T what = -1000001 := by
      unfold countR
      rw [if_neg (by omega), if_neg (by omega), if_neg (by omega), if_neg (by omega), if_neg (by omega), if_neg (by omega), if_neg (by omega), if_neg (by omega), if_neg (by omega)]
    refine ts_ldc (z := -1000001) hx hb cx.2.2.2.1 cx.2.2.2.2 tk_RX2_63 dX2_count_160 ?_
    exact ro_ret cx hr hlocks (hR.symm) dX2_count_162
  · have c1_ : what = 0 ∨ what = 1 ∨ what = 2 ∨ what = 3 ∨ what = 4 ∨ what = 5 ∨ what = 6 ∨ what = 7 ∨ what = 8 ∨ what = 9 ∨ what = 10 ∨ what = 11 ∨ what = 12 ∨ what = 13 ∨ what = 14 ∨ what = 15 ∨ what = 16 ∨ what = 17 ∨ what = 18 ∨ what = 19 ∨ what = 20 := by omega
    rcases c1_ with c1 | c1 | c1 | c1 | c1 | c1 | c1 | c1 | c1 | c1 | c1 | c1 | c1 | c1 | c1 | c1 | c1 | c1 | c1 | c1 | c1
    · refine lv_tableIn (off := 99) (tgt := 100) hx hb dX2_count_1 (by rw [toInt_iN (by omega)]; omega) (by rw [toInt_iN (by omega)]; omega) (by rw [toInt_iN (by omega), c1]; rfl) (by decide) ?_
      refine lv_aload_n hx hb dX2_count_100 rfl (lv_at hl 0 rfl) ?_
      refine mm_get0 cx hK hw tl_RX2_7 dX2_count_101 ?_
      refine ts_iconst hx hb dX2_count_104 ?_
      refine mm_ld0 cx hK hw (0) (by omega) dX2_count_105 (fun z105 hz105 => ?_)
      have hR : countR T what = z105 := by
        unfold countR
        rw [if_pos (by omega), hz105, hf.1.1 _ (by omega)]
      exact ro_ret cx hr hlocks (hR.symm) dX2_count_106
    · refine lv_tableIn (off := 106) (tgt := 107) hx hb dX2_count_1 (by rw [toInt_iN (by omega)]; omega) (by rw [toInt_iN (by omega)]; omega) (by rw [toInt_iN (by omega), c1]; rfl) (by decide) ?_
      refine lv_aload_n hx hb dX2_count_107 rfl (lv_at hl 0 rfl) ?_
      refine mm_get0 cx hK hw tl_RX2_7 dX2_count_108 ?_
      refine ts_bipush hx hb dX2_count_111 (by decide) ?_
      refine mm_ld0 cx hK hw (7) (by omega) dX2_count_113 (fun z113 hz113 => ?_)
      have hR : countR T what = z113 := by
        unfold countR
        rw [if_neg (by omega), if_pos (by omega), hz113, hf.1.1 _ (by omega)]
      exact ro_ret cx hr hlocks (hR.symm) dX2_count_114
    · refine lv_tableIn (off := 114) (tgt := 115) hx hb dX2_count_1 (by rw [toInt_iN (by omega)]; omega) (by rw [toInt_iN (by omega)]; omega) (by rw [toInt_iN (by omega), c1]; rfl) (by decide) ?_
      refine lv_aload_n hx hb dX2_count_115 rfl (lv_at hl 0 rfl) ?_
      refine mm_get0 cx hK hw tl_RX2_7 dX2_count_116 ?_
      refine ts_bipush hx hb dX2_count_119 (by decide) ?_
      refine mm_ld0 cx hK hw (8) (by omega) dX2_count_121 (fun z121 hz121 => ?_)
      have hR : countR T what = z121 := by
        unfold countR
        rw [if_neg (by omega), if_neg (by omega), if_pos (by omega), hz121, hf.1.1 _ (by omega)]
      exact ro_ret cx hr hlocks (hR.symm) dX2_count_122
    · refine lv_tableIn (off := 122) (tgt := 123) hx hb dX2_count_1 (by rw [toInt_iN (by omega)]; omega) (by rw [toInt_iN (by omega)]; omega) (by rw [toInt_iN (by omega), c1]; rfl) (by decide) ?_
      refine lv_aload_n hx hb dX2_count_123 rfl (lv_at hl 0 rfl) ?_
      refine mm_callr (rest := []) cx hK hA hw hl (c_X2_emptyPiles l g T.1.1 hf.1.1 (fun k hk => VS_pb hv.1 k (by omega))) tg_RX2_83 ⟨rfl, rfl⟩ 0 rfl (by decide +kernel) ⟨Nat.le_of_ble_eq_true rfl, Nat.le_of_ble_eq_true rfl⟩ ⟨Nat.zero_le _, Nat.zero_le _⟩ (Nat.le_of_ble_eq_true rfl) dX2_count_124 (rfl) (fun z124 hz124 => ?_)
      have hR : countR T what = z124 := by
        unfold countR
        rw [if_neg (by omega), if_neg (by omega), if_neg (by omega), if_pos (by omega), hz124]
      exact ro_ret cx hr hlocks (hR.symm) dX2_count_127
    · refine lv_tableIn (off := 127) (tgt := 128) hx hb dX2_count_1 (by rw [toInt_iN (by omega)]; omega) (by rw [toInt_iN (by omega)]; omega) (by rw [toInt_iN (by omega), c1]; rfl) (by decide) ?_
      refine lv_aload_n hx hb dX2_count_128 rfl (lv_at hl 0 rfl) ?_
      refine ts_bipush hx hb dX2_count_129 (by decide) ?_
      refine mm_callr (rest := []) cx hK hA hw hl (c_X2_sum l 20 20 (by omega) g T.1 hf.1 hv.1) tg_RX2_160 ⟨rfl, rfl⟩ 1 rfl (by decide +kernel) ⟨Nat.le_of_ble_eq_true rfl, Nat.le_of_ble_eq_true rfl⟩ ⟨Nat.zero_le _, Nat.zero_le _⟩ (Nat.le_of_ble_eq_true rfl) dX2_count_131 (rfl) (fun z131 hz131 => ?_)
      have hR : countR T what = z131 := by
        unfold countR
        rw [if_neg (by omega), if_neg (by omega), if_neg (by omega), if_neg (by omega), if_pos (by omega), hz131]
      exact ro_ret cx hr hlocks (hR.symm) dX2_count_134
    · refine lv_tableIn (off := 134) (tgt := 135) hx hb dX2_count_1 (by rw [toInt_iN (by omega)]; omega) (by rw [toInt_iN (by omega)]; omega) (by rw [toInt_iN (by omega), c1]; rfl) (by decide) ?_
      refine lv_aload_n hx hb dX2_count_135 rfl (lv_at hl 0 rfl) ?_
      refine ts_bipush hx hb dX2_count_136 (by decide) ?_
      refine mm_callr (rest := []) cx hK hA hw hl (c_X2_sum l 10 10 (by omega) g T.1 hf.1 hv.1) tg_RX2_160 ⟨rfl, rfl⟩ 1 rfl (by decide +kernel) ⟨Nat.le_of_ble_eq_true rfl, Nat.le_of_ble_eq_true rfl⟩ ⟨Nat.zero_le _, Nat.zero_le _⟩ (Nat.le_of_ble_eq_true rfl) dX2_count_138 (rfl) (fun z138 hz138 => ?_)
      have hR : countR T what = z138 := by
        unfold countR
        rw [if_neg (by omega), if_neg (by omega), if_neg (by omega), if_neg (by omega), if_neg (by omega), if_pos (by omega), hz138]
      exact ro_ret cx hr hlocks (hR.symm) dX2_count_141
    · refine lv_tableIn (off := 141) (tgt := 142) hx hb dX2_count_1 (by rw [toInt_iN (by omega)]; omega) (by rw [toInt_iN (by omega)]; omega) (by rw [toInt_iN (by omega), c1]; rfl) (by decide) ?_
      refine lv_aload_n hx hb dX2_count_142 rfl (lv_at hl 0 rfl) ?_
      refine mm_get3 cx hK hw tl_RX2_44 dX2_count_143 (fun z143 hz143 => ?_)
      have hR : countR T what = z143 := by
        unfold countR
        rw [if_neg (by omega), if_neg (by omega), if_neg (by omega), if_neg (by omega), if_neg (by omega), if_neg (by omega), if_pos (by omega), hz143, hf.2.1]
      exact ro_ret cx hr hlocks (hR.symm) dX2_count_146
    · refine lv_tableIn (off := 146) (tgt := 147) hx hb dX2_count_1 (by rw [toInt_iN (by omega)]; omega) (by rw [toInt_iN (by omega)]; omega) (by rw [toInt_iN (by omega), c1]; rfl) (by decide) ?_
      refine lv_aload_n hx hb dX2_count_147 rfl (lv_at hl 0 rfl) ?_
      refine mm_get5 cx hK hw tl_RX2_163 dX2_count_148 (fun z148 hz148 => ?_)
      have hR : countR T what = z148 := by
        unfold countR
        rw [if_neg (by omega), if_neg (by omega), if_neg (by omega), if_neg (by omega), if_neg (by omega), if_neg (by omega), if_neg (by omega), if_pos (by omega), hz148, hf.2.2.2.1]
      exact ro_ret cx hr hlocks (hR.symm) dX2_count_151
    · refine lv_tableIn (off := 159) (tgt := 160) hx hb dX2_count_1 (by rw [toInt_iN (by omega)]; omega) (by rw [toInt_iN (by omega)]; omega) (by rw [toInt_iN (by omega), c1]; rfl) (by decide) ?_
      have hR : countR T what = -1000001 := by
        unfold countR
        rw [if_neg (by omega), if_neg (by omega), if_neg (by omega), if_neg (by omega), if_neg (by omega), if_neg (by omega), if_neg (by omega), if_neg (by omega), if_neg (by omega)]
      refine ts_ldc (z := -1000001) hx hb cx.2.2.2.1 cx.2.2.2.2 tk_RX2_63 dX2_count_160 ?_
      exact ro_ret cx hr hlocks (hR.symm) dX2_count_162
    · refine lv_tableIn (off := 159) (tgt := 160) hx hb dX2_count_1 (by rw [toInt_iN (by omega)]; omega) (by rw [toInt_iN (by omega)]; omega) (by rw [toInt_iN (by omega), c1]; rfl) (by decide) ?_
      have hR : countR T what = -1000001 := by
        unfold countR
        rw [if_neg (by omega), if_neg (by omega), if_neg (by omega), if_neg (by omega), if_neg (by omega), if_neg (by omega), if_neg (by omega), if_neg (by omega), if_neg (by omega)]
      refine ts_ldc (z := -1000001) hx hb cx.2.2.2.1 cx.2.2.2.2 tk_RX2_63 dX2_count_160 ?_
      exact ro_ret cx hr hlocks (hR.symm) dX2_count_162
    · refine lv_tableIn (off := 159) (tgt := 160) hx hb dX2_count_1 (by rw [toInt_iN (by omega)]; omega) (by rw [toInt_iN (by omega)]; omega) (by rw [toInt_iN (by omega), c1]; rfl) (by decide) ?_
      have hR : countR T what = -1000001 := by
        unfold countR
        rw [if_neg (by omega), if_neg (by omega), if_neg (by omega), if_neg (by omega), if_neg (by omega), if_neg (by omega), if_neg (by omega), if_neg (by omega), if_neg (by omega)]
      refine ts_ldc (z := -1000001) hx hb cx.2.2.2.1 cx.2.2.2.2 tk_RX2_63 dX2_count_160 ?_
      exact ro_ret cx hr hlocks (hR.symm) dX2_count_162
    · refine lv_tableIn (off := 159) (tgt := 160) hx hb dX2_count_1 (by rw [toInt_iN (by omega)]; omega) (by rw [toInt_iN (by omega)]; omega) (by rw [toInt_iN (by omega), c1]; rfl) (by decide) ?_
      have hR : countR T what = -1000001 := by
        unfold countR
        rw [if_neg (by omega), if_neg (by omega), if_neg (by omega), if_neg (by omega), if_neg (by omega), if_neg (by omega), if_neg (by omega), if_neg (by omega), if_neg (by omega)]
      refine ts_ldc (z := -1000001) hx hb cx.2.2.2.1 cx.2.2.2.2 tk_RX2_63 dX2_count_160 ?_
      exact ro_ret cx hr hlocks (hR.symm) dX2_count_162
    · refine lv_tableIn (off := 159) (tgt := 160) hx hb dX2_count_1 (by rw [toInt_iN (by omega)]; omega) (by rw [toInt_iN (by omega)]; omega) (by rw [toInt_iN (by omega), c1]; rfl) (by decide) ?_
      have hR : countR T what = -1000001 := by
        unfold countR
        rw [if_neg (by omega), if_neg (by omega), if_neg (by omega), if_neg (by omega), if_neg (by omega), if_neg (by omega), if_neg (by omega), if_neg (by omega), if_neg (by omega)]
      refine ts_ldc (z := -1000001) hx hb cx.2.2.2.1 cx.2.2.2.2 tk_RX2_63 dX2_count_160 ?_
      exact ro_ret cx hr hlocks (hR.symm) dX2_count_162
    · refine lv_tableIn (off := 159) (tgt := 160) hx hb dX2_count_1 (by rw [toInt_iN (by omega)]; omega) (by rw [toInt_iN (by omega)]; omega) (by rw [toInt_iN (by omega), c1]; rfl) (by decide) ?_
      have hR : countR T what = -1000001 := by
        unfold countR
        rw [if_neg (by omega), if_neg (by omega), if_neg (by omega), if_neg (by omega), if_neg (by omega), if_neg (by omega), if_neg (by omega), if_neg (by omega), if_neg (by omega)]
      refine ts_ldc (z := -1000001) hx hb cx.2.2.2.1 cx.2.2.2.2 tk_RX2_63 dX2_count_160 ?_
      exact ro_ret cx hr hlocks (hR.symm) dX2_count_162
    · refine lv_tableIn (off := 159) (tgt := 160) hx hb dX2_count_1 (by rw [toInt_iN (by omega)]; omega) (by rw [toInt_iN (by omega)]; omega) (by rw [toInt_iN (by omega), c1]; rfl) (by decide) ?_
      have hR : countR T what = -1000001 := by
        unfold countR
        rw [if_neg (by omega), if_neg (by omega), if_neg (by omega), if_neg (by omega), if_neg (by omega), if_neg (by omega), if_neg (by omega), if_neg (by omega), if_neg (by omega)]
      refine ts_ldc (z := -1000001) hx hb cx.2.2.2.1 cx.2.2.2.2 tk_RX2_63 dX2_count_160 ?_
      exact ro_ret cx hr hlocks (hR.symm) dX2_count_162
    · refine lv_tableIn (off := 159) (tgt := 160) hx hb dX2_count_1 (by rw [toInt_iN (by omega)]; omega) (by rw [toInt_iN (by omega)]; omega) (by rw [toInt_iN (by omega), c1]; rfl) (by decide) ?_
      have hR : countR T what = -1000001 := by
        unfold countR
        rw [if_neg (by omega), if_neg (by omega), if_neg (by omega), if_neg (by omega), if_neg (by omega), if_neg (by omega), if_neg (by omega), if_neg (by omega), if_neg (by omega)]
      refine ts_ldc (z := -1000001) hx hb cx.2.2.2.1 cx.2.2.2.2 tk_RX2_63 dX2_count_160 ?_
      exact ro_ret cx hr hlocks (hR.symm) dX2_count_162
    · refine lv_tableIn (off := 159) (tgt := 160) hx hb dX2_count_1 (by rw [toInt_iN (by omega)]; omega) (by rw [toInt_iN (by omega)]; omega) (by rw [toInt_iN (by omega), c1]; rfl) (by decide) ?_
      have hR : countR T what = -1000001 := by
        unfold countR
        rw [if_neg (by omega), if_neg (by omega), if_neg (by omega), if_neg (by omega), if_neg (by omega), if_neg (by omega), if_neg (by omega), if_neg (by omega), if_neg (by omega)]
      refine ts_ldc (z := -1000001) hx hb cx.2.2.2.1 cx.2.2.2.2 tk_RX2_63 dX2_count_160 ?_
      exact ro_ret cx hr hlocks (hR.symm) dX2_count_162
    · refine lv_tableIn (off := 159) (tgt := 160) hx hb dX2_count_1 (by rw [toInt_iN (by omega)]; omega) (by rw [toInt_iN (by omega)]; omega) (by rw [toInt_iN (by omega), c1]; rfl) (by decide) ?_
      have hR : countR T what = -1000001 := by
        unfold countR
        rw [if_neg (by omega), if_neg (by omega), if_neg (by omega), if_neg (by omega), if_neg (by omega), if_neg (by omega), if_neg (by omega), if_neg (by omega), if_neg (by omega)]
      refine ts_ldc (z := -1000001) hx hb cx.2.2.2.1 cx.2.2.2.2 tk_RX2_63 dX2_count_160 ?_
      exact ro_ret cx hr hlocks (hR.symm) dX2_count_162
    · refine lv_tableIn (off := 159) (tgt := 160) hx hb dX2_count_1 (by rw [toInt_iN (by omega)]; omega) (by rw [toInt_iN (by omega)]; omega) (by rw [toInt_iN (by omega), c1]; rfl) (by decide) ?_
      have hR : countR T what = -1000001 := by
        unfold countR
        rw [if_neg (by omega), if_neg (by omega), if_neg (by omega), if_neg (by omega), if_neg (by omega), if_neg (by omega), if_neg (by omega), if_neg (by omega), if_neg (by omega)]
      refine ts_ldc (z := -1000001) hx hb cx.2.2.2.1 cx.2.2.2.2 tk_RX2_63 dX2_count_160 ?_
      exact ro_ret cx hr hlocks (hR.symm) dX2_count_162
    · refine lv_tableIn (off := 159) (tgt := 160) hx hb dX2_count_1 (by rw [toInt_iN (by omega)]; omega) (by rw [toInt_iN (by omega)]; omega) (by rw [toInt_iN (by omega), c1]; rfl) (by decide) ?_
      have hR : countR T what = -1000001 := by
        unfold countR
        rw [if_neg (by omega), if_neg (by omega), if_neg (by omega), if_neg (by omega), if_neg (by omega), if_neg (by omega), if_neg (by omega), if_neg (by omega), if_neg (by omega)]
      refine ts_ldc (z := -1000001) hx hb cx.2.2.2.1 cx.2.2.2.2 tk_RX2_63 dX2_count_160 ?_
      exact ro_ret cx hr hlocks (hR.symm) dX2_count_162
    · refine lv_tableIn (off := 151) (tgt := 152) hx hb dX2_count_1 (by rw [toInt_iN (by omega)]; omega) (by rw [toInt_iN (by omega)]; omega) (by rw [toInt_iN (by omega), c1]; rfl) (by decide) ?_
      refine lv_aload_n hx hb dX2_count_152 rfl (lv_at hl 0 rfl) ?_
      refine mm_get0 cx hK hw tl_RX2_7 dX2_count_153 ?_
      refine ts_bipush hx hb dX2_count_156 (by decide) ?_
      refine mm_ld0 cx hK hw (9) (by omega) dX2_count_158 (fun z158 hz158 => ?_)
      have hR : countR T what = z158 := by
        unfold countR
        rw [if_neg (by omega), if_neg (by omega), if_neg (by omega), if_neg (by omega), if_neg (by omega), if_neg (by omega), if_neg (by omega), if_neg (by omega), if_pos (by omega), hz158, hf.1.1 _ (by omega)]
      exact ro_ret cx hr hlocks (hR.symm) dX2_count_159
