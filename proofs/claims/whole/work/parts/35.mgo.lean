set_option maxHeartbeats 4000000 in
set_option maxRecDepth 100000 in
theorem c_X2_firstOf (l : Launch) (b1 lo hi : Int) (g : GS) (S : StT) (hx0 : RM g S) (hv0 : VS S) (hb1 : (b1 = 1 ∧ lo = 0 ∧ hi = 2) ∨ (b1 = 0 ∧ lo = 6 ∧ hi = 9)) : mmRi l yX2_firstOf (wU yX2_firstOf cX2_firstOf 3 (some .int)) ({ frames := 2, cells := 0, slots := 0, locals := 43 } : Room) [.int (iN b1)] g (fun z => z = ffst lo hi (hand S)) := by
  refine mmRi_of (by decide) (Nat.le_of_ble_eq_true rfl) ?_
  intro p e s m args below meth c D cI tb ad A ls cx hr hlocks hK hA hw hl
  have hx := cx.1
  have hb := cx.2.1
  have hl : lv_has ls 3 [(0, .ref (ad 0)), (1, .int (iN b1))] := hl
  have hpl := VS_pl hv0
  have s0 := hx0.1 0 (by omega)
  have s1 := hx0.1 1 (by omega)
  have s2 := hx0.1 2 (by omega)
  have s3 := hx0.1 3 (by omega)
  have s4 := hx0.1 4 (by omega)
  have s5 := hx0.1 5 (by omega)
  have s6 := hx0.1 6 (by omega)
  have s8 := hx0.1 8 (by omega)
  have hvb := VS_nums hv0
  obtain ⟨hh1, hh2, hh3⟩ := hx0.2 (pl S) 1 hpl.1 (by omega)
  have hhl : (S.2 (pl S) 1).length = (hand S).length := rfl
  refine ts_iconst hx hb dX2_firstOf_0 ?_
  refine lv_istore_n (lv' := [(2, .int (iN 0)), (0, .ref (ad 0)), (1, .int (iN b1))]) hx hb dX2_firstOf_1 rfl hl (by decide) rfl (fun ls hl => ?_)
  have cut2 : ∀ (fu : Nat) (i : Int) (hmu : ((hand S).length - i).toNat < fu) (hi2 : 0 ≤ i ∧ i ≤ (hand S).length) (hno : ∀ j : Nat, (j : Int) < i → ¬ (lo ≤ (hand S).getD j 0 ∧ (hand S).getD j 0 ≤ hi)) (ls : Array Slot) (hl : lv_has ls 3 [(0, .ref (ad 0)), (1, .int (iN b1)), (2, .int (iN i))]), W p l e ({ frames := 2, cells := 0, slots := 0, locals := 43 } : Room) s m args below meth c s.heap [] 0 0 (roQ below args s (fun z => z = ffst lo hi (hand S))) (F0 m 2 ls []) := by
    intro fu
    induction fu with
    | zero => intro i hmu; exact absurd hmu (Nat.not_lt_zero _)
    | succ fu ih2 =>
      intro i hmu hi2 hno ls hl
      refine lv_iload_n hx hb dX2_firstOf_2 rfl (lv_at hl 2 rfl) ?_
      refine lv_aload_n hx hb dX2_firstOf_3 rfl (lv_at hl 0 rfl) ?_
      refine lv_aload_n hx hb dX2_firstOf_4 rfl (lv_at hl 0 rfl) ?_
      refine mm_get0 cx hK hw tl_RX2_7 dX2_firstOf_5 ?_
      refine ts_iconst hx hb dX2_firstOf_8 ?_
      refine mm_ld0 cx hK hw (1) (by omega) dX2_firstOf_9 (fun z9 hz9 => ?_)
      refine ts_iconst hx hb dX2_firstOf_10 ?_
      refine mm_callr (rest := [.int (iN i)]) cx hK hA hw hl (c_X2_manyAt l z9 1 (pl S) 1 (by omega) g S.2 hx0.2) tg_RX2_34 ⟨rfl, rfl⟩ 2 rfl (by decide +kernel) ⟨Nat.le_of_ble_eq_true rfl, Nat.le_of_ble_eq_true rfl⟩ ⟨Nat.zero_le _, Nat.zero_le _⟩ (Nat.le_of_ble_eq_true rfl) dX2_firstOf_11 (rfl) (fun z11 hz11 => ?_)
      refine ts_icmp_ge (tgt := 50) hx hb (by omega) dX2_firstOf_14 (by decide) (fun c14 => ?_) (fun c14 => ?_)
      · skip
        refine ts_iconst hx hb dX2_firstOf_50 ?_
        exact ro_ret cx hr hlocks (by rw [ffst_none (fun k hk => hno k (by omega))]) dX2_firstOf_51
      · skip
        have hhb := VS_hand hv0 (k := i.toNat) (by omega)
        refine lv_iload_n hx hb dX2_firstOf_17 rfl (lv_at hl 1 rfl) ?_
        refine ts_if_eq (tgt := 33) hx hb (by omega) dX2_firstOf_18 (by decide) (fun c18 => ?_) (fun c18 => ?_)
        · skip
          refine lv_aload_n hx hb dX2_firstOf_33 rfl (lv_at hl 0 rfl) ?_
          refine lv_iload_n hx hb dX2_firstOf_34 rfl (lv_at hl 2 rfl) ?_
          refine mm_callr (rest := []) cx hK hA hw hl (c_X2_inHand l i i.toNat g S hx0 hv0 (by omega)) tg_RX2_64 ⟨rfl, rfl⟩ 1 rfl (by decide +kernel) ⟨Nat.le_of_ble_eq_true rfl, Nat.le_of_ble_eq_true rfl⟩ ⟨Nat.zero_le _, Nat.zero_le _⟩ (Nat.le_of_ble_eq_true rfl) dX2_firstOf_35 (rfl) (fun z35 hz35 => ?_)
          refine ts_iconst hx hb dX2_firstOf_38 ?_
          refine ts_icmp_le (tgt := 44) hx hb (by omega) dX2_firstOf_39 (by decide) (fun c39 => ?_) (fun c39 => ?_)
          · skip
            obtain ⟨z44, hz44⟩ : ∃ z : Int, z = i + 1 := ⟨_, rfl⟩
            refine lv_iinc (v := iN z44) (lv' := [(2, .int (iN z44)), (0, .ref (ad 0)), (1, .int (iN b1))]) hx hb dX2_firstOf_44 hl (k := 2) rfl (by rw [hz44]; exact iN_add _ _) (by decide) rfl (fun ls hl => ?_)
            have hno2 : ∀ j : Nat, (j : Int) < z44 → ¬ (lo ≤ (hand S).getD j 0 ∧ (hand S).getD j 0 ≤ hi) := by
              intro j hj
              by_cases hji : (j : Int) < i
              · exact hno j hji
              · rw [show j = i.toNat by omega]
                omega
            refine lv_goto (tgt := 2) hx hb dX2_firstOf_47 (by decide) ?_
            exact ih2 (z44) (by omega) (by omega) (hno2) _ (lv_sub hl [1, 2, 0] rfl)
          · skip
            refine lv_iload_n hx hb dX2_firstOf_42 rfl (lv_at hl 2 rfl) ?_
            exact ro_ret cx hr hlocks (by rw [ffst_at (k := i.toNat) (by omega) (by omega) (fun j hj => hno j (by omega))]; omega) dX2_firstOf_43
        · skip
          refine lv_aload_n hx hb dX2_firstOf_21 rfl (lv_at hl 0 rfl) ?_
          refine lv_iload_n hx hb dX2_firstOf_22 rfl (lv_at hl 2 rfl) ?_
          refine mm_callr (rest := []) cx hK hA hw hl (c_X2_inHand l i i.toNat g S hx0 hv0 (by omega)) tg_RX2_64 ⟨rfl, rfl⟩ 1 rfl (by decide +kernel) ⟨Nat.le_of_ble_eq_true rfl, Nat.le_of_ble_eq_true rfl⟩ ⟨Nat.zero_le _, Nat.zero_le _⟩ (Nat.le_of_ble_eq_true rfl) dX2_firstOf_23 (rfl) (fun z23 hz23 => ?_)
          refine ts_iconst hx hb dX2_firstOf_26 ?_
          refine ts_icmp_ge (tgt := 44) hx hb (by omega) dX2_firstOf_27 (by decide) (fun c27 => ?_) (fun c27 => ?_)
          · skip
            obtain ⟨z44, hz44⟩ : ∃ z : Int, z = i + 1 := ⟨_, rfl⟩
            refine lv_iinc (v := iN z44) (lv' := [(2, .int (iN z44)), (0, .ref (ad 0)), (1, .int (iN b1))]) hx hb dX2_firstOf_44 hl (k := 2) rfl (by rw [hz44]; exact iN_add _ _) (by decide) rfl (fun ls hl => ?_)
            have hno2 : ∀ j : Nat, (j : Int) < z44 → ¬ (lo ≤ (hand S).getD j 0 ∧ (hand S).getD j 0 ≤ hi) := by
              intro j hj
              by_cases hji : (j : Int) < i
              · exact hno j hji
              · rw [show j = i.toNat by omega]
                omega
            refine lv_goto (tgt := 2) hx hb dX2_firstOf_47 (by decide) ?_
            exact ih2 (z44) (by omega) (by omega) (hno2) _ (lv_sub hl [1, 2, 0] rfl)
          · skip
            refine lv_goto (tgt := 42) hx hb dX2_firstOf_30 (by decide) ?_
            refine lv_iload_n hx hb dX2_firstOf_42 rfl (lv_at hl 2 rfl) ?_
            exact ro_ret cx hr hlocks (by rw [ffst_at (k := i.toNat) (by omega) (by omega) (fun j hj => hno j (by omega))]; omega) dX2_firstOf_43
  exact cut2 _ (0) (Nat.lt_succ_self _) (by omega) (fun j hj => by omega) _ (lv_sub hl [1, 2, 0] rfl)
set_option maxHeartbeats 4000000 in
set_option maxRecDepth 100000 in
theorem c_X2_dearest (l : Launch) (g : GS) (S : StT) (hx0 : RM g S) (hv0 : VS S) : mmRi l yX2_dearest (wU yX2_dearest cX2_dearest 4 (some .int)) ({ frames := 2, cells := 0, slots := 0, locals := 42 } : Room) [] g (fun z => z = dearN S.1 10) := by
  refine mmRi_of (by decide) (Nat.le_of_ble_eq_true rfl) ?_
  intro p e s m args below meth c D cI tb ad A ls cx hr hlocks hK hA hw hl
  have hx := cx.1
  have hb := cx.2.1
  have hl : lv_has ls 4 [(0, .ref (ad 0))] := hl
  refine ts_iconst hx hb dX2_dearest_0 ?_
  refine lv_istore_n (lv' := [(1, .int (iN ((-1)))), (0, .ref (ad 0))]) hx hb dX2_dearest_1 rfl hl (by decide) rfl (fun ls hl => ?_)
  refine ts_iconst hx hb dX2_dearest_2 ?_
  refine lv_istore_n (lv' := [(2, .int (iN 0)), (1, .int (iN ((-1)))), (0, .ref (ad 0))]) hx hb dX2_dearest_3 rfl hl (by decide) rfl (fun ls hl => ?_)
  have cut4 : ∀ (fu : Nat) (n : Int) (i : Int) (hmu : (10 - i).toNat < fu) (hi : 0 ≤ i ∧ i ≤ 10) (hq : n = dearN S.1 i.toNat) (hq3 : -1 ≤ n ∧ n ≤ 9) (ls : Array Slot) (hl : lv_has ls 4 [(0, .ref (ad 0)), (1, .int (iN n)), (2, .int (iN i))]), W p l e ({ frames := 2, cells := 0, slots := 0, locals := 42 } : Room) s m args below meth c s.heap [] 0 0 (roQ below args s (fun z => z = dearN S.1 10)) (F0 m 4 ls []) := by
    intro fu
    induction fu with
    | zero => intro n i hmu; exact absurd hmu (Nat.not_lt_zero _)
    | succ fu ih4 =>
      intro n i hmu hi hq hq3 ls hl
      refine lv_iload_n hx hb dX2_dearest_4 rfl (lv_at hl 2 rfl) ?_
      refine ts_bipush hx hb dX2_dearest_5 (by decide) ?_
      refine ts_icmp_ge (tgt := 62) hx hb (by omega) dX2_dearest_7 (by decide) (fun c7 => ?_) (fun c7 => ?_)
      · skip
        refine lv_iload_n hx hb dX2_dearest_62 rfl (lv_at hl 1 rfl) ?_
        exact ro_ret cx hr hlocks (by rw [hq]; congr 1; omega) dX2_dearest_63
      · skip
        have htv := tv_b 0 i.toNat
        have htn := tv_b 0 n.toNat
        have hwb : 0 ≤ why S.1 i.toNat ∧ why S.1 i.toNat ≤ 5 := by unfold why; (repeat' split) <;> omega
        have hs2 : dearN S.1 (i.toNat + 1) = if 0 < tv 0 i.toNat ∧ why S.1 i.toNat = 0 ∧ (dearN S.1 i.toNat < 0 ∨ tv 0 (dearN S.1 i.toNat).toNat ≤ tv 0 i.toNat) then (i.toNat : Int) else dearN S.1 i.toNat := rfl
        rw [← hq] at hs2
        refine lv_iload_n hx hb dX2_dearest_10 rfl (lv_at hl 2 rfl) ?_
        refine ps_call (rest := []) cx hl (c_X2_price l i i.toNat (by omega)) tg_RX2_77 ⟨rfl, rfl⟩ 1 rfl (by decide +kernel) ⟨Nat.le_of_ble_eq_true rfl, Nat.le_of_ble_eq_true rfl⟩ ⟨Nat.zero_le _, Nat.zero_le _⟩ (Nat.le_of_ble_eq_true rfl) dX2_dearest_11 (rfl) (fun z11 hz11 => ?_)
        refine ts_if_le (tgt := 29) hx hb (by omega) dX2_dearest_14 (by decide) (fun c14 => ?_) (fun c14 => ?_)
        · skip
          refine ts_iconst hx hb dX2_dearest_29 ?_
          refine lv_istore_n (lv' := [(3, .int (iN 0)), (0, .ref (ad 0)), (1, .int (iN n)), (2, .int (iN i))]) hx hb dX2_dearest_30 rfl hl (by decide) rfl (fun ls hl => ?_)
          refine lv_iload_n hx hb dX2_dearest_31 rfl (lv_at hl 0 rfl) ?_
          refine ts_if_eq (tgt := 54) hx hb (by omega) dX2_dearest_32 (by decide) (fun c32 => ?_) (fun c32 => ?_)
          · skip
            refine lv_iload_n hx hb dX2_dearest_54 rfl (lv_at hl 2 rfl) ?_
            refine lv_istore_n (lv' := [(1, .int (iN n)), (3, .int (iN 0)), (0, .ref (ad 0)), (2, .int (iN i))]) hx hb dX2_dearest_55 rfl hl (by decide) rfl (fun ls hl => ?_)
            obtain ⟨z56, hz56⟩ : ∃ z : Int, z = i + 1 := ⟨_, rfl⟩
            refine lv_iinc (v := iN z56) (lv' := [(2, .int (iN z56)), (1, .int (iN n)), (3, .int (iN 0)), (0, .ref (ad 0))]) hx hb dX2_dearest_56 hl (k := 3) rfl (by rw [hz56]; exact iN_add _ _) (by decide) rfl (fun ls hl => ?_)
            have hsn : n = dearN S.1 z56.toNat := by
              rw [show z56.toNat = i.toNat + 1 by omega, hs2]
              by_cases hk : 0 < tv 0 i.toNat ∧ why S.1 i.toNat = 0 ∧ (n < 0 ∨ tv 0 n.toNat ≤ tv 0 i.toNat)
              · (rw [if_pos hk]) <;> omega
              · (rw [if_neg hk]) <;> omega
            refine lv_goto (tgt := 4) hx hb dX2_dearest_59 (by decide) ?_
            exact ih4 (n) (z56) (by omega) (by omega) (hsn) (by omega) _ (lv_sub hl [3, 1, 0] rfl)
          · exfalso
            omega
        · skip
          refine lv_aload_n hx hb dX2_dearest_17 rfl (lv_at hl 0 rfl) ?_
          refine lv_iload_n hx hb dX2_dearest_18 rfl (lv_at hl 2 rfl) ?_
          refine mm_callr (rest := []) cx hK hA hw hl (c_X2_whyNot l i i.toNat g S hx0 hv0 (by omega)) tg_RX2_80 ⟨rfl, rfl⟩ 1 rfl (by decide +kernel) ⟨Nat.le_of_ble_eq_true rfl, Nat.le_of_ble_eq_true rfl⟩ ⟨Nat.zero_le _, Nat.zero_le _⟩ (Nat.le_of_ble_eq_true rfl) dX2_dearest_19 (rfl) (fun z19 hz19 => ?_)
          refine ts_if_ne (tgt := 29) hx hb (by omega) dX2_dearest_22 (by decide) (fun c22 => ?_) (fun c22 => ?_)
          · skip
            refine ts_iconst hx hb dX2_dearest_29 ?_
            refine lv_istore_n (lv' := [(3, .int (iN 0)), (0, .ref (ad 0)), (1, .int (iN n)), (2, .int (iN i))]) hx hb dX2_dearest_30 rfl hl (by decide) rfl (fun ls hl => ?_)
            refine lv_iload_n hx hb dX2_dearest_31 rfl (lv_at hl 0 rfl) ?_
            refine ts_if_eq (tgt := 54) hx hb (by omega) dX2_dearest_32 (by decide) (fun c32 => ?_) (fun c32 => ?_)
            · skip
              refine lv_iload_n hx hb dX2_dearest_54 rfl (lv_at hl 2 rfl) ?_
              refine lv_istore_n (lv' := [(1, .int (iN n)), (3, .int (iN 0)), (0, .ref (ad 0)), (2, .int (iN i))]) hx hb dX2_dearest_55 rfl hl (by decide) rfl (fun ls hl => ?_)
              obtain ⟨z56, hz56⟩ : ∃ z : Int, z = i + 1 := ⟨_, rfl⟩
              refine lv_iinc (v := iN z56) (lv' := [(2, .int (iN z56)), (1, .int (iN n)), (3, .int (iN 0)), (0, .ref (ad 0))]) hx hb dX2_dearest_56 hl (k := 3) rfl (by rw [hz56]; exact iN_add _ _) (by decide) rfl (fun ls hl => ?_)
              have hsn : n = dearN S.1 z56.toNat := by
                rw [show z56.toNat = i.toNat + 1 by omega, hs2]
                by_cases hk : 0 < tv 0 i.toNat ∧ why S.1 i.toNat = 0 ∧ (n < 0 ∨ tv 0 n.toNat ≤ tv 0 i.toNat)
                · (rw [if_pos hk]) <;> omega
                · (rw [if_neg hk]) <;> omega
              refine lv_goto (tgt := 4) hx hb dX2_dearest_59 (by decide) ?_
              exact ih4 (n) (z56) (by omega) (by omega) (hsn) (by omega) _ (lv_sub hl [3, 1, 0] rfl)
            · exfalso
              omega
          · skip
            refine ts_iconst hx hb dX2_dearest_25 ?_
            refine lv_goto (tgt := 30) hx hb dX2_dearest_26 (by decide) ?_
            refine lv_istore_n (lv' := [(3, .int (iN 1)), (0, .ref (ad 0)), (1, .int (iN n)), (2, .int (iN i))]) hx hb dX2_dearest_30 rfl hl (by decide) rfl (fun ls hl => ?_)
            refine lv_iload_n hx hb dX2_dearest_31 rfl (lv_at hl 0 rfl) ?_
            refine ts_if_eq (tgt := 54) hx hb (by omega) dX2_dearest_32 (by decide) (fun c32 => ?_) (fun c32 => ?_)
            · exfalso
              omega
            · skip
              refine lv_iload_n hx hb dX2_dearest_35 rfl (lv_at hl 2 rfl) ?_
              refine ts_if_lt (tgt := 50) hx hb (by omega) dX2_dearest_36 (by decide) (fun c36 => ?_) (fun c36 => ?_)
              · skip
                refine lv_iload_n hx hb dX2_dearest_50 rfl (lv_at hl 3 rfl) ?_
                refine lv_goto (tgt := 55) hx hb dX2_dearest_51 (by decide) ?_
                refine lv_istore_n (lv' := [(1, .int (iN i)), (3, .int (iN 1)), (0, .ref (ad 0)), (2, .int (iN i))]) hx hb dX2_dearest_55 rfl hl (by decide) rfl (fun ls hl => ?_)
                obtain ⟨z56, hz56⟩ : ∃ z : Int, z = i + 1 := ⟨_, rfl⟩
                refine lv_iinc (v := iN z56) (lv' := [(2, .int (iN z56)), (1, .int (iN i)), (3, .int (iN 1)), (0, .ref (ad 0))]) hx hb dX2_dearest_56 hl (k := 3) rfl (by rw [hz56]; exact iN_add _ _) (by decide) rfl (fun ls hl => ?_)
                have hsn : i = dearN S.1 z56.toNat := by
                  rw [show z56.toNat = i.toNat + 1 by omega, hs2]
                  by_cases hk : 0 < tv 0 i.toNat ∧ why S.1 i.toNat = 0 ∧ (n < 0 ∨ tv 0 n.toNat ≤ tv 0 i.toNat)
                  · (rw [if_pos hk]) <;> omega
                  · (rw [if_neg hk]) <;> omega
                refine lv_goto (tgt := 4) hx hb dX2_dearest_59 (by decide) ?_
                exact ih4 (i) (z56) (by omega) (by omega) (hsn) (by omega) _ (lv_sub hl [3, 1, 0] rfl)
              · skip
                refine lv_iload_n hx hb dX2_dearest_39 rfl (lv_at hl 3 rfl) ?_
                refine ps_call (rest := []) cx hl (c_X2_price l i i.toNat (by omega)) tg_RX2_77 ⟨rfl, rfl⟩ 1 rfl (by decide +kernel) ⟨Nat.le_of_ble_eq_true rfl, Nat.le_of_ble_eq_true rfl⟩ ⟨Nat.zero_le _, Nat.zero_le _⟩ (Nat.le_of_ble_eq_true rfl) dX2_dearest_40 (rfl) (fun z40 hz40 => ?_)
                refine lv_iload_n hx hb dX2_dearest_43 rfl (lv_at hl 2 rfl) ?_
                refine ps_call (rest := [.int (iN z40)]) cx hl (c_X2_price l n n.toNat (by omega)) tg_RX2_77 ⟨rfl, rfl⟩ 1 rfl (by decide +kernel) ⟨Nat.le_of_ble_eq_true rfl, Nat.le_of_ble_eq_true rfl⟩ ⟨Nat.zero_le _, Nat.zero_le _⟩ (Nat.le_of_ble_eq_true rfl) dX2_dearest_44 (rfl) (fun z44 hz44 => ?_)
                refine ts_icmp_lt (tgt := 54) hx hb (by omega) dX2_dearest_47 (by decide) (fun c47 => ?_) (fun c47 => ?_)
                · skip
                  refine lv_iload_n hx hb dX2_dearest_54 rfl (lv_at hl 2 rfl) ?_
                  refine lv_istore_n (lv' := [(1, .int (iN n)), (3, .int (iN 1)), (0, .ref (ad 0)), (2, .int (iN i))]) hx hb dX2_dearest_55 rfl hl (by decide) rfl (fun ls hl => ?_)
                  obtain ⟨z56, hz56⟩ : ∃ z : Int, z = i + 1 := ⟨_, rfl⟩
                  refine lv_iinc (v := iN z56) (lv' := [(2, .int (iN z56)), (1, .int (iN n)), (3, .int (iN 1)), (0, .ref (ad 0))]) hx hb dX2_dearest_56 hl (k := 3) rfl (by rw [hz56]; exact iN_add _ _) (by decide) rfl (fun ls hl => ?_)
                  have hsn : n = dearN S.1 z56.toNat := by
                    rw [show z56.toNat = i.toNat + 1 by omega, hs2]
                    by_cases hk : 0 < tv 0 i.toNat ∧ why S.1 i.toNat = 0 ∧ (n < 0 ∨ tv 0 n.toNat ≤ tv 0 i.toNat)
                    · (rw [if_pos hk]) <;> omega
                    · (rw [if_neg hk]) <;> omega
                  refine lv_goto (tgt := 4) hx hb dX2_dearest_59 (by decide) ?_
                  exact ih4 (n) (z56) (by omega) (by omega) (hsn) (by omega) _ (lv_sub hl [3, 1, 0] rfl)
                · skip
                  refine lv_iload_n hx hb dX2_dearest_50 rfl (lv_at hl 3 rfl) ?_
                  refine lv_goto (tgt := 55) hx hb dX2_dearest_51 (by decide) ?_
                  refine lv_istore_n (lv' := [(1, .int (iN i)), (3, .int (iN 1)), (0, .ref (ad 0)), (2, .int (iN i))]) hx hb dX2_dearest_55 rfl hl (by decide) rfl (fun ls hl => ?_)
                  obtain ⟨z56, hz56⟩ : ∃ z : Int, z = i + 1 := ⟨_, rfl⟩
                  refine lv_iinc (v := iN z56) (lv' := [(2, .int (iN z56)), (1, .int (iN i)), (3, .int (iN 1)), (0, .ref (ad 0))]) hx hb dX2_dearest_56 hl (k := 3) rfl (by rw [hz56]; exact iN_add _ _) (by decide) rfl (fun ls hl => ?_)
                  have hsn : i = dearN S.1 z56.toNat := by
                    rw [show z56.toNat = i.toNat + 1 by omega, hs2]
                    by_cases hk : 0 < tv 0 i.toNat ∧ why S.1 i.toNat = 0 ∧ (n < 0 ∨ tv 0 n.toNat ≤ tv 0 i.toNat)
                    · (rw [if_pos hk]) <;> omega
                    · (rw [if_neg hk]) <;> omega
                  refine lv_goto (tgt := 4) hx hb dX2_dearest_59 (by decide) ?_
                  exact ih4 (i) (z56) (by omega) (by omega) (hsn) (by omega) _ (lv_sub hl [3, 1, 0] rfl)
  exact cut4 _ ((-1)) (0) (Nat.lt_succ_self _) (by omega) (by rfl) (by omega) _ (lv_sub hl [2, 1, 0] rfl)
set_option maxHeartbeats 4000000 in
set_option maxRecDepth 100000 in
theorem c_X2_canBuy (l : Launch) (g : GS) (S : StT) (hx0 : RM g S) (hv0 : VS S) : mmRi l yX2_canBuy (wU yX2_canBuy cX2_canBuy 3 (some .int)) ({ frames := 2, cells := 0, slots := 0, locals := 42 } : Room) [] g (fun z => z = setN S.1 10) := by
  refine mmRi_of (by decide) (Nat.le_of_ble_eq_true rfl) ?_
  intro p e s m args below meth c D cI tb ad A ls cx hr hlocks hK hA hw hl
  have hx := cx.1
  have hb := cx.2.1
  have hl : lv_has ls 3 [(0, .ref (ad 0))] := hl
  refine ts_iconst hx hb dX2_canBuy_0 ?_
  refine lv_istore_n (lv' := [(1, .int (iN 0)), (0, .ref (ad 0))]) hx hb dX2_canBuy_1 rfl hl (by decide) rfl (fun ls hl => ?_)
  refine ts_iconst hx hb dX2_canBuy_2 ?_
  refine lv_istore_n (lv' := [(2, .int (iN 0)), (1, .int (iN 0)), (0, .ref (ad 0))]) hx hb dX2_canBuy_3 rfl hl (by decide) rfl (fun ls hl => ?_)
  have cut4 : ∀ (fu : Nat) (n : Int) (i : Int) (hmu : (10 - i).toNat < fu) (hi : 0 ≤ i ∧ i ≤ 10) (hq : n = setN S.1 i.toNat) (ls : Array Slot) (hl : lv_has ls 3 [(0, .ref (ad 0)), (1, .int (iN n)), (2, .int (iN i))]), W p l e ({ frames := 2, cells := 0, slots := 0, locals := 42 } : Room) s m args below meth c s.heap [] 0 0 (roQ below args s (fun z => z = setN S.1 10)) (F0 m 4 ls []) := by
    intro fu
    induction fu with
    | zero => intro n i hmu; exact absurd hmu (Nat.not_lt_zero _)
    | succ fu ih4 =>
      intro n i hmu hi hq ls hl
      refine lv_iload_n hx hb dX2_canBuy_4 rfl (lv_at hl 2 rfl) ?_
      refine ts_bipush hx hb dX2_canBuy_5 (by decide) ?_
      refine ts_icmp_ge (tgt := 34) hx hb (by omega) dX2_canBuy_7 (by decide) (fun c7 => ?_) (fun c7 => ?_)
      · skip
        refine lv_iload_n hx hb dX2_canBuy_34 rfl (lv_at hl 1 rfl) ?_
        exact ro_ret cx hr hlocks (by rw [hq]; congr 1; omega) dX2_canBuy_35
      · skip
        have hwb : 0 ≤ why S.1 i.toNat ∧ why S.1 i.toNat ≤ 5 := by unfold why; (repeat' split) <;> omega
        have hsb := setN_b S.1 i.toNat
        refine lv_iload_n hx hb dX2_canBuy_10 rfl (lv_at hl 1 rfl) ?_
        refine lv_aload_n hx hb dX2_canBuy_11 rfl (lv_at hl 0 rfl) ?_
        refine lv_iload_n hx hb dX2_canBuy_12 rfl (lv_at hl 2 rfl) ?_
        refine mm_callr (rest := [.int (iN n)]) cx hK hA hw hl (c_X2_whyNot l i i.toNat g S hx0 hv0 (by omega)) tg_RX2_80 ⟨rfl, rfl⟩ 1 rfl (by decide +kernel) ⟨Nat.le_of_ble_eq_true rfl, Nat.le_of_ble_eq_true rfl⟩ ⟨Nat.zero_le _, Nat.zero_le _⟩ (Nat.le_of_ble_eq_true rfl) dX2_canBuy_13 (rfl) (fun z13 hz13 => ?_)
        refine ts_if_ne (tgt := 25) hx hb (by omega) dX2_canBuy_16 (by decide) (fun c16 => ?_) (fun c16 => ?_)
        · skip
          refine ts_iconst hx hb dX2_canBuy_25 ?_
          refine ts_ior0 hx hb dX2_canBuy_26 ?_
          refine lv_istore_n (lv' := [(1, .int (iN n)), (0, .ref (ad 0)), (2, .int (iN i))]) hx hb dX2_canBuy_27 rfl hl (by decide) rfl (fun ls hl => ?_)
          have he : i.toNat + 1 = (i + 1).toNat := by omega
          have hs2 : setN S.1 (i.toNat + 1) = setN S.1 i.toNat + (if why S.1 i.toNat = 0 then 2 ^ i.toNat else 0) := rfl
          rw [he] at hs2
          obtain ⟨z28, hz28⟩ : ∃ z : Int, z = i + 1 := ⟨_, rfl⟩
          refine lv_iinc (v := iN z28) (lv' := [(2, .int (iN z28)), (1, .int (iN n)), (0, .ref (ad 0))]) hx hb dX2_canBuy_28 hl (k := 2) rfl (by rw [hz28]; exact iN_add _ _) (by decide) rfl (fun ls hl => ?_)
          have hsn : n = setN S.1 z28.toNat := by
            rw [hz28, hs2]
            by_cases hk : why S.1 i.toNat = 0
            · (rw [if_pos hk]) <;> omega
            · (rw [if_neg hk]) <;> omega
          refine lv_goto (tgt := 4) hx hb dX2_canBuy_31 (by decide) ?_
          exact ih4 (n) (z28) (by omega) (by omega) (hsn) _ (lv_sub hl [2, 1, 0] rfl)
        · skip
          refine ts_iconst hx hb dX2_canBuy_19 ?_
          refine lv_iload_n hx hb dX2_canBuy_20 rfl (lv_at hl 2 rfl) ?_
          refine ts_ishl hx hb (i.toNat) (by omega) dX2_canBuy_21 (fun z21 hz21 => ?_)
          refine lv_goto (tgt := 26) hx hb dX2_canBuy_22 (by decide) ?_
          refine ts_ior hx hb (⟨i.toNat, by omega, hz21, by omega, by omega⟩) dX2_canBuy_26 (fun z26 hz26 => ?_)
          refine lv_istore_n (lv' := [(1, .int (iN z26)), (0, .ref (ad 0)), (2, .int (iN i))]) hx hb dX2_canBuy_27 rfl hl (by decide) rfl (fun ls hl => ?_)
          have he : i.toNat + 1 = (i + 1).toNat := by omega
          have hs2 : setN S.1 (i.toNat + 1) = setN S.1 i.toNat + (if why S.1 i.toNat = 0 then 2 ^ i.toNat else 0) := rfl
          rw [he] at hs2
          obtain ⟨z28, hz28⟩ : ∃ z : Int, z = i + 1 := ⟨_, rfl⟩
          refine lv_iinc (v := iN z28) (lv' := [(2, .int (iN z28)), (1, .int (iN z26)), (0, .ref (ad 0))]) hx hb dX2_canBuy_28 hl (k := 2) rfl (by rw [hz28]; exact iN_add _ _) (by decide) rfl (fun ls hl => ?_)
          have hsn : z26 = setN S.1 z28.toNat := by
            rw [hz28, hs2]
            by_cases hk : why S.1 i.toNat = 0
            · (rw [if_pos hk]) <;> omega
            · (rw [if_neg hk]) <;> omega
          refine lv_goto (tgt := 4) hx hb dX2_canBuy_31 (by decide) ?_
          exact ih4 (z26) (z28) (by omega) (by omega) (hsn) _ (lv_sub hl [2, 1, 0] rfl)
  exact cut4 _ (0) (0) (Nat.lt_succ_self _) (by omega) (by rfl) _ (lv_sub hl [2, 1, 0] rfl)
theorem fuel_A {S : StT} (hv : VS S) {n : Nat} (hn : 164 ≤ n + (S.2 (pl S) 2).length) {lo hi : Int} (hf : 0 ≤ ffst lo hi (hand S)) : 0 < n := by
  have h1 := ffst_ok hf
  have h2 := lenS_two S.2 (VS_pl hv).1 (w := 1) (w' := 2) (by omega) (by omega) (by decide)
  have h3 := VS_pos hv
  have h4 := hv.2.2.2.2.2.2.2.2.2.2.2.2
  have h5 : (S.2 (pl S) 1).length = (hand S).length := rfl
  omega
theorem fuel_B {S : StT} (hv : VS S) {n : Nat} (hn : 164 ≤ n + (S.2 (pl S) 3).length) (hf : 0 ≤ dearN S.1 10) : 0 < n := by
  have hd := dearN_b S.1 10
  have hd2 := why_0 (hd.2.2 hf).2
  have h2 := lenS_len S.2 (VS_pl hv).1 (w := 3) (by omega)
  have h3 := VS_pile hv (dearN S.1 10).toNat (by omega)
  omega
theorem buy_len (S : StT) (k : Nat) : ((buyA S k).2 (pl (buyA S k)) 3).length = (S.2 (pl S) 3).length + 1 := by
  have hp : pl (buyA S k) = pl S := by
    unfold pl
    show (buS S.1 k 1).toNat = _
    unfold buS
    rw [uf_n _ _ (by omega), uf_n _ _ (by omega), uf_n _ _ (by omega)]
  rw [hp]
  show (ul S.2 (pl S) 3 (S.2 (pl S) 3 ++ [(k : Int)]) (pl S) 3).length = _
  rw [ul_s, List.length_append, List.length_singleton]
set_option maxHeartbeats 4000000 in
set_option maxRecDepth 100000 in
theorem c_X2_goOn (l : Launch) (g : GS) (S : StT) (hx0 : RM g S) (hv0 : VS S) : mmMv l yX2_goOn (wU yX2_goOn cX2_goOn 2 none) ({ frames := 5, cells := 0, slots := 0, locals := 117 } : Room) [] g (fun g1 => RM g1 (turnA S) ∧ ME g1 g) := by
  refine mmMv_of (by decide) (Nat.le_of_ble_eq_true rfl) ?_
  intro p e s m args below meth c D cI tb ad A ls cx hr hlocks hK hA hw hl
  have hx := cx.1
  have hb := cx.2.1
  have hl : lv_has ls 2 [(0, .ref (ad 0))] := hl
  have cut0 : ∀ (fu : Nat) (n : Nat) (ga : GS) (Si : StT) (hmu : n < fu) (hxi : RM ga Si) (hvi : VS Si) (hgo : goA n Si = goA 164 S) (hfu : 164 ≤ n + (Si.2 (pl Si) 2).length) (hei : ME ga g) (H : Heap) (locs : List Loc) (hw : mmB D A s cI ad ga H locs) (ls : Array Slot) (hl : lv_has ls 2 [(0, .ref (ad 0))]), W p l e ({ frames := 5, cells := 0, slots := 0, locals := 117 } : Room) s m args below meth c H locs 0 0 (mmQv D cI ad A below args s (fun g1 => RM g1 (turnA S) ∧ ME g1 g)) (F0 m 0 ls []) := by
    intro fu
    induction fu with
    | zero => intro n ga Si hmu; exact absurd hmu (Nat.not_lt_zero _)
    | succ fu ih0 =>
      intro n ga Si hmu hxi hvi hgo hfu hei H locs hw ls hl
      refine lv_aload_n hx hb dX2_goOn_0 rfl (lv_at hl 0 rfl) ?_
      refine mm_get0 cx hK hw tl_RX2_7 dX2_goOn_1 ?_
      refine ts_iconst hx hb dX2_goOn_4 ?_
      refine mm_ld0 cx hK hw (4) (by omega) dX2_goOn_5 (fun z5 hz5 => ?_)
      have s4 := hxi.1 4 (by omega)
      have hvb := VS_nums hvi
      have hfb := ffst_b 6 9 hvi
      refine ts_if_le (tgt := 30) hx hb (by omega) dX2_goOn_6 (by decide) (fun c6 => ?_) (fun c6 => ?_)
      · skip
        have hend : goA n Si = Si := goA_stop (by omega) _
        have cut30 : ∀ (fu : Nat) (n : Nat) (ga : GS) (Si : StT) (hmu : n < fu) (hxi : RM ga Si) (hvi : VS Si) (hgo : goF n Si = goF 164 (goA 164 S)) (hfu : 164 ≤ n + (Si.2 (pl Si) 2).length) (hei : ME ga g) (H : Heap) (locs : List Loc) (hw : mmB D A s cI ad ga H locs) (ls : Array Slot) (hl : lv_has ls 2 [(0, .ref (ad 0))]), W p l e ({ frames := 5, cells := 0, slots := 0, locals := 117 } : Room) s m args below meth c H locs 0 0 (mmQv D cI ad A below args s (fun g1 => RM g1 (turnA S) ∧ ME g1 g)) (F0 m 30 ls []) := by
          intro fu
          induction fu with
          | zero => intro n ga Si hmu; exact absurd hmu (Nat.not_lt_zero _)
          | succ fu ih30 =>
            intro n ga Si hmu hxi hvi hgo hfu hei H locs hw ls hl
            refine lv_aload_n hx hb dX2_goOn_30 rfl (lv_at hl 0 rfl) ?_
            refine ts_iconst hx hb dX2_goOn_31 ?_
            refine mm_callr (rest := []) cx hK hA hw hl (c_X2_firstOf l 1 0 2 ga Si hxi hvi (by omega)) tg_RX2_87 ⟨rfl, rfl⟩ 1 rfl (by decide +kernel) ⟨Nat.le_of_ble_eq_true rfl, Nat.le_of_ble_eq_true rfl⟩ ⟨Nat.zero_le _, Nat.zero_le _⟩ (Nat.le_of_ble_eq_true rfl) dX2_goOn_32 (rfl) (fun z32 hz32 => ?_)
            have hfb := ffst_b 0 2 hvi
            refine ts_if_lt (tgt := 51) hx hb (by omega) dX2_goOn_35 (by decide) (fun c35 => ?_) (fun c35 => ?_)
            · skip
              have hend : goF n Si = Si := goF_stop (by omega) _
              have cut51 : ∀ (fu : Nat) (n : Nat) (ga : GS) (Si : StT) (hmu : n < fu) (hxi : RM ga Si) (hvi : VS Si) (hgo : goB n Si = goB 164 (goF 164 (goA 164 S))) (hfu : 164 ≤ n + (Si.2 (pl Si) 3).length) (hei : ME ga g) (H : Heap) (locs : List Loc) (hw : mmB D A s cI ad ga H locs) (ls : Array Slot) (hl : lv_has ls 2 [(0, .ref (ad 0))]), W p l e ({ frames := 5, cells := 0, slots := 0, locals := 117 } : Room) s m args below meth c H locs 0 0 (mmQv D cI ad A below args s (fun g1 => RM g1 (turnA S) ∧ ME g1 g)) (F0 m 51 ls []) := by
                intro fu
                induction fu with
                | zero => intro n ga Si hmu; exact absurd hmu (Nat.not_lt_zero _)
                | succ fu ih51 =>
                  intro n ga Si hmu hxi hvi hgo hfu hei H locs hw ls hl
                  refine lv_aload_n hx hb dX2_goOn_51 rfl (lv_at hl 0 rfl) ?_
                  refine mm_callr (rest := []) cx hK hA hw hl (c_X2_dearest l ga Si hxi hvi) tg_RX2_94 ⟨rfl, rfl⟩ 0 rfl (by decide +kernel) ⟨Nat.le_of_ble_eq_true rfl, Nat.le_of_ble_eq_true rfl⟩ ⟨Nat.zero_le _, Nat.zero_le _⟩ (Nat.le_of_ble_eq_true rfl) dX2_goOn_52 (rfl) (fun z52 hz52 => ?_)
                  have hdb := dearN_b Si.1 10
                  refine ts_if_lt (tgt := 70) hx hb (by omega) dX2_goOn_55 (by decide) (fun c55 => ?_) (fun c55 => ?_)
                  · skip
                    have hend : goB n Si = Si := goB_stop (by omega) _
                    have hx3 : RM ga (goB 164 (goF 164 (goA 164 S))) := by rw [← hgo, hend]; exact hxi
                    have hv3 : VS (goB 164 (goF 164 (goA 164 S))) := by rw [← hgo, hend]; exact hvi
                    refine lv_aload_n hx hb dX2_goOn_70 rfl (lv_at hl 0 rfl) ?_
                    refine mm_calli (rest := []) cx hK hA hw hl (c_X2_ends l ga (goB 164 (goF 164 (goA 164 S))) hx3 hv3) tg_RX2_100 ⟨rfl, rfl⟩ 0 rfl (by decide +kernel) ⟨Nat.le_of_ble_eq_true rfl, Nat.le_of_ble_eq_true rfl⟩ ⟨Nat.zero_le _, Nat.zero_le _⟩ (Nat.le_of_ble_eq_true rfl) dX2_goOn_71 (rfl) (fun z71 g71 H locs hq71 hw => ?_)
                    refine lv_istore_n (lv' := [(1, .int (iN z71)), (0, .ref (ad 0))]) hx hb dX2_goOn_74 rfl hl (by decide) rfl (fun ls hl => ?_)
                    exact mm_vret cx hr hlocks hw (⟨hq71.2.1, ME_tr hq71.2.2 hei⟩) dX2_goOn_75
                  · skip
                    have hcd : 0 ≤ dearN Si.1 10 := by omega
                    have hd2 := hdb.2.2 hcd
                    have hf0 := fuel_B hvi hfu hcd
                    have hn1 : n = (n - 1) + 1 := by omega
                    refine lv_aload_n hx hb dX2_goOn_58 rfl (lv_at hl 0 rfl) ?_
                    refine lv_aload_n hx hb dX2_goOn_59 rfl (lv_at hl 0 rfl) ?_
                    refine mm_callr (rest := [.ref (ad 0)]) cx hK hA hw hl (c_X2_dearest l ga Si hxi hvi) tg_RX2_94 ⟨rfl, rfl⟩ 0 rfl (by decide +kernel) ⟨Nat.le_of_ble_eq_true rfl, Nat.le_of_ble_eq_true rfl⟩ ⟨Nat.zero_le _, Nat.zero_le _⟩ (Nat.le_of_ble_eq_true rfl) dX2_goOn_60 (rfl) (fun z60 hz60 => ?_)
                    refine mm_calli (rest := []) cx hK hA hw hl (c_X2_buys l z60 (dearN Si.1 10).toNat ga Si hxi hvi (by omega) hd2.2) tg_RX2_97 ⟨rfl, rfl⟩ 1 rfl (by decide +kernel) ⟨Nat.le_of_ble_eq_true rfl, Nat.le_of_ble_eq_true rfl⟩ ⟨Nat.zero_le _, Nat.zero_le _⟩ (Nat.le_of_ble_eq_true rfl) dX2_goOn_63 (rfl) (fun z63 g63 H locs hq63 hw => ?_)
                    refine lv_istore_n (lv' := [(1, .int (iN z63)), (0, .ref (ad 0))]) hx hb dX2_goOn_66 rfl hl (by decide) rfl (fun ls hl => ?_)
                    have hvp := VS_buy hvi (by omega) hd2.2
                    refine lv_goto (tgt := 51) hx hb dX2_goOn_67 (by decide) ?_
                    exact ih51 (n - 1) (g63) (buyA Si (dearN Si.1 10).toNat) (by omega) (hq63.2.1) (hvp) (by rw [← hgo, hn1, goB_step hcd]; rfl) (by rw [buy_len]; omega) (ME_tr hq63.2.2 hei) _ _ hw _ (lv_sub hl [1] rfl)
              exact cut51 _ (164) (ga) ((goF 164 (goA 164 S))) (Nat.lt_succ_self _) (by rw [← hgo, hend]; exact hxi) (by rw [← hgo, hend]; exact hvi) (rfl) (by omega) (hei) _ _ hw _ (lv_sub hl [0] rfl)
            · skip
              have hcd : 0 ≤ ffst 0 2 (hand Si) := by omega
              have hf0 := fuel_A hvi hfu hcd
              have hn1 : n = (n - 1) + 1 := by omega
              refine lv_aload_n hx hb dX2_goOn_38 rfl (lv_at hl 0 rfl) ?_
              refine lv_aload_n hx hb dX2_goOn_39 rfl (lv_at hl 0 rfl) ?_
              refine ts_iconst hx hb dX2_goOn_40 ?_
              refine mm_callr (rest := [.ref (ad 0)]) cx hK hA hw hl (c_X2_firstOf l 1 0 2 ga Si hxi hvi (by omega)) tg_RX2_87 ⟨rfl, rfl⟩ 1 rfl (by decide +kernel) ⟨Nat.le_of_ble_eq_true rfl, Nat.le_of_ble_eq_true rfl⟩ ⟨Nat.zero_le _, Nat.zero_le _⟩ (Nat.le_of_ble_eq_true rfl) dX2_goOn_41 (rfl) (fun z41 hz41 => ?_)
              have hfo := ffst_ok hcd
              refine mm_calli (rest := []) cx hK hA hw hl (c_X2_plays l z41 (ffst 0 2 (hand Si)).toNat ga Si hxi hvi (by omega)) tg_RX2_91 ⟨rfl, rfl⟩ 1 rfl (by decide +kernel) ⟨Nat.le_of_ble_eq_true rfl, Nat.le_of_ble_eq_true rfl⟩ ⟨Nat.zero_le _, Nat.zero_le _⟩ (Nat.le_of_ble_eq_true rfl) dX2_goOn_44 (rfl) (fun z44 g44 H locs hq44 hw => ?_)
              refine lv_istore_n (lv' := [(1, .int (iN z44)), (0, .ref (ad 0))]) hx hb dX2_goOn_47 rfl hl (by decide) rfl (fun ls hl => ?_)
              have hvp := VS_play hvi hfo.1 (Or.inl hfo.2.2.2)
              refine lv_goto (tgt := 30) hx hb dX2_goOn_48 (by decide) ?_
              exact ih30 (n - 1) (g44) (playA Si (ffst 0 2 (hand Si)).toNat) (by omega) (hq44.2.1) (hvp.1) (by rw [← hgo, hn1, goF_step hcd]; rfl) (by rw [hvp.2.2, hvp.2.1]; omega) (ME_tr hq44.2.2 hei) _ _ hw _ (lv_sub hl [1] rfl)
        exact cut30 _ (164) (ga) ((goA 164 S)) (Nat.lt_succ_self _) (by rw [← hgo, hend]; exact hxi) (by rw [← hgo, hend]; exact hvi) (rfl) (by omega) (hei) _ _ hw _ (lv_sub hl [0] rfl)
      · skip
        refine lv_aload_n hx hb dX2_goOn_9 rfl (lv_at hl 0 rfl) ?_
        refine ts_iconst hx hb dX2_goOn_10 ?_
        refine mm_callr (rest := []) cx hK hA hw hl (c_X2_firstOf l 0 6 9 ga Si hxi hvi (by omega)) tg_RX2_87 ⟨rfl, rfl⟩ 1 rfl (by decide +kernel) ⟨Nat.le_of_ble_eq_true rfl, Nat.le_of_ble_eq_true rfl⟩ ⟨Nat.zero_le _, Nat.zero_le _⟩ (Nat.le_of_ble_eq_true rfl) dX2_goOn_11 (rfl) (fun z11 hz11 => ?_)
        refine ts_if_lt (tgt := 30) hx hb (by omega) dX2_goOn_14 (by decide) (fun c14 => ?_) (fun c14 => ?_)
        · skip
          have hend : goA n Si = Si := goA_stop (by omega) _
          have cut30 : ∀ (fu : Nat) (n : Nat) (ga : GS) (Si : StT) (hmu : n < fu) (hxi : RM ga Si) (hvi : VS Si) (hgo : goF n Si = goF 164 (goA 164 S)) (hfu : 164 ≤ n + (Si.2 (pl Si) 2).length) (hei : ME ga g) (H : Heap) (locs : List Loc) (hw : mmB D A s cI ad ga H locs) (ls : Array Slot) (hl : lv_has ls 2 [(0, .ref (ad 0))]), W p l e ({ frames := 5, cells := 0, slots := 0, locals := 117 } : Room) s m args below meth c H locs 0 0 (mmQv D cI ad A below args s (fun g1 => RM g1 (turnA S) ∧ ME g1 g)) (F0 m 30 ls []) := by
            intro fu
            induction fu with
            | zero => intro n ga Si hmu; exact absurd hmu (Nat.not_lt_zero _)
            | succ fu ih30 =>
              intro n ga Si hmu hxi hvi hgo hfu hei H locs hw ls hl
              refine lv_aload_n hx hb dX2_goOn_30 rfl (lv_at hl 0 rfl) ?_
              refine ts_iconst hx hb dX2_goOn_31 ?_
              refine mm_callr (rest := []) cx hK hA hw hl (c_X2_firstOf l 1 0 2 ga Si hxi hvi (by omega)) tg_RX2_87 ⟨rfl, rfl⟩ 1 rfl (by decide +kernel) ⟨Nat.le_of_ble_eq_true rfl, Nat.le_of_ble_eq_true rfl⟩ ⟨Nat.zero_le _, Nat.zero_le _⟩ (Nat.le_of_ble_eq_true rfl) dX2_goOn_32 (rfl) (fun z32 hz32 => ?_)
              have hfb := ffst_b 0 2 hvi
              refine ts_if_lt (tgt := 51) hx hb (by omega) dX2_goOn_35 (by decide) (fun c35 => ?_) (fun c35 => ?_)
              · skip
                have hend : goF n Si = Si := goF_stop (by omega) _
                have cut51 : ∀ (fu : Nat) (n : Nat) (ga : GS) (Si : StT) (hmu : n < fu) (hxi : RM ga Si) (hvi : VS Si) (hgo : goB n Si = goB 164 (goF 164 (goA 164 S))) (hfu : 164 ≤ n + (Si.2 (pl Si) 3).length) (hei : ME ga g) (H : Heap) (locs : List Loc) (hw : mmB D A s cI ad ga H locs) (ls : Array Slot) (hl : lv_has ls 2 [(0, .ref (ad 0))]), W p l e ({ frames := 5, cells := 0, slots := 0, locals := 117 } : Room) s m args below meth c H locs 0 0 (mmQv D cI ad A below args s (fun g1 => RM g1 (turnA S) ∧ ME g1 g)) (F0 m 51 ls []) := by
                  intro fu
                  induction fu with
                  | zero => intro n ga Si hmu; exact absurd hmu (Nat.not_lt_zero _)
                  | succ fu ih51 =>
                    intro n ga Si hmu hxi hvi hgo hfu hei H locs hw ls hl
                    refine lv_aload_n hx hb dX2_goOn_51 rfl (lv_at hl 0 rfl) ?_
                    refine mm_callr (rest := []) cx hK hA hw hl (c_X2_dearest l ga Si hxi hvi) tg_RX2_94 ⟨rfl, rfl⟩ 0 rfl (by decide +kernel) ⟨Nat.le_of_ble_eq_true rfl, Nat.le_of_ble_eq_true rfl⟩ ⟨Nat.zero_le _, Nat.zero_le _⟩ (Nat.le_of_ble_eq_true rfl) dX2_goOn_52 (rfl) (fun z52 hz52 => ?_)
                    have hdb := dearN_b Si.1 10
                    refine ts_if_lt (tgt := 70) hx hb (by omega) dX2_goOn_55 (by decide) (fun c55 => ?_) (fun c55 => ?_)
                    · skip
                      have hend : goB n Si = Si := goB_stop (by omega) _
                      have hx3 : RM ga (goB 164 (goF 164 (goA 164 S))) := by rw [← hgo, hend]; exact hxi
                      have hv3 : VS (goB 164 (goF 164 (goA 164 S))) := by rw [← hgo, hend]; exact hvi
                      refine lv_aload_n hx hb dX2_goOn_70 rfl (lv_at hl 0 rfl) ?_
                      refine mm_calli (rest := []) cx hK hA hw hl (c_X2_ends l ga (goB 164 (goF 164 (goA 164 S))) hx3 hv3) tg_RX2_100 ⟨rfl, rfl⟩ 0 rfl (by decide +kernel) ⟨Nat.le_of_ble_eq_true rfl, Nat.le_of_ble_eq_true rfl⟩ ⟨Nat.zero_le _, Nat.zero_le _⟩ (Nat.le_of_ble_eq_true rfl) dX2_goOn_71 (rfl) (fun z71 g71 H locs hq71 hw => ?_)
                      refine lv_istore_n (lv' := [(1, .int (iN z71)), (0, .ref (ad 0))]) hx hb dX2_goOn_74 rfl hl (by decide) rfl (fun ls hl => ?_)
                      exact mm_vret cx hr hlocks hw (⟨hq71.2.1, ME_tr hq71.2.2 hei⟩) dX2_goOn_75
                    · skip
                      have hcd : 0 ≤ dearN Si.1 10 := by omega
                      have hd2 := hdb.2.2 hcd
                      have hf0 := fuel_B hvi hfu hcd
                      have hn1 : n = (n - 1) + 1 := by omega
                      refine lv_aload_n hx hb dX2_goOn_58 rfl (lv_at hl 0 rfl) ?_
                      refine lv_aload_n hx hb dX2_goOn_59 rfl (lv_at hl 0 rfl) ?_
                      refine mm_callr (rest := [.ref (ad 0)]) cx hK hA hw hl (c_X2_dearest l ga Si hxi hvi) tg_RX2_94 ⟨rfl, rfl⟩ 0 rfl (by decide +kernel) ⟨Nat.le_of_ble_eq_true rfl, Nat.le_of_ble_eq_true rfl⟩ ⟨Nat.zero_le _, Nat.zero_le _⟩ (Nat.le_of_ble_eq_true rfl) dX2_goOn_60 (rfl) (fun z60 hz60 => ?_)
                      refine mm_calli (rest := []) cx hK hA hw hl (c_X2_buys l z60 (dearN Si.1 10).toNat ga Si hxi hvi (by omega) hd2.2) tg_RX2_97 ⟨rfl, rfl⟩ 1 rfl (by decide +kernel) ⟨Nat.le_of_ble_eq_true rfl, Nat.le_of_ble_eq_true rfl⟩ ⟨Nat.zero_le _, Nat.zero_le _⟩ (Nat.le_of_ble_eq_true rfl) dX2_goOn_63 (rfl) (fun z63 g63 H locs hq63 hw => ?_)
                      refine lv_istore_n (lv' := [(1, .int (iN z63)), (0, .ref (ad 0))]) hx hb dX2_goOn_66 rfl hl (by decide) rfl (fun ls hl => ?_)
                      have hvp := VS_buy hvi (by omega) hd2.2
                      refine lv_goto (tgt := 51) hx hb dX2_goOn_67 (by decide) ?_
                      exact ih51 (n - 1) (g63) (buyA Si (dearN Si.1 10).toNat) (by omega) (hq63.2.1) (hvp) (by rw [← hgo, hn1, goB_step hcd]; rfl) (by rw [buy_len]; omega) (ME_tr hq63.2.2 hei) _ _ hw _ (lv_sub hl [1] rfl)
                exact cut51 _ (164) (ga) ((goF 164 (goA 164 S))) (Nat.lt_succ_self _) (by rw [← hgo, hend]; exact hxi) (by rw [← hgo, hend]; exact hvi) (rfl) (by omega) (hei) _ _ hw _ (lv_sub hl [0] rfl)
              · skip
                have hcd : 0 ≤ ffst 0 2 (hand Si) := by omega
                have hf0 := fuel_A hvi hfu hcd
                have hn1 : n = (n - 1) + 1 := by omega
                refine lv_aload_n hx hb dX2_goOn_38 rfl (lv_at hl 0 rfl) ?_
                refine lv_aload_n hx hb dX2_goOn_39 rfl (lv_at hl 0 rfl) ?_
                refine ts_iconst hx hb dX2_goOn_40 ?_
                refine mm_callr (rest := [.ref (ad 0)]) cx hK hA hw hl (c_X2_firstOf l 1 0 2 ga Si hxi hvi (by omega)) tg_RX2_87 ⟨rfl, rfl⟩ 1 rfl (by decide +kernel) ⟨Nat.le_of_ble_eq_true rfl, Nat.le_of_ble_eq_true rfl⟩ ⟨Nat.zero_le _, Nat.zero_le _⟩ (Nat.le_of_ble_eq_true rfl) dX2_goOn_41 (rfl) (fun z41 hz41 => ?_)
                have hfo := ffst_ok hcd
                refine mm_calli (rest := []) cx hK hA hw hl (c_X2_plays l z41 (ffst 0 2 (hand Si)).toNat ga Si hxi hvi (by omega)) tg_RX2_91 ⟨rfl, rfl⟩ 1 rfl (by decide +kernel) ⟨Nat.le_of_ble_eq_true rfl, Nat.le_of_ble_eq_true rfl⟩ ⟨Nat.zero_le _, Nat.zero_le _⟩ (Nat.le_of_ble_eq_true rfl) dX2_goOn_44 (rfl) (fun z44 g44 H locs hq44 hw => ?_)
                refine lv_istore_n (lv' := [(1, .int (iN z44)), (0, .ref (ad 0))]) hx hb dX2_goOn_47 rfl hl (by decide) rfl (fun ls hl => ?_)
                have hvp := VS_play hvi hfo.1 (Or.inl hfo.2.2.2)
                refine lv_goto (tgt := 30) hx hb dX2_goOn_48 (by decide) ?_
                exact ih30 (n - 1) (g44) (playA Si (ffst 0 2 (hand Si)).toNat) (by omega) (hq44.2.1) (hvp.1) (by rw [← hgo, hn1, goF_step hcd]; rfl) (by rw [hvp.2.2, hvp.2.1]; omega) (ME_tr hq44.2.2 hei) _ _ hw _ (lv_sub hl [1] rfl)
          exact cut30 _ (164) (ga) ((goA 164 S)) (Nat.lt_succ_self _) (by rw [← hgo, hend]; exact hxi) (by rw [← hgo, hend]; exact hvi) (rfl) (by omega) (hei) _ _ hw _ (lv_sub hl [0] rfl)
        · skip
          have hcd : 0 < Si.1 4 ∧ 0 ≤ ffst 6 9 (hand Si) := by omega
          have hf0 := fuel_A hvi hfu hcd.2
          have hn1 : n = (n - 1) + 1 := by omega
          refine lv_aload_n hx hb dX2_goOn_17 rfl (lv_at hl 0 rfl) ?_
          refine lv_aload_n hx hb dX2_goOn_18 rfl (lv_at hl 0 rfl) ?_
          refine ts_iconst hx hb dX2_goOn_19 ?_
          refine mm_callr (rest := [.ref (ad 0)]) cx hK hA hw hl (c_X2_firstOf l 0 6 9 ga Si hxi hvi (by omega)) tg_RX2_87 ⟨rfl, rfl⟩ 1 rfl (by decide +kernel) ⟨Nat.le_of_ble_eq_true rfl, Nat.le_of_ble_eq_true rfl⟩ ⟨Nat.zero_le _, Nat.zero_le _⟩ (Nat.le_of_ble_eq_true rfl) dX2_goOn_20 (rfl) (fun z20 hz20 => ?_)
          have hfo := ffst_ok hcd.2
          refine mm_calli (rest := []) cx hK hA hw hl (c_X2_plays l z20 (ffst 6 9 (hand Si)).toNat ga Si hxi hvi (by omega)) tg_RX2_91 ⟨rfl, rfl⟩ 1 rfl (by decide +kernel) ⟨Nat.le_of_ble_eq_true rfl, Nat.le_of_ble_eq_true rfl⟩ ⟨Nat.zero_le _, Nat.zero_le _⟩ (Nat.le_of_ble_eq_true rfl) dX2_goOn_23 (rfl) (fun z23 g23 H locs hq23 hw => ?_)
          refine lv_istore_n (lv' := [(1, .int (iN z23)), (0, .ref (ad 0))]) hx hb dX2_goOn_26 rfl hl (by decide) rfl (fun ls hl => ?_)
          have hvp := VS_play hvi hfo.1 (Or.inr ⟨hfo.2.2.1, hcd.1⟩)
          refine lv_goto (tgt := 0) hx hb dX2_goOn_27 (by decide) ?_
          exact ih0 (n - 1) (g23) (playA Si (ffst 6 9 (hand Si)).toNat) (by omega) (hq23.2.1) (hvp.1) (by rw [← hgo, hn1, goA_step hcd]; rfl) (by rw [hvp.2.2, hvp.2.1]; omega) (ME_tr hq23.2.2 hei) _ _ hw _ (lv_sub hl [1] rfl)
  exact cut0 _ (164) (g) (S) (Nat.lt_succ_self _) (hx0) (hv0) (rfl) (by omega) (ME_rf g) _ _ hw _ (lv_sub hl [0] rfl)
set_option maxHeartbeats 4000000 in
set_option maxRecDepth 100000 in
theorem c_X2_goesOn (l : Launch) (xn : Int) (n : Nat) (g : GS) (S : StT) (hx0 : RM g S) (hv0 : VS S) (hn : xn = (n : Int) ∧ n ≤ 60) : mmMi l yX2_goesOn (wU yX2_goesOn cX2_goesOn 3 (some .int)) ({ frames := 6, cells := 0, slots := 0, locals := 138 } : Room) [.int (iN xn)] g (fun z g1 => z = (goesA n S).1 ∧ RM g1 (goesA n S).2 ∧ ME g1 g) := by
  refine mmMi_of (by decide) (Nat.le_of_ble_eq_true rfl) ?_
  intro p e s m args below meth c D cI tb ad A ls cx hr hlocks hK hA hw hl
  have hx := cx.1
  have hb := cx.2.1
  have hl : lv_has ls 3 [(0, .ref (ad 0)), (1, .int (iN xn))] := hl
  refine ts_iconst hx hb dX2_goesOn_0 ?_
  refine lv_istore_n (lv' := [(2, .int (iN 0)), (0, .ref (ad 0)), (1, .int (iN xn))]) hx hb dX2_goesOn_1 rfl hl (by decide) rfl (fun ls hl => ?_)
  have cut2 : ∀ (fu : Nat) (i : Int) (ga : GS) (Si : StT) (hmu : ((n : Int) - i).toNat < fu) (hi : 0 ≤ i ∧ i ≤ n) (hxi : RM ga Si) (hvi : VS Si) (hg1 : i + (goesA ((n : Int) - i).toNat Si).1 = (goesA n S).1) (hg2 : (goesA ((n : Int) - i).toNat Si).2 = (goesA n S).2) (hei : ME ga g) (H : Heap) (locs : List Loc) (hw : mmB D A s cI ad ga H locs) (ls : Array Slot) (hl : lv_has ls 3 [(0, .ref (ad 0)), (1, .int (iN xn)), (2, .int (iN i))]), W p l e ({ frames := 6, cells := 0, slots := 0, locals := 138 } : Room) s m args below meth c H locs 0 0 (mmQi D cI ad A below args s (fun z g1 => z = (goesA n S).1 ∧ RM g1 (goesA n S).2 ∧ ME g1 g)) (F0 m 2 ls []) := by
    intro fu
    induction fu with
    | zero => intro i ga Si hmu; exact absurd hmu (Nat.not_lt_zero _)
    | succ fu ih2 =>
      intro i ga Si hmu hi hxi hvi hg1 hg2 hei H locs hw ls hl
      refine lv_iload_n hx hb dX2_goesOn_2 rfl (lv_at hl 2 rfl) ?_
      refine lv_iload_n hx hb dX2_goesOn_3 rfl (lv_at hl 1 rfl) ?_
      refine ts_icmp_ge (tgt := 27) hx hb (by omega) dX2_goesOn_4 (by decide) (fun c4 => ?_) (fun c4 => ?_)
      · skip
        rw [show ((n : Int) - i).toNat = 0 by omega] at hg1 hg2
        refine lv_iload_n hx hb dX2_goesOn_27 rfl (lv_at hl 2 rfl) ?_
        exact mm_ret cx hr hlocks hw (⟨by rw [← hg1]; show i = i + (0 : Int); omega, by rw [← hg2]; exact hxi, hei⟩) dX2_goesOn_28
      · skip
        refine lv_aload_n hx hb dX2_goesOn_7 rfl (lv_at hl 0 rfl) ?_
        refine mm_get0 cx hK hw tl_RX2_7 dX2_goesOn_8 ?_
        refine ts_bipush hx hb dX2_goesOn_11 (by decide) ?_
        refine mm_ld0 cx hK hw (8) (by omega) dX2_goesOn_13 (fun z13 hz13 => ?_)
        have hn8 := hxi.1 8 (by omega)
        have hv8 := hvi.2.2.2.2.1
        refine ts_if_ne (tgt := 27) hx hb (by omega) dX2_goesOn_14 (by decide) (fun c14 => ?_) (fun c14 => ?_)
        · skip
          have he := goes_stop (show Si.1 8 = 1 by omega) ((n : Int) - i).toNat
          rw [he] at hg1 hg2
          refine lv_iload_n hx hb dX2_goesOn_27 rfl (lv_at hl 2 rfl) ?_
          exact mm_ret cx hr hlocks hw (⟨by rw [← hg1]; show i = i + (0 : Int); omega, by rw [← hg2]; exact hxi, hei⟩) dX2_goesOn_28
        · skip
          have h8i : Si.1 8 = 0 := by omega
          refine lv_aload_n hx hb dX2_goesOn_17 rfl (lv_at hl 0 rfl) ?_
          refine mm_callv (rest := []) cx hK hA hw hl (c_X2_goOn l ga Si hxi hvi) tg_RX2_103 ⟨rfl, rfl⟩ 0 rfl (by decide +kernel) ⟨Nat.le_of_ble_eq_true rfl, Nat.le_of_ble_eq_true rfl⟩ ⟨Nat.zero_le _, Nat.zero_le _⟩ (Nat.le_of_ble_eq_true rfl) dX2_goesOn_18 (rfl) (fun g18 H locs hq18 hw => ?_)
          obtain ⟨z21, hz21⟩ : ∃ z : Int, z = i + 1 := ⟨_, rfl⟩
          refine lv_iinc (v := iN z21) (lv' := [(2, .int (iN z21)), (0, .ref (ad 0)), (1, .int (iN xn))]) hx hb dX2_goesOn_21 hl (k := 2) rfl (by rw [hz21]; exact iN_add _ _) (by decide) rfl (fun ls hl => ?_)
          have hgs : goesA ((n : Int) - i).toNat Si = ((goesA ((n : Int) - z21).toNat (turnA Si)).1 + 1, (goesA ((n : Int) - z21).toNat (turnA Si)).2) := by
            rw [show ((n : Int) - i).toNat = ((n : Int) - z21).toNat + 1 by omega]
            show (if Si.1 8 = 1 then _ else _) = _
            rw [if_neg (by omega)]
          refine lv_goto (tgt := 2) hx hb dX2_goesOn_24 (by decide) ?_
          exact ih2 (z21) (g18) (turnA Si) (by omega) (by omega) (hq18.1) (VS_turn hvi h8i) (by rw [hgs] at hg1; rw [← hg1]; show _ = i + ((goesA ((n : Int) - z21).toNat (turnA Si)).1 + 1); omega) (by rw [hgs] at hg2; rw [← hg2]) (ME_tr hq18.2 hei) _ _ hw _ (lv_sub hl [1, 2, 0] rfl)
  exact cut2 _ (0) (g) (S) (Nat.lt_succ_self _) (by omega) (hx0) (hv0) (by rw [show ((n : Int) - 0).toNat = n by omega]; omega) (by rw [show ((n : Int) - 0).toNat = n by omega]) (ME_rf g) _ _ hw _ (lv_sub hl [1, 2, 0] rfl)
