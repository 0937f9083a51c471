theorem leadN_le (L : LLT) : ∀ n : Nat, leadN L n ≤ n
  | 0 => Nat.le_refl _
  | n + 1 => by
    have h := leadN_le L n
    show (if ptA L (leadN L n) < ptA L (n + 1) then n + 1 else leadN L n) ≤ n + 1
    split <;> omega
theorem VS_s1 {S : StT} (h : VS S) {k : Nat} (hk : k < 10 → why S.1 k = 0) : VS (if k < 10 then buyA S k else S) := by
  split
  · rename_i h1
    exact VS_buy h h1 (hk h1)
  · exact h
theorem wouR_b {S : StT} (h : VS S) {k : Nat} (hk : k < 10 → why S.1 k = 0) : -9900 ≤ wouR S k ∧ wouR S k ≤ 10100 := by
  have h1 := ptA_b (VS_goes 60 _ (VS_s1 h hk)).1 (p := pl S) (VS_pl h).1
  unfold wouR
  omega
theorem advM_b {S : StT} (h : VS S) : ∀ k : Nat, k ≤ 11 → (-1000004 ≤ (advM S k).1 ∧ (advM S k).1 < (k : Int) + (if k = 0 then 1 else 0)) ∧ (-10000 ≤ (advM S k).2 ∧ (advM S k).2 ≤ 10100)
  | 0, _ => by
    show (-1000004 ≤ (-1000004 : Int) ∧ (-1000004 : Int) < (0 : Nat) + _) ∧ (-10000 ≤ (0 : Int) ∧ (0 : Int) ≤ 10100)
    split <;> omega
  | k + 1, hk => by
    have ih := advM_b h k (by omega)
    have e : advM S (k + 1) = if (k = 10 ∨ why S.1 k = 0) ∧ ((advM S k).1 = -1000004 ∨ (advM S k).2 < wouR S k) then ((k : Int), wouR S k) else advM S k := rfl
    rw [e, if_neg (show ¬ k + 1 = 0 by omega)]
    by_cases hc : (k = 10 ∨ why S.1 k = 0) ∧ ((advM S k).1 = -1000004 ∨ (advM S k).2 < wouR S k)
    · rw [if_pos hc]
      have hb := wouR_b h (k := k) (by omega)
      show (-1000004 ≤ (k : Int) ∧ (k : Int) < ((k + 1 : Nat) : Int) + 0) ∧ (-10000 ≤ wouR S k ∧ wouR S k ≤ 10100)
      omega
    · rw [if_neg hc]
      by_cases h0 : k = 0
      · rw [if_pos h0] at ih; omega
      · rw [if_neg h0] at ih; omega
set_option maxHeartbeats 4000000 in
set_option maxRecDepth 100000 in
theorem c_X2_outcome (l : Launch) (what : Int) (g : GS) (S : StT) (hx0 : RM g S) (hv0 : VS S) (hkb : (-2147483648 ≤ what ∧ what ≤ 2147483647)) : mmMi l yX2_outcome (wU yX2_outcome cX2_outcome 5 (some .int)) ({ frames := 7, cells := 0, slots := 0, locals := 160 } : Room) [.int (iN what)] g (fun z g1 => z = outR S what ∧ RM g1 S ∧ MO g1 g) := by
  refine mmMi_of (by decide) (Nat.le_of_ble_eq_true rfl) ?_
  intro p e s m args below meth c D cI tb ad A ls cx hr hlocks hK hA hw hl
  have hx := cx.1
  have hb := cx.2.1
  have hl : lv_has ls 5 [(0, .ref (ad 0)), (1, .int (iN what))] := hl
  have hvb := VS_nums hv0
  have hvG := VS_goes 60 S hv0
  have hvC := VS_nums hvG.1
  refine lv_iload_n hx hb dX2_outcome_0 rfl (lv_at hl 1 rfl) ?_
  refine ts_iconst hx hb dX2_outcome_1 ?_
  refine ts_iconst hx hb dX2_outcome_2 ?_
  refine ps_call (rest := []) cx hl (c_X2_in l what 0 4 (by omega)) tg_RX2_48 ⟨rfl, rfl⟩ 3 rfl (by decide +kernel) ⟨Nat.le_of_ble_eq_true rfl, Nat.le_of_ble_eq_true rfl⟩ ⟨Nat.zero_le _, Nat.zero_le _⟩ (Nat.le_of_ble_eq_true rfl) dX2_outcome_3 (rfl) (fun z3 hz3 => ?_)
  refine ts_if_ne (tgt := 12) hx hb (by omega) dX2_outcome_6 (by decide) (fun c6 => ?_) (fun c6 => ?_)
  · skip
    refine lv_aload_n hx hb dX2_outcome_12 rfl (lv_at hl 0 rfl) ?_
    refine mm_callv (rest := []) cx hK hA hw hl (c_X2_putAside l g) tg_RX2_141 ⟨rfl, rfl⟩ 0 rfl (by decide +kernel) ⟨Nat.le_of_ble_eq_true rfl, Nat.le_of_ble_eq_true rfl⟩ ⟨Nat.zero_le _, Nat.zero_le _⟩ (Nat.le_of_ble_eq_true rfl) dX2_outcome_13 (rfl) (fun g13 H locs hq13 hw => ?_)
    have hr13 : RM g13 S := RM_of hx0 (fun j _ => by rw [hq13.2.1])
    refine lv_aload_n hx hb dX2_outcome_16 rfl (lv_at hl 0 rfl) ?_
    refine ts_bipush hx hb dX2_outcome_17 (by decide) ?_
    refine mm_calli (rest := []) cx hK hA hw hl (c_X2_goesOn l 60 60 g13 S hr13 hv0 (by omega)) tg_RX2_121 ⟨rfl, rfl⟩ 1 rfl (by decide +kernel) ⟨Nat.le_of_ble_eq_true rfl, Nat.le_of_ble_eq_true rfl⟩ ⟨Nat.zero_le _, Nat.zero_le _⟩ (Nat.le_of_ble_eq_true rfl) dX2_outcome_19 (rfl) (fun z19 g19 H locs hq19 hw => ?_)
    have hv15 := VS_pile hvG.1 5 (by omega)
    have hc15 : (goesA 60 S).2.1 (10 + 5) = (goesA 60 S).2.1 15 := rfl
    refine lv_istore_n (lv' := [(2, .int (iN z19)), (0, .ref (ad 0)), (1, .int (iN what))]) hx hb dX2_outcome_22 rfl hl (by decide) rfl (fun ls hl => ?_)
    refine lv_aload_n hx hb dX2_outcome_23 rfl (lv_at hl 1 rfl) ?_
    refine mm_callr (rest := []) cx hK hA hw hl (c_X2_leader l g19 (goesA 60 S).2 hq19.2.1 hvG.1) tg_RX2_144 ⟨rfl, rfl⟩ 0 rfl (by decide +kernel) ⟨Nat.le_of_ble_eq_true rfl, Nat.le_of_ble_eq_true rfl⟩ ⟨Nat.zero_le _, Nat.zero_le _⟩ (Nat.le_of_ble_eq_true rfl) dX2_outcome_24 (rfl) (fun z24 hz24 => ?_)
    have hlb := leadN_le (goesA 60 S).2.2 ((goesA 60 S).2.1 0 - 1).toNat
    refine lv_istore_n (lv' := [(3, .int (iN z24)), (2, .int (iN z19)), (0, .ref (ad 0)), (1, .int (iN what))]) hx hb dX2_outcome_27 rfl hl (by decide) rfl (fun ls hl => ?_)
    refine lv_iload_n hx hb dX2_outcome_28 rfl (lv_at hl 3 rfl) ?_
    refine ts_if_ne (tgt := 36) hx hb (by omega) dX2_outcome_29 (by decide) (fun c29 => ?_) (fun c29 => ?_)
    · skip
      refine lv_iload_n hx hb dX2_outcome_36 rfl (lv_at hl 3 rfl) ?_
      refine ts_iconst hx hb dX2_outcome_37 ?_
      refine ts_icmp_ne (tgt := 49) hx hb (by omega) dX2_outcome_38 (by decide) (fun c38 => ?_) (fun c38 => ?_)
      · skip
        refine lv_iload_n hx hb dX2_outcome_49 rfl (lv_at hl 3 rfl) ?_
        refine ts_iconst hx hb dX2_outcome_50 ?_
        refine ts_icmp_ne (tgt := 58) hx hb (by omega) dX2_outcome_51 (by decide) (fun c51 => ?_) (fun c51 => ?_)
        · skip
          refine lv_iload_n hx hb dX2_outcome_58 rfl (lv_at hl 3 rfl) ?_
          refine ts_iconst hx hb dX2_outcome_59 ?_
          refine ts_icmp_ne (tgt := 73) hx hb (by omega) dX2_outcome_60 (by decide) (fun c60 => ?_) (fun c60 => ?_)
          · skip
            refine lv_aload_n hx hb dX2_outcome_73 rfl (lv_at hl 2 rfl) ?_
            refine mm_get0 cx hK hw tl_RX2_7 dX2_outcome_74 ?_
            refine ts_bipush hx hb dX2_outcome_77 (by decide) ?_
            refine mm_ld0 cx hK hw (15) (by omega) dX2_outcome_79 (fun z79 hz79 => ?_)
            have hR : outR S what = z79 := by
              unfold outR
              rw [if_neg (by omega), if_neg (by omega), if_neg (by omega), if_neg (by omega), if_neg (by omega), hz79, hq19.2.1.1 _ (by omega)]
            refine lv_istore (lv' := [(4, .int (iN z79)), (3, .int (iN z24)), (2, .int (iN z19)), (0, .ref (ad 0)), (1, .int (iN what))]) hx hb dX2_outcome_80 hl (by decide) rfl (fun ls hl => ?_)
            refine lv_aload_n hx hb dX2_outcome_82 rfl (lv_at hl 3 rfl) ?_
            refine mm_callv (rest := []) cx hK hA hw hl (c_X2_putBack l g19) tg_RX2_147 ⟨rfl, rfl⟩ 0 rfl (by decide +kernel) ⟨Nat.le_of_ble_eq_true rfl, Nat.le_of_ble_eq_true rfl⟩ ⟨Nat.zero_le _, Nat.zero_le _⟩ (Nat.le_of_ble_eq_true rfl) dX2_outcome_83 (rfl) (fun g83 H locs hq83 hw => ?_)
            refine lv_iload hx hb dX2_outcome_86 (lv_at hl 0 rfl) ?_
            exact mm_ret cx hr hlocks hw (⟨hR.symm, RM_of hx0 (fun j hj => by rw [hq83.1 j hj, hq19.2.2.1, hq13.1 j hj]), MO_tr hq83.2.2 (MO_tr (MO_ME hq19.2.2) hq13.2.2)⟩) dX2_outcome_88
          · skip
            refine lv_aload_n hx hb dX2_outcome_63 rfl (lv_at hl 2 rfl) ?_
            refine mm_get0 cx hK hw tl_RX2_7 dX2_outcome_64 ?_
            refine ts_bipush hx hb dX2_outcome_67 (by decide) ?_
            refine mm_ld0 cx hK hw (8) (by omega) dX2_outcome_69 (fun z69 hz69 => ?_)
            have hR : outR S what = z69 := by
              unfold outR
              rw [if_neg (by omega), if_neg (by omega), if_neg (by omega), if_neg (by omega), if_pos (by omega), hz69, hq19.2.1.1 _ (by omega)]
            refine lv_goto (tgt := 80) hx hb dX2_outcome_70 (by decide) ?_
            
            refine lv_istore (lv' := [(4, .int (iN z69)), (3, .int (iN z24)), (2, .int (iN z19)), (0, .ref (ad 0)), (1, .int (iN what))]) hx hb dX2_outcome_80 hl (by decide) rfl (fun ls hl => ?_)
            refine lv_aload_n hx hb dX2_outcome_82 rfl (lv_at hl 3 rfl) ?_
            refine mm_callv (rest := []) cx hK hA hw hl (c_X2_putBack l g19) tg_RX2_147 ⟨rfl, rfl⟩ 0 rfl (by decide +kernel) ⟨Nat.le_of_ble_eq_true rfl, Nat.le_of_ble_eq_true rfl⟩ ⟨Nat.zero_le _, Nat.zero_le _⟩ (Nat.le_of_ble_eq_true rfl) dX2_outcome_83 (rfl) (fun g83 H locs hq83 hw => ?_)
            refine lv_iload hx hb dX2_outcome_86 (lv_at hl 0 rfl) ?_
            exact mm_ret cx hr hlocks hw (⟨hR.symm, RM_of hx0 (fun j hj => by rw [hq83.1 j hj, hq19.2.2.1, hq13.1 j hj]), MO_tr hq83.2.2 (MO_tr (MO_ME hq19.2.2) hq13.2.2)⟩) dX2_outcome_88
        · skip
          refine lv_iload_n hx hb dX2_outcome_54 rfl (lv_at hl 1 rfl) ?_
          have hR : outR S what = z19 := by
            unfold outR
            rw [if_neg (by omega), if_neg (by omega), if_neg (by omega), if_pos (by omega), hq19.1]
          refine lv_goto (tgt := 80) hx hb dX2_outcome_55 (by decide) ?_
          
          refine lv_istore (lv' := [(4, .int (iN z19)), (3, .int (iN z24)), (2, .int (iN z19)), (0, .ref (ad 0)), (1, .int (iN what))]) hx hb dX2_outcome_80 hl (by decide) rfl (fun ls hl => ?_)
          refine lv_aload_n hx hb dX2_outcome_82 rfl (lv_at hl 3 rfl) ?_
          refine mm_callv (rest := []) cx hK hA hw hl (c_X2_putBack l g19) tg_RX2_147 ⟨rfl, rfl⟩ 0 rfl (by decide +kernel) ⟨Nat.le_of_ble_eq_true rfl, Nat.le_of_ble_eq_true rfl⟩ ⟨Nat.zero_le _, Nat.zero_le _⟩ (Nat.le_of_ble_eq_true rfl) dX2_outcome_83 (rfl) (fun g83 H locs hq83 hw => ?_)
          refine lv_iload hx hb dX2_outcome_86 (lv_at hl 0 rfl) ?_
          exact mm_ret cx hr hlocks hw (⟨hR.symm, RM_of hx0 (fun j hj => by rw [hq83.1 j hj, hq19.2.2.1, hq13.1 j hj]), MO_tr hq83.2.2 (MO_tr (MO_ME hq19.2.2) hq13.2.2)⟩) dX2_outcome_88
      · skip
        refine lv_aload_n hx hb dX2_outcome_41 rfl (lv_at hl 2 rfl) ?_
        refine lv_iload_n hx hb dX2_outcome_42 rfl (lv_at hl 0 rfl) ?_
        refine mm_callr (rest := []) cx hK hA hw hl (c_X2_pointsBy l z24 (leadN (goesA 60 S).2.2 ((goesA 60 S).2.1 0 - 1).toNat) (by omega) g19 (goesA 60 S).2 hq19.2.1 hvG.1) tg_RX2_135 ⟨rfl, rfl⟩ 1 rfl (by decide +kernel) ⟨Nat.le_of_ble_eq_true rfl, Nat.le_of_ble_eq_true rfl⟩ ⟨Nat.zero_le _, Nat.zero_le _⟩ (Nat.le_of_ble_eq_true rfl) dX2_outcome_43 (rfl) (fun z43 hz43 => ?_)
        have hpb2 := ptA_b hvG.1 (p := leadN (goesA 60 S).2.2 ((goesA 60 S).2.1 0 - 1).toNat) (by omega)
        have hR : outR S what = z43 := by
          unfold outR
          rw [if_neg (by omega), if_neg (by omega), if_pos (by omega), hz43]
        refine lv_goto (tgt := 80) hx hb dX2_outcome_46 (by decide) ?_
        
        refine lv_istore (lv' := [(4, .int (iN z43)), (3, .int (iN z24)), (2, .int (iN z19)), (0, .ref (ad 0)), (1, .int (iN what))]) hx hb dX2_outcome_80 hl (by decide) rfl (fun ls hl => ?_)
        refine lv_aload_n hx hb dX2_outcome_82 rfl (lv_at hl 3 rfl) ?_
        refine mm_callv (rest := []) cx hK hA hw hl (c_X2_putBack l g19) tg_RX2_147 ⟨rfl, rfl⟩ 0 rfl (by decide +kernel) ⟨Nat.le_of_ble_eq_true rfl, Nat.le_of_ble_eq_true rfl⟩ ⟨Nat.zero_le _, Nat.zero_le _⟩ (Nat.le_of_ble_eq_true rfl) dX2_outcome_83 (rfl) (fun g83 H locs hq83 hw => ?_)
        refine lv_iload hx hb dX2_outcome_86 (lv_at hl 0 rfl) ?_
        exact mm_ret cx hr hlocks hw (⟨hR.symm, RM_of hx0 (fun j hj => by rw [hq83.1 j hj, hq19.2.2.1, hq13.1 j hj]), MO_tr hq83.2.2 (MO_tr (MO_ME hq19.2.2) hq13.2.2)⟩) dX2_outcome_88
    · skip
      refine lv_iload_n hx hb dX2_outcome_32 rfl (lv_at hl 0 rfl) ?_
      have hR : outR S what = z24 := by
        unfold outR
        rw [if_neg (by omega), if_pos (by omega), hz24]
      refine lv_goto (tgt := 80) hx hb dX2_outcome_33 (by decide) ?_
      
      refine lv_istore (lv' := [(4, .int (iN z24)), (3, .int (iN z24)), (2, .int (iN z19)), (0, .ref (ad 0)), (1, .int (iN what))]) hx hb dX2_outcome_80 hl (by decide) rfl (fun ls hl => ?_)
      refine lv_aload_n hx hb dX2_outcome_82 rfl (lv_at hl 3 rfl) ?_
      refine mm_callv (rest := []) cx hK hA hw hl (c_X2_putBack l g19) tg_RX2_147 ⟨rfl, rfl⟩ 0 rfl (by decide +kernel) ⟨Nat.le_of_ble_eq_true rfl, Nat.le_of_ble_eq_true rfl⟩ ⟨Nat.zero_le _, Nat.zero_le _⟩ (Nat.le_of_ble_eq_true rfl) dX2_outcome_83 (rfl) (fun g83 H locs hq83 hw => ?_)
      refine lv_iload hx hb dX2_outcome_86 (lv_at hl 0 rfl) ?_
      exact mm_ret cx hr hlocks hw (⟨hR.symm, RM_of hx0 (fun j hj => by rw [hq83.1 j hj, hq19.2.2.1, hq13.1 j hj]), MO_tr hq83.2.2 (MO_tr (MO_ME hq19.2.2) hq13.2.2)⟩) dX2_outcome_88
  · skip
    have hR : outR S what = -1000001 := by
      unfold outR
      rw [if_pos (by omega)]
    refine ts_ldc (z := -1000001) hx hb cx.2.2.2.1 cx.2.2.2.2 tk_RX2_63 dX2_outcome_9 ?_
    exact mm_ret cx hr hlocks hw (⟨hR.symm, hx0, ⟨rfl, rfl, rfl⟩⟩) dX2_outcome_11
set_option maxHeartbeats 4000000 in
set_option maxRecDepth 100000 in
theorem c_X2_wouldHave (l : Launch) (x : Int) (k : Nat) (g : GS) (S : StT) (hx0 : RM g S) (hv0 : VS S) (hk : x = (k : Int) ∧ k ≤ 10) (hkw : k < 10 → why S.1 k = 0) : mmMi l yX2_wouldHave (wU yX2_wouldHave cX2_wouldHave 6 (some .int)) ({ frames := 7, cells := 0, slots := 0, locals := 160 } : Room) [.int (iN x)] g (fun z g1 => z = wouR S k ∧ RM g1 S ∧ MO g1 g) := by
  refine mmMi_of (by decide) (Nat.le_of_ble_eq_true rfl) ?_
  intro p e s m args below meth c D cI tb ad A ls cx hr hlocks hK hA hw hl
  have hx := cx.1
  have hb := cx.2.1
  have hl : lv_has ls 6 [(0, .ref (ad 0)), (1, .int (iN x))] := hl
  have hvb := VS_nums hv0
  have hpl := VS_pl hv0
  have s1 := hx0.1 1 (by omega)
  obtain ⟨S1, hS1⟩ : ∃ S1, S1 = if k < 10 then buyA S k else S := ⟨_, rfl⟩
  have hvS : VS S1 := by
    rw [hS1]
    exact VS_s1 hv0 hkw
  have hvG := VS_goes 60 S1 hvS
  refine lv_aload_n hx hb dX2_wouldHave_0 rfl (lv_at hl 0 rfl) ?_
  refine mm_callv (rest := []) cx hK hA hw hl (c_X2_putAside l g) tg_RX2_141 ⟨rfl, rfl⟩ 0 rfl (by decide +kernel) ⟨Nat.le_of_ble_eq_true rfl, Nat.le_of_ble_eq_true rfl⟩ ⟨Nat.zero_le _, Nat.zero_le _⟩ (Nat.le_of_ble_eq_true rfl) dX2_wouldHave_1 (rfl) (fun g1 H locs hq1 hw => ?_)
  have hr1 : RM g1 S := RM_of hx0 (fun j _ => by rw [hq1.2.1])
  have hz1a : g1 0 1 = S.1 1 := hr1.1 1 (by omega)
  refine lv_aload_n hx hb dX2_wouldHave_4 rfl (lv_at hl 0 rfl) ?_
  refine mm_get0 cx hK hw tl_RX2_7 dX2_wouldHave_5 ?_
  refine ts_iconst hx hb dX2_wouldHave_8 ?_
  refine mm_ld0 cx hK hw (1) (by omega) dX2_wouldHave_9 (fun z9 hz9 => ?_)
  refine lv_istore_n (lv' := [(2, .int (iN z9)), (0, .ref (ad 0)), (1, .int (iN x))]) hx hb dX2_wouldHave_10 rfl hl (by decide) rfl (fun ls hl => ?_)
  refine lv_iload_n hx hb dX2_wouldHave_11 rfl (lv_at hl 2 rfl) ?_
  refine ts_bipush hx hb dX2_wouldHave_12 (by decide) ?_
  refine ts_icmp_ge (tgt := 25) hx hb (by omega) dX2_wouldHave_14 (by decide) (fun c14 => ?_) (fun c14 => ?_)
  · skip
    have hr26 : RM g1 S1 := by
      rw [hS1, if_neg (by omega)]
      exact hr1
    have hm26 : ME g1 g1 := ME_rf _
    refine ts_iconst hx hb dX2_wouldHave_25 ?_
    refine lv_istore_n (lv' := [(3, .int (iN 0)), (2, .int (iN z9)), (0, .ref (ad 0)), (1, .int (iN x))]) hx hb dX2_wouldHave_26 rfl hl (by decide) rfl (fun ls hl => ?_)
    refine lv_aload_n hx hb dX2_wouldHave_27 rfl (lv_at hl 2 rfl) ?_
    refine ts_bipush hx hb dX2_wouldHave_28 (by decide) ?_
    refine mm_calli (rest := []) cx hK hA hw hl (c_X2_goesOn l 60 60 g1 S1 hr26 hvS (by omega)) tg_RX2_121 ⟨rfl, rfl⟩ 1 rfl (by decide +kernel) ⟨Nat.le_of_ble_eq_true rfl, Nat.le_of_ble_eq_true rfl⟩ ⟨Nat.zero_le _, Nat.zero_le _⟩ (Nat.le_of_ble_eq_true rfl) dX2_wouldHave_30 (rfl) (fun z30 g30 H locs hq30 hw => ?_)
    refine lv_istore (lv' := [(4, .int (iN z30)), (3, .int (iN 0)), (2, .int (iN z9)), (0, .ref (ad 0)), (1, .int (iN x))]) hx hb dX2_wouldHave_33 hl (by decide) rfl (fun ls hl => ?_)
    refine lv_aload_n hx hb dX2_wouldHave_35 rfl (lv_at hl 3 rfl) ?_
    refine lv_iload_n hx hb dX2_wouldHave_36 rfl (lv_at hl 2 rfl) ?_
    refine mm_callr (rest := []) cx hK hA hw hl (c_X2_pointsBy l z9 (pl S) (by omega) g30 (goesA 60 S1).2 hq30.2.1 hvG.1) tg_RX2_135 ⟨rfl, rfl⟩ 1 rfl (by decide +kernel) ⟨Nat.le_of_ble_eq_true rfl, Nat.le_of_ble_eq_true rfl⟩ ⟨Nat.zero_le _, Nat.zero_le _⟩ (Nat.le_of_ble_eq_true rfl) dX2_wouldHave_37 (rfl) (fun z37 hz37 => ?_)
    have hptb := ptA_b hvG.1 hpl.1
    refine lv_istore (lv' := [(5, .int (iN z37)), (4, .int (iN z30)), (3, .int (iN 0)), (2, .int (iN z9)), (0, .ref (ad 0)), (1, .int (iN x))]) hx hb dX2_wouldHave_40 hl (by decide) rfl (fun ls hl => ?_)
    refine lv_aload_n hx hb dX2_wouldHave_42 rfl (lv_at hl 4 rfl) ?_
    refine mm_callv (rest := []) cx hK hA hw hl (c_X2_putBack l g30) tg_RX2_147 ⟨rfl, rfl⟩ 0 rfl (by decide +kernel) ⟨Nat.le_of_ble_eq_true rfl, Nat.le_of_ble_eq_true rfl⟩ ⟨Nat.zero_le _, Nat.zero_le _⟩ (Nat.le_of_ble_eq_true rfl) dX2_wouldHave_43 (rfl) (fun g43 H locs hq43 hw => ?_)
    refine lv_iload hx hb dX2_wouldHave_46 (lv_at hl 0 rfl) ?_
    exact mm_ret cx hr hlocks hw (⟨by rw [hz37, hS1]; rfl, RM_of hx0 (fun j hj => by rw [hq43.1 j hj, hq30.2.2.1, hm26.1, hq1.1 j hj]), MO_tr hq43.2.2 (MO_tr (MO_ME hq30.2.2) (MO_tr (MO_ME hm26) hq1.2.2))⟩) dX2_wouldHave_48
  · skip
    refine lv_aload_n hx hb dX2_wouldHave_17 rfl (lv_at hl 1 rfl) ?_
    refine lv_iload_n hx hb dX2_wouldHave_18 rfl (lv_at hl 2 rfl) ?_
    refine mm_calli (rest := []) cx hK hA hw hl (c_X2_buys l x k g1 S hr1 hv0 (by omega) (hkw (by omega))) tg_RX2_97 ⟨rfl, rfl⟩ 1 rfl (by decide +kernel) ⟨Nat.le_of_ble_eq_true rfl, Nat.le_of_ble_eq_true rfl⟩ ⟨Nat.zero_le _, Nat.zero_le _⟩ (Nat.le_of_ble_eq_true rfl) dX2_wouldHave_19 (rfl) (fun z19 g19 H locs hq19 hw => ?_)
    have hpb := VS_pb hv0 k (by omega)
    have hr26 : RM g19 S1 := by
      rw [hS1, if_pos (by omega)]
      exact hq19.2.1
    have hm26 : ME g19 g1 := hq19.2.2
    refine lv_goto (tgt := 26) hx hb dX2_wouldHave_22 (by decide) ?_
    refine lv_istore_n (lv' := [(3, .int (iN z19)), (2, .int (iN z9)), (0, .ref (ad 0)), (1, .int (iN x))]) hx hb dX2_wouldHave_26 rfl hl (by decide) rfl (fun ls hl => ?_)
    refine lv_aload_n hx hb dX2_wouldHave_27 rfl (lv_at hl 2 rfl) ?_
    refine ts_bipush hx hb dX2_wouldHave_28 (by decide) ?_
    refine mm_calli (rest := []) cx hK hA hw hl (c_X2_goesOn l 60 60 g19 S1 hr26 hvS (by omega)) tg_RX2_121 ⟨rfl, rfl⟩ 1 rfl (by decide +kernel) ⟨Nat.le_of_ble_eq_true rfl, Nat.le_of_ble_eq_true rfl⟩ ⟨Nat.zero_le _, Nat.zero_le _⟩ (Nat.le_of_ble_eq_true rfl) dX2_wouldHave_30 (rfl) (fun z30 g30 H locs hq30 hw => ?_)
    refine lv_istore (lv' := [(4, .int (iN z30)), (3, .int (iN z19)), (2, .int (iN z9)), (0, .ref (ad 0)), (1, .int (iN x))]) hx hb dX2_wouldHave_33 hl (by decide) rfl (fun ls hl => ?_)
    refine lv_aload_n hx hb dX2_wouldHave_35 rfl (lv_at hl 3 rfl) ?_
    refine lv_iload_n hx hb dX2_wouldHave_36 rfl (lv_at hl 2 rfl) ?_
    refine mm_callr (rest := []) cx hK hA hw hl (c_X2_pointsBy l z9 (pl S) (by omega) g30 (goesA 60 S1).2 hq30.2.1 hvG.1) tg_RX2_135 ⟨rfl, rfl⟩ 1 rfl (by decide +kernel) ⟨Nat.le_of_ble_eq_true rfl, Nat.le_of_ble_eq_true rfl⟩ ⟨Nat.zero_le _, Nat.zero_le _⟩ (Nat.le_of_ble_eq_true rfl) dX2_wouldHave_37 (rfl) (fun z37 hz37 => ?_)
    have hptb := ptA_b hvG.1 hpl.1
    refine lv_istore (lv' := [(5, .int (iN z37)), (4, .int (iN z30)), (3, .int (iN z19)), (2, .int (iN z9)), (0, .ref (ad 0)), (1, .int (iN x))]) hx hb dX2_wouldHave_40 hl (by decide) rfl (fun ls hl => ?_)
    refine lv_aload_n hx hb dX2_wouldHave_42 rfl (lv_at hl 4 rfl) ?_
    refine mm_callv (rest := []) cx hK hA hw hl (c_X2_putBack l g30) tg_RX2_147 ⟨rfl, rfl⟩ 0 rfl (by decide +kernel) ⟨Nat.le_of_ble_eq_true rfl, Nat.le_of_ble_eq_true rfl⟩ ⟨Nat.zero_le _, Nat.zero_le _⟩ (Nat.le_of_ble_eq_true rfl) dX2_wouldHave_43 (rfl) (fun g43 H locs hq43 hw => ?_)
    refine lv_iload hx hb dX2_wouldHave_46 (lv_at hl 0 rfl) ?_
    exact mm_ret cx hr hlocks hw (⟨by rw [hz37, hS1]; rfl, RM_of hx0 (fun j hj => by rw [hq43.1 j hj, hq30.2.2.1, hm26.1, hq1.1 j hj]), MO_tr hq43.2.2 (MO_tr (MO_ME hq30.2.2) (MO_tr (MO_ME hm26) hq1.2.2))⟩) dX2_wouldHave_48
set_option maxHeartbeats 4000000 in
set_option maxRecDepth 100000 in
theorem c_X2_advice (l : Launch) (what : Int) (g : GS) (S : StT) (hx0 : RM g S) (hv0 : VS S) (hkb : (-2147483648 ≤ what ∧ what ≤ 2147483647)) : mmMi l yX2_advice (wU yX2_advice cX2_advice 7 (some .int)) ({ frames := 8, cells := 0, slots := 0, locals := 185 } : Room) [.int (iN what)] g (fun z g1 => z = advR S what ∧ RM g1 S ∧ MO g1 g) := by
  refine mmMi_of (by decide) (Nat.le_of_ble_eq_true rfl) ?_
  intro p e s m args below meth c D cI tb ad A ls cx hr hlocks hK hA hw hl
  have hx := cx.1
  have hb := cx.2.1
  have hl : lv_has ls 7 [(0, .ref (ad 0)), (1, .int (iN what))] := hl
  have hvb := VS_nums hv0
  refine lv_iload_n hx hb dX2_advice_0 rfl (lv_at hl 1 rfl) ?_
  refine ts_iconst hx hb dX2_advice_1 ?_
  refine ts_iconst hx hb dX2_advice_2 ?_
  refine ps_call (rest := []) cx hl (c_X2_in l what 0 1 (by omega)) tg_RX2_48 ⟨rfl, rfl⟩ 3 rfl (by decide +kernel) ⟨Nat.le_of_ble_eq_true rfl, Nat.le_of_ble_eq_true rfl⟩ ⟨Nat.zero_le _, Nat.zero_le _⟩ (Nat.le_of_ble_eq_true rfl) dX2_advice_3 (rfl) (fun z3 hz3 => ?_)
  refine ts_if_ne (tgt := 12) hx hb (by omega) dX2_advice_6 (by decide) (fun c6 => ?_) (fun c6 => ?_)
  · skip
    refine lv_aload_n hx hb dX2_advice_12 rfl (lv_at hl 0 rfl) ?_
    refine mm_callr (rest := []) cx hK hA hw hl (c_X2_canBuy l g S hx0 hv0) tg_RX2_138 ⟨rfl, rfl⟩ 0 rfl (by decide +kernel) ⟨Nat.le_of_ble_eq_true rfl, Nat.le_of_ble_eq_true rfl⟩ ⟨Nat.zero_le _, Nat.zero_le _⟩ (Nat.le_of_ble_eq_true rfl) dX2_advice_13 (rfl) (fun z13 hz13 => ?_)
    have hsb := setN_b S.1 10
    refine ts_if_ne (tgt := 22) hx hb (by omega) dX2_advice_16 (by decide) (fun c16 => ?_) (fun c16 => ?_)
    · skip
      have hset : ¬ setN S.1 10 = 0 := by omega
      refine ts_ldc (z := -1000004) hx hb cx.2.2.2.1 cx.2.2.2.2 tk_RX2_127 dX2_advice_22 ?_
      refine lv_istore_n (lv' := [(2, .int (iN ((-1000004)))), (0, .ref (ad 0)), (1, .int (iN what))]) hx hb dX2_advice_24 rfl hl (by decide) rfl (fun ls hl => ?_)
      refine ts_iconst hx hb dX2_advice_25 ?_
      refine lv_istore_n (lv' := [(3, .int (iN 0)), (2, .int (iN ((-1000004)))), (0, .ref (ad 0)), (1, .int (iN what))]) hx hb dX2_advice_26 rfl hl (by decide) rfl (fun ls hl => ?_)
      refine ts_iconst hx hb dX2_advice_27 ?_
      refine lv_istore (lv' := [(4, .int (iN 0)), (3, .int (iN 0)), (2, .int (iN ((-1000004)))), (0, .ref (ad 0)), (1, .int (iN what))]) hx hb dX2_advice_28 hl (by decide) rfl (fun ls hl => ?_)
      have cut30 : ∀ (fu : Nat) (found : Int) (most : Int) (k : Int) (ga : GS) (hmu : (11 - k).toNat < fu) (hk : 0 ≤ k ∧ k ≤ 11) (hfm : found = (advM S k.toNat).1 ∧ most = (advM S k.toNat).2) (hga : RM ga S ∧ MO ga g) (H : Heap) (locs : List Loc) (hw : mmB D A s cI ad ga H locs) (ls : Array Slot) (hl : lv_has ls 7 [(0, .ref (ad 0)), (1, .int (iN what)), (2, .int (iN found)), (3, .int (iN most)), (4, .int (iN k))]), W p l e ({ frames := 8, cells := 0, slots := 0, locals := 185 } : Room) s m args below meth c H locs 0 0 (mmQi D cI ad A below args s (fun z g1 => z = advR S what ∧ RM g1 S ∧ MO g1 g)) (F0 m 30 ls []) := by
        intro fu
        induction fu with
        | zero => intro found most k ga hmu; exact absurd hmu (Nat.not_lt_zero _)
        | succ fu ih30 =>
          intro found most k ga hmu hk hfm hga H locs hw ls hl
          refine lv_iload hx hb dX2_advice_30 (lv_at hl 4 rfl) ?_
          refine ts_bipush hx hb dX2_advice_32 (by decide) ?_
          have hab := advM_b hv0 k.toNat (by omega)
          have hst : advM S (k.toNat + 1) = if (k.toNat = 10 ∨ why S.1 k.toNat = 0) ∧ ((advM S k.toNat).1 = -1000004 ∨ (advM S k.toNat).2 < wouR S k.toNat) then ((k.toNat : Int), wouR S k.toNat) else advM S k.toNat := rfl
          refine ts_icmp_gt (tgt := 110) hx hb (by omega) dX2_advice_34 (by decide) (fun c34 => ?_) (fun c34 => ?_)
          · skip
            refine lv_iload_n hx hb dX2_advice_110 rfl (lv_at hl 1 rfl) ?_
            refine ts_if_ne (tgt := 118) hx hb (by omega) dX2_advice_111 (by decide) (fun c111 => ?_) (fun c111 => ?_)
            · skip
              refine lv_iload_n hx hb dX2_advice_118 rfl (lv_at hl 3 rfl) ?_
              have hR : advR S what = most := by
                unfold advR
                rw [if_neg (by omega), if_neg hset, if_neg (by omega), ← show k.toNat = 11 by omega]
                exact hfm.2.symm
              exact mm_ret cx hr hlocks hw (⟨hR.symm, hga.1, hga.2⟩) dX2_advice_119
            · skip
              refine lv_iload_n hx hb dX2_advice_114 rfl (lv_at hl 2 rfl) ?_
              refine lv_goto (tgt := 119) hx hb dX2_advice_115 (by decide) ?_
              have hR : advR S what = found := by
                unfold advR
                rw [if_neg (by omega), if_neg hset, if_pos (by omega), ← show k.toNat = 11 by omega]
                exact hfm.1.symm
              exact mm_ret cx hr hlocks hw (⟨hR.symm, hga.1, hga.2⟩) dX2_advice_119
          · skip
            refine lv_iload hx hb dX2_advice_37 (lv_at hl 4 rfl) ?_
            refine ts_bipush hx hb dX2_advice_39 (by decide) ?_
            refine ts_icmp_eq (tgt := 53) hx hb (by omega) dX2_advice_41 (by decide) (fun c41 => ?_) (fun c41 => ?_)
            · skip
              refine lv_aload_n hx hb dX2_advice_53 rfl (lv_at hl 0 rfl) ?_
              refine lv_iload hx hb dX2_advice_54 (lv_at hl 4 rfl) ?_
              refine mm_calli (rest := []) cx hK hA hw hl (c_X2_wouldHave l k k.toNat ga S hga.1 hv0 (by omega) (by omega)) tg_RX2_150 ⟨rfl, rfl⟩ 1 rfl (by decide +kernel) ⟨Nat.le_of_ble_eq_true rfl, Nat.le_of_ble_eq_true rfl⟩ ⟨Nat.zero_le _, Nat.zero_le _⟩ (Nat.le_of_ble_eq_true rfl) dX2_advice_56 (rfl) (fun z56 g56 H locs hq56 hw => ?_)
              have hwo := wouR_b hv0 (k := k.toNat) (by omega)
              refine lv_istore (lv' := [(5, .int (iN z56)), (0, .ref (ad 0)), (1, .int (iN what)), (2, .int (iN found)), (3, .int (iN most)), (4, .int (iN k))]) hx hb dX2_advice_59 hl (by decide) rfl (fun ls hl => ?_)
              refine lv_iload_n hx hb dX2_advice_61 rfl (lv_at hl 3 rfl) ?_
              refine ts_ldc (z := -1000004) hx hb cx.2.2.2.1 cx.2.2.2.2 tk_RX2_127 dX2_advice_62 ?_
              refine ts_icmp_eq (tgt := 73) hx hb (by omega) dX2_advice_64 (by decide) (fun c64 => ?_) (fun c64 => ?_)
              · skip
                refine ts_iconst hx hb dX2_advice_73 ?_
                refine lv_goto (tgt := 78) hx hb dX2_advice_74 (by decide) ?_
                refine lv_istore (lv' := [(6, .int (iN 1)), (5, .int (iN z56)), (0, .ref (ad 0)), (1, .int (iN what)), (2, .int (iN found)), (3, .int (iN most)), (4, .int (iN k))]) hx hb dX2_advice_78 hl (by decide) rfl (fun ls hl => ?_)
                refine lv_iload hx hb dX2_advice_80 (lv_at hl 0 rfl) ?_
                refine ts_if_eq (tgt := 90) hx hb (by omega) dX2_advice_82 (by decide) (fun c82 => ?_) (fun c82 => ?_)
                · exfalso
                  omega
                · skip
                  refine lv_iload hx hb dX2_advice_85 (lv_at hl 6 rfl) ?_
                  refine lv_goto (tgt := 91) hx hb dX2_advice_87 (by decide) ?_
                  refine lv_istore_n (lv' := [(2, .int (iN k)), (6, .int (iN 1)), (5, .int (iN z56)), (0, .ref (ad 0)), (1, .int (iN what)), (3, .int (iN most)), (4, .int (iN k))]) hx hb dX2_advice_91 rfl hl (by decide) rfl (fun ls hl => ?_)
                  refine lv_iload hx hb dX2_advice_92 (lv_at hl 1 rfl) ?_
                  refine ts_if_eq (tgt := 102) hx hb (by omega) dX2_advice_94 (by decide) (fun c94 => ?_) (fun c94 => ?_)
                  · exfalso
                    omega
                  · skip
                    refine lv_iload hx hb dX2_advice_97 (lv_at hl 2 rfl) ?_
                    refine lv_goto (tgt := 103) hx hb dX2_advice_99 (by decide) ?_
                    refine lv_istore_n (lv' := [(3, .int (iN z56)), (2, .int (iN k)), (6, .int (iN 1)), (5, .int (iN z56)), (0, .ref (ad 0)), (1, .int (iN what)), (4, .int (iN k))]) hx hb dX2_advice_103 rfl hl (by decide) rfl (fun ls hl => ?_)
                    obtain ⟨z104, hz104⟩ : ∃ z : Int, z = k + 1 := ⟨_, rfl⟩
                    refine lv_iinc (v := iN z104) (lv' := [(4, .int (iN z104)), (3, .int (iN z56)), (2, .int (iN k)), (6, .int (iN 1)), (5, .int (iN z56)), (0, .ref (ad 0)), (1, .int (iN what))]) hx hb dX2_advice_104 hl (k := 6) rfl (by rw [hz104]; exact iN_add _ _) (by decide) rfl (fun ls hl => ?_)
                    have hsn : k = (advM S z104.toNat).1 ∧ z56 = (advM S z104.toNat).2 := by
                      rw [show z104.toNat = k.toNat + 1 by omega, hst]
                      by_cases hc : (k.toNat = 10 ∨ why S.1 k.toNat = 0) ∧ ((advM S k.toNat).1 = -1000004 ∨ (advM S k.toNat).2 < wouR S k.toNat)
                      · rw [if_pos hc]
                        show k = (k.toNat : Int) ∧ z56 = wouR S k.toNat
                        omega
                      · rw [if_neg hc]
                        omega
                    have hgn : RM g56 S ∧ MO g56 g := ⟨hq56.2.1, MO_tr hq56.2.2 hga.2⟩
                    refine lv_goto (tgt := 30) hx hb dX2_advice_107 (by decide) ?_
                    exact ih30 (k) (z56) (z104) (g56) (by omega) (by omega) (hsn) (hgn) _ _ hw _ (lv_sub hl [5, 6, 2, 1, 0] rfl)
              · skip
                refine lv_iload hx hb dX2_advice_67 (lv_at hl 0 rfl) ?_
                refine lv_iload_n hx hb dX2_advice_69 rfl (lv_at hl 4 rfl) ?_
                refine ts_icmp_le (tgt := 77) hx hb (by omega) dX2_advice_70 (by decide) (fun c70 => ?_) (fun c70 => ?_)
                · skip
                  refine ts_iconst hx hb dX2_advice_77 ?_
                  refine lv_istore (lv' := [(6, .int (iN 0)), (5, .int (iN z56)), (0, .ref (ad 0)), (1, .int (iN what)), (2, .int (iN found)), (3, .int (iN most)), (4, .int (iN k))]) hx hb dX2_advice_78 hl (by decide) rfl (fun ls hl => ?_)
                  refine lv_iload hx hb dX2_advice_80 (lv_at hl 0 rfl) ?_
                  refine ts_if_eq (tgt := 90) hx hb (by omega) dX2_advice_82 (by decide) (fun c82 => ?_) (fun c82 => ?_)
                  · skip
                    refine lv_iload_n hx hb dX2_advice_90 rfl (lv_at hl 4 rfl) ?_
                    refine lv_istore_n (lv' := [(2, .int (iN found)), (6, .int (iN 0)), (5, .int (iN z56)), (0, .ref (ad 0)), (1, .int (iN what)), (3, .int (iN most)), (4, .int (iN k))]) hx hb dX2_advice_91 rfl hl (by decide) rfl (fun ls hl => ?_)
                    refine lv_iload hx hb dX2_advice_92 (lv_at hl 1 rfl) ?_
                    refine ts_if_eq (tgt := 102) hx hb (by omega) dX2_advice_94 (by decide) (fun c94 => ?_) (fun c94 => ?_)
                    · skip
                      refine lv_iload_n hx hb dX2_advice_102 rfl (lv_at hl 5 rfl) ?_
                      refine lv_istore_n (lv' := [(3, .int (iN most)), (2, .int (iN found)), (6, .int (iN 0)), (5, .int (iN z56)), (0, .ref (ad 0)), (1, .int (iN what)), (4, .int (iN k))]) hx hb dX2_advice_103 rfl hl (by decide) rfl (fun ls hl => ?_)
                      obtain ⟨z104, hz104⟩ : ∃ z : Int, z = k + 1 := ⟨_, rfl⟩
                      refine lv_iinc (v := iN z104) (lv' := [(4, .int (iN z104)), (3, .int (iN most)), (2, .int (iN found)), (6, .int (iN 0)), (5, .int (iN z56)), (0, .ref (ad 0)), (1, .int (iN what))]) hx hb dX2_advice_104 hl (k := 6) rfl (by rw [hz104]; exact iN_add _ _) (by decide) rfl (fun ls hl => ?_)
                      have hsn : found = (advM S z104.toNat).1 ∧ most = (advM S z104.toNat).2 := by
                        rw [show z104.toNat = k.toNat + 1 by omega, hst]
                        by_cases hc : (k.toNat = 10 ∨ why S.1 k.toNat = 0) ∧ ((advM S k.toNat).1 = -1000004 ∨ (advM S k.toNat).2 < wouR S k.toNat)
                        · rw [if_pos hc]
                          show found = (k.toNat : Int) ∧ most = wouR S k.toNat
                          omega
                        · rw [if_neg hc]
                          omega
                      have hgn : RM g56 S ∧ MO g56 g := ⟨hq56.2.1, MO_tr hq56.2.2 hga.2⟩
                      refine lv_goto (tgt := 30) hx hb dX2_advice_107 (by decide) ?_
                      exact ih30 (found) (most) (z104) (g56) (by omega) (by omega) (hsn) (hgn) _ _ hw _ (lv_sub hl [5, 6, 2, 1, 0] rfl)
                    · exfalso
                      omega
                  · exfalso
                    omega
                · skip
                  refine ts_iconst hx hb dX2_advice_73 ?_
                  refine lv_goto (tgt := 78) hx hb dX2_advice_74 (by decide) ?_
                  refine lv_istore (lv' := [(6, .int (iN 1)), (5, .int (iN z56)), (0, .ref (ad 0)), (1, .int (iN what)), (2, .int (iN found)), (3, .int (iN most)), (4, .int (iN k))]) hx hb dX2_advice_78 hl (by decide) rfl (fun ls hl => ?_)
                  refine lv_iload hx hb dX2_advice_80 (lv_at hl 0 rfl) ?_
                  refine ts_if_eq (tgt := 90) hx hb (by omega) dX2_advice_82 (by decide) (fun c82 => ?_) (fun c82 => ?_)
                  · exfalso
                    omega
                  · skip
                    refine lv_iload hx hb dX2_advice_85 (lv_at hl 6 rfl) ?_
                    refine lv_goto (tgt := 91) hx hb dX2_advice_87 (by decide) ?_
                    refine lv_istore_n (lv' := [(2, .int (iN k)), (6, .int (iN 1)), (5, .int (iN z56)), (0, .ref (ad 0)), (1, .int (iN what)), (3, .int (iN most)), (4, .int (iN k))]) hx hb dX2_advice_91 rfl hl (by decide) rfl (fun ls hl => ?_)
                    refine lv_iload hx hb dX2_advice_92 (lv_at hl 1 rfl) ?_
                    refine ts_if_eq (tgt := 102) hx hb (by omega) dX2_advice_94 (by decide) (fun c94 => ?_) (fun c94 => ?_)
                    · exfalso
                      omega
                    · skip
                      refine lv_iload hx hb dX2_advice_97 (lv_at hl 2 rfl) ?_
                      refine lv_goto (tgt := 103) hx hb dX2_advice_99 (by decide) ?_
                      refine lv_istore_n (lv' := [(3, .int (iN z56)), (2, .int (iN k)), (6, .int (iN 1)), (5, .int (iN z56)), (0, .ref (ad 0)), (1, .int (iN what)), (4, .int (iN k))]) hx hb dX2_advice_103 rfl hl (by decide) rfl (fun ls hl => ?_)
                      obtain ⟨z104, hz104⟩ : ∃ z : Int, z = k + 1 := ⟨_, rfl⟩
                      refine lv_iinc (v := iN z104) (lv' := [(4, .int (iN z104)), (3, .int (iN z56)), (2, .int (iN k)), (6, .int (iN 1)), (5, .int (iN z56)), (0, .ref (ad 0)), (1, .int (iN what))]) hx hb dX2_advice_104 hl (k := 6) rfl (by rw [hz104]; exact iN_add _ _) (by decide) rfl (fun ls hl => ?_)
                      have hsn : k = (advM S z104.toNat).1 ∧ z56 = (advM S z104.toNat).2 := by
                        rw [show z104.toNat = k.toNat + 1 by omega, hst]
                        by_cases hc : (k.toNat = 10 ∨ why S.1 k.toNat = 0) ∧ ((advM S k.toNat).1 = -1000004 ∨ (advM S k.toNat).2 < wouR S k.toNat)
                        · rw [if_pos hc]
                          show k = (k.toNat : Int) ∧ z56 = wouR S k.toNat
                          omega
                        · rw [if_neg hc]
                          omega
                      have hgn : RM g56 S ∧ MO g56 g := ⟨hq56.2.1, MO_tr hq56.2.2 hga.2⟩
                      refine lv_goto (tgt := 30) hx hb dX2_advice_107 (by decide) ?_
                      exact ih30 (k) (z56) (z104) (g56) (by omega) (by omega) (hsn) (hgn) _ _ hw _ (lv_sub hl [5, 6, 2, 1, 0] rfl)
            · skip
              refine lv_aload_n hx hb dX2_advice_44 rfl (lv_at hl 0 rfl) ?_
              refine lv_iload hx hb dX2_advice_45 (lv_at hl 4 rfl) ?_
              refine mm_callr (rest := []) cx hK hA hw hl (c_X2_whyNot l k k.toNat ga S hga.1 hv0 (by omega)) tg_RX2_80 ⟨rfl, rfl⟩ 1 rfl (by decide +kernel) ⟨Nat.le_of_ble_eq_true rfl, Nat.le_of_ble_eq_true rfl⟩ ⟨Nat.zero_le _, Nat.zero_le _⟩ (Nat.le_of_ble_eq_true rfl) dX2_advice_47 (rfl) (fun z47 hz47 => ?_)
              have hwb : 0 ≤ why S.1 k.toNat ∧ why S.1 k.toNat ≤ 5 := by unfold why; (repeat' split) <;> omega
              refine ts_if_ne (tgt := 104) hx hb (by omega) dX2_advice_50 (by decide) (fun c50 => ?_) (fun c50 => ?_)
              · skip
                obtain ⟨z104, hz104⟩ : ∃ z : Int, z = k + 1 := ⟨_, rfl⟩
                refine lv_iinc (v := iN z104) (lv' := [(4, .int (iN z104)), (0, .ref (ad 0)), (1, .int (iN what)), (2, .int (iN found)), (3, .int (iN most))]) hx hb dX2_advice_104 hl (k := 4) rfl (by rw [hz104]; exact iN_add _ _) (by decide) rfl (fun ls hl => ?_)
                have hsn : found = (advM S z104.toNat).1 ∧ most = (advM S z104.toNat).2 := by
                  rw [show z104.toNat = k.toNat + 1 by omega, hst]
                  by_cases hc : (k.toNat = 10 ∨ why S.1 k.toNat = 0) ∧ ((advM S k.toNat).1 = -1000004 ∨ (advM S k.toNat).2 < wouR S k.toNat)
                  · rw [if_pos hc]
                    show found = (k.toNat : Int) ∧ most = wouR S k.toNat
                    omega
                  · rw [if_neg hc]
                    omega
                have hgn : RM ga S ∧ MO ga g := hga
                refine lv_goto (tgt := 30) hx hb dX2_advice_107 (by decide) ?_
                exact ih30 (found) (most) (z104) (ga) (by omega) (by omega) (hsn) (hgn) _ _ hw _ (lv_sub hl [1, 2, 3, 4, 0] rfl)
              · skip
                refine lv_aload_n hx hb dX2_advice_53 rfl (lv_at hl 0 rfl) ?_
                refine lv_iload hx hb dX2_advice_54 (lv_at hl 4 rfl) ?_
                refine mm_calli (rest := []) cx hK hA hw hl (c_X2_wouldHave l k k.toNat ga S hga.1 hv0 (by omega) (by omega)) tg_RX2_150 ⟨rfl, rfl⟩ 1 rfl (by decide +kernel) ⟨Nat.le_of_ble_eq_true rfl, Nat.le_of_ble_eq_true rfl⟩ ⟨Nat.zero_le _, Nat.zero_le _⟩ (Nat.le_of_ble_eq_true rfl) dX2_advice_56 (rfl) (fun z56 g56 H locs hq56 hw => ?_)
                have hwo := wouR_b hv0 (k := k.toNat) (by omega)
                refine lv_istore (lv' := [(5, .int (iN z56)), (0, .ref (ad 0)), (1, .int (iN what)), (2, .int (iN found)), (3, .int (iN most)), (4, .int (iN k))]) hx hb dX2_advice_59 hl (by decide) rfl (fun ls hl => ?_)
                refine lv_iload_n hx hb dX2_advice_61 rfl (lv_at hl 3 rfl) ?_
                refine ts_ldc (z := -1000004) hx hb cx.2.2.2.1 cx.2.2.2.2 tk_RX2_127 dX2_advice_62 ?_
                refine ts_icmp_eq (tgt := 73) hx hb (by omega) dX2_advice_64 (by decide) (fun c64 => ?_) (fun c64 => ?_)
                · skip
                  refine ts_iconst hx hb dX2_advice_73 ?_
                  refine lv_goto (tgt := 78) hx hb dX2_advice_74 (by decide) ?_
                  refine lv_istore (lv' := [(6, .int (iN 1)), (5, .int (iN z56)), (0, .ref (ad 0)), (1, .int (iN what)), (2, .int (iN found)), (3, .int (iN most)), (4, .int (iN k))]) hx hb dX2_advice_78 hl (by decide) rfl (fun ls hl => ?_)
                  refine lv_iload hx hb dX2_advice_80 (lv_at hl 0 rfl) ?_
                  refine ts_if_eq (tgt := 90) hx hb (by omega) dX2_advice_82 (by decide) (fun c82 => ?_) (fun c82 => ?_)
                  · exfalso
                    omega
                  · skip
                    refine lv_iload hx hb dX2_advice_85 (lv_at hl 6 rfl) ?_
                    refine lv_goto (tgt := 91) hx hb dX2_advice_87 (by decide) ?_
                    refine lv_istore_n (lv' := [(2, .int (iN k)), (6, .int (iN 1)), (5, .int (iN z56)), (0, .ref (ad 0)), (1, .int (iN what)), (3, .int (iN most)), (4, .int (iN k))]) hx hb dX2_advice_91 rfl hl (by decide) rfl (fun ls hl => ?_)
                    refine lv_iload hx hb dX2_advice_92 (lv_at hl 1 rfl) ?_
                    refine ts_if_eq (tgt := 102) hx hb (by omega) dX2_advice_94 (by decide) (fun c94 => ?_) (fun c94 => ?_)
                    · exfalso
                      omega
                    · skip
                      refine lv_iload hx hb dX2_advice_97 (lv_at hl 2 rfl) ?_
                      refine lv_goto (tgt := 103) hx hb dX2_advice_99 (by decide) ?_
                      refine lv_istore_n (lv' := [(3, .int (iN z56)), (2, .int (iN k)), (6, .int (iN 1)), (5, .int (iN z56)), (0, .ref (ad 0)), (1, .int (iN what)), (4, .int (iN k))]) hx hb dX2_advice_103 rfl hl (by decide) rfl (fun ls hl => ?_)
                      obtain ⟨z104, hz104⟩ : ∃ z : Int, z = k + 1 := ⟨_, rfl⟩
                      refine lv_iinc (v := iN z104) (lv' := [(4, .int (iN z104)), (3, .int (iN z56)), (2, .int (iN k)), (6, .int (iN 1)), (5, .int (iN z56)), (0, .ref (ad 0)), (1, .int (iN what))]) hx hb dX2_advice_104 hl (k := 6) rfl (by rw [hz104]; exact iN_add _ _) (by decide) rfl (fun ls hl => ?_)
                      have hsn : k = (advM S z104.toNat).1 ∧ z56 = (advM S z104.toNat).2 := by
                        rw [show z104.toNat = k.toNat + 1 by omega, hst]
                        by_cases hc : (k.toNat = 10 ∨ why S.1 k.toNat = 0) ∧ ((advM S k.toNat).1 = -1000004 ∨ (advM S k.toNat).2 < wouR S k.toNat)
                        · rw [if_pos hc]
                          show k = (k.toNat : Int) ∧ z56 = wouR S k.toNat
                          omega
                        · rw [if_neg hc]
                          omega
                      have hgn : RM g56 S ∧ MO g56 g := ⟨hq56.2.1, MO_tr hq56.2.2 hga.2⟩
                      refine lv_goto (tgt := 30) hx hb dX2_advice_107 (by decide) ?_
                      exact ih30 (k) (z56) (z104) (g56) (by omega) (by omega) (hsn) (hgn) _ _ hw _ (lv_sub hl [5, 6, 2, 1, 0] rfl)
                · skip
                  refine lv_iload hx hb dX2_advice_67 (lv_at hl 0 rfl) ?_
                  refine lv_iload_n hx hb dX2_advice_69 rfl (lv_at hl 4 rfl) ?_
                  refine ts_icmp_le (tgt := 77) hx hb (by omega) dX2_advice_70 (by decide) (fun c70 => ?_) (fun c70 => ?_)
                  · skip
                    refine ts_iconst hx hb dX2_advice_77 ?_
                    refine lv_istore (lv' := [(6, .int (iN 0)), (5, .int (iN z56)), (0, .ref (ad 0)), (1, .int (iN what)), (2, .int (iN found)), (3, .int (iN most)), (4, .int (iN k))]) hx hb dX2_advice_78 hl (by decide) rfl (fun ls hl => ?_)
                    refine lv_iload hx hb dX2_advice_80 (lv_at hl 0 rfl) ?_
                    refine ts_if_eq (tgt := 90) hx hb (by omega) dX2_advice_82 (by decide) (fun c82 => ?_) (fun c82 => ?_)
                    · skip
                      refine lv_iload_n hx hb dX2_advice_90 rfl (lv_at hl 4 rfl) ?_
                      refine lv_istore_n (lv' := [(2, .int (iN found)), (6, .int (iN 0)), (5, .int (iN z56)), (0, .ref (ad 0)), (1, .int (iN what)), (3, .int (iN most)), (4, .int (iN k))]) hx hb dX2_advice_91 rfl hl (by decide) rfl (fun ls hl => ?_)
                      refine lv_iload hx hb dX2_advice_92 (lv_at hl 1 rfl) ?_
                      refine ts_if_eq (tgt := 102) hx hb (by omega) dX2_advice_94 (by decide) (fun c94 => ?_) (fun c94 => ?_)
                      · skip
                        refine lv_iload_n hx hb dX2_advice_102 rfl (lv_at hl 5 rfl) ?_
                        refine lv_istore_n (lv' := [(3, .int (iN most)), (2, .int (iN found)), (6, .int (iN 0)), (5, .int (iN z56)), (0, .ref (ad 0)), (1, .int (iN what)), (4, .int (iN k))]) hx hb dX2_advice_103 rfl hl (by decide) rfl (fun ls hl => ?_)
                        obtain ⟨z104, hz104⟩ : ∃ z : Int, z = k + 1 := ⟨_, rfl⟩
                        refine lv_iinc (v := iN z104) (lv' := [(4, .int (iN z104)), (3, .int (iN most)), (2, .int (iN found)), (6, .int (iN 0)), (5, .int (iN z56)), (0, .ref (ad 0)), (1, .int (iN what))]) hx hb dX2_advice_104 hl (k := 6) rfl (by rw [hz104]; exact iN_add _ _) (by decide) rfl (fun ls hl => ?_)
                        have hsn : found = (advM S z104.toNat).1 ∧ most = (advM S z104.toNat).2 := by
                          rw [show z104.toNat = k.toNat + 1 by omega, hst]
                          by_cases hc : (k.toNat = 10 ∨ why S.1 k.toNat = 0) ∧ ((advM S k.toNat).1 = -1000004 ∨ (advM S k.toNat).2 < wouR S k.toNat)
                          · rw [if_pos hc]
                            show found = (k.toNat : Int) ∧ most = wouR S k.toNat
                            omega
                          · rw [if_neg hc]
                            omega
                        have hgn : RM g56 S ∧ MO g56 g := ⟨hq56.2.1, MO_tr hq56.2.2 hga.2⟩
                        refine lv_goto (tgt := 30) hx hb dX2_advice_107 (by decide) ?_
                        exact ih30 (found) (most) (z104) (g56) (by omega) (by omega) (hsn) (hgn) _ _ hw _ (lv_sub hl [5, 6, 2, 1, 0] rfl)
                      · exfalso
                        omega
                    · exfalso
                      omega
                  · skip
                    refine ts_iconst hx hb dX2_advice_73 ?_
                    refine lv_goto (tgt := 78) hx hb dX2_advice_74 (by decide) ?_
                    refine lv_istore (lv' := [(6, .int (iN 1)), (5, .int (iN z56)), (0, .ref (ad 0)), (1, .int (iN what)), (2, .int (iN found)), (3, .int (iN most)), (4, .int (iN k))]) hx hb dX2_advice_78 hl (by decide) rfl (fun ls hl => ?_)
                    refine lv_iload hx hb dX2_advice_80 (lv_at hl 0 rfl) ?_
                    refine ts_if_eq (tgt := 90) hx hb (by omega) dX2_advice_82 (by decide) (fun c82 => ?_) (fun c82 => ?_)
                    · exfalso
                      omega
                    · skip
                      refine lv_iload hx hb dX2_advice_85 (lv_at hl 6 rfl) ?_
                      refine lv_goto (tgt := 91) hx hb dX2_advice_87 (by decide) ?_
                      refine lv_istore_n (lv' := [(2, .int (iN k)), (6, .int (iN 1)), (5, .int (iN z56)), (0, .ref (ad 0)), (1, .int (iN what)), (3, .int (iN most)), (4, .int (iN k))]) hx hb dX2_advice_91 rfl hl (by decide) rfl (fun ls hl => ?_)
                      refine lv_iload hx hb dX2_advice_92 (lv_at hl 1 rfl) ?_
                      refine ts_if_eq (tgt := 102) hx hb (by omega) dX2_advice_94 (by decide) (fun c94 => ?_) (fun c94 => ?_)
                      · exfalso
                        omega
                      · skip
                        refine lv_iload hx hb dX2_advice_97 (lv_at hl 2 rfl) ?_
                        refine lv_goto (tgt := 103) hx hb dX2_advice_99 (by decide) ?_
                        refine lv_istore_n (lv' := [(3, .int (iN z56)), (2, .int (iN k)), (6, .int (iN 1)), (5, .int (iN z56)), (0, .ref (ad 0)), (1, .int (iN what)), (4, .int (iN k))]) hx hb dX2_advice_103 rfl hl (by decide) rfl (fun ls hl => ?_)
                        obtain ⟨z104, hz104⟩ : ∃ z : Int, z = k + 1 := ⟨_, rfl⟩
                        refine lv_iinc (v := iN z104) (lv' := [(4, .int (iN z104)), (3, .int (iN z56)), (2, .int (iN k)), (6, .int (iN 1)), (5, .int (iN z56)), (0, .ref (ad 0)), (1, .int (iN what))]) hx hb dX2_advice_104 hl (k := 6) rfl (by rw [hz104]; exact iN_add _ _) (by decide) rfl (fun ls hl => ?_)
                        have hsn : k = (advM S z104.toNat).1 ∧ z56 = (advM S z104.toNat).2 := by
                          rw [show z104.toNat = k.toNat + 1 by omega, hst]
                          by_cases hc : (k.toNat = 10 ∨ why S.1 k.toNat = 0) ∧ ((advM S k.toNat).1 = -1000004 ∨ (advM S k.toNat).2 < wouR S k.toNat)
                          · rw [if_pos hc]
                            show k = (k.toNat : Int) ∧ z56 = wouR S k.toNat
                            omega
                          · rw [if_neg hc]
                            omega
                        have hgn : RM g56 S ∧ MO g56 g := ⟨hq56.2.1, MO_tr hq56.2.2 hga.2⟩
                        refine lv_goto (tgt := 30) hx hb dX2_advice_107 (by decide) ?_
                        exact ih30 (k) (z56) (z104) (g56) (by omega) (by omega) (hsn) (hgn) _ _ hw _ (lv_sub hl [5, 6, 2, 1, 0] rfl)
      exact cut30 _ ((-1000004)) (0) (0) (g) (Nat.lt_succ_self _) (by omega) (⟨rfl, rfl⟩) (⟨hx0, ⟨rfl, rfl, rfl⟩⟩) _ _ hw _ (lv_sub hl [3, 4, 2, 1, 0] rfl)
    · skip
      have hR : advR S what = -1000004 := by
        unfold advR
        rw [if_neg (by omega), if_pos (by omega)]
      refine ts_ldc (z := -1000004) hx hb cx.2.2.2.1 cx.2.2.2.2 tk_RX2_127 dX2_advice_19 ?_
      exact mm_ret cx hr hlocks hw (⟨hR.symm, hx0, ⟨rfl, rfl, rfl⟩⟩) dX2_advice_21
  · skip
    have hR : advR S what = -1000001 := by
      unfold advR
      rw [if_pos (by omega)]
    refine ts_ldc (z := -1000001) hx hb cx.2.2.2.1 cx.2.2.2.2 tk_RX2_63 dX2_advice_9 ?_
    exact mm_ret cx hr hlocks hw (⟨hR.symm, hx0, ⟨rfl, rfl, rfl⟩⟩) dX2_advice_11
