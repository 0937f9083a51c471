theorem opLo {S : StT} (h : VS S) : (∀ i, -1000002 ≤ (playO S i).1) ∧ (∀ k, -1000002 ≤ (buyO S k).1) ∧ (∀ i, -1000002 ≤ (scrO S i).1) := by
  refine ⟨fun i => ?_, fun k => ?_, fun i => ?_⟩
  · unfold playO
    split
    · show (-1000002 : Int) ≤ -1000001; decide
    · split
      · show (-1000002 : Int) ≤ -1000002; decide
      · have := VS_hand h (k := i.toNat) (by omega)
        show -1000002 ≤ (hand S).getD i.toNat 0
        omega
  · unfold buyO
    split
    · show (-1000002 : Int) ≤ -1000001; decide
    · split
      · show (-1000002 : Int) ≤ -1000002; decide
      · have := VS_pb h k.toNat (by omega)
        show -1000002 ≤ S.1 (10 + k.toNat) - 1
        omega
  · unfold scrO
    split
    · show (-1000002 : Int) ≤ -1000001; decide
    · split
      · show (-1000002 : Int) ≤ -1000002; decide
      · have := VS_hand h (k := i.toNat) (by omega)
        show -1000002 ≤ (hand S).getD i.toNat 0
        omega
set_option maxHeartbeats 4000000 in
set_option maxRecDepth 100000 in
theorem c_X2_begin (l : Launch) (np : Int) (g : GS) (T : TT) (hf : FM g T) (hv : VT T) (hkb : (-2147483648 ≤ np ∧ np ≤ 2147483647)) : mmMi l yX2_begin (wU yX2_begin cX2_begin 2 (some .int)) ({ frames := 5, cells := 0, slots := 0, locals := 118 } : Room) [.int (iN np)] g (fun z g1 => z = (begO T.1 np).1 ∧ FM g1 (stepT T (begO T.1 np))) := by
  refine mmMi_of (by decide) (Nat.le_of_ble_eq_true rfl) ?_
  intro p e s m args below meth c D cI tb ad A ls cx hr hlocks hK hA hw hl
  have hx := cx.1
  have hb := cx.2.1
  have hl : lv_has ls 2 [(0, .ref (ad 0)), (1, .int (iN np))] := hl
  have s9 := hf.1.1 9 (by omega)
  refine lv_iload_n hx hb dX2_begin_0 rfl (lv_at hl 1 rfl) ?_
  refine ts_iconst hx hb dX2_begin_1 ?_
  refine ts_iconst hx hb dX2_begin_2 ?_
  refine ps_call (rest := []) cx hl (c_X2_in l np 2 4 (by omega)) tg_RX2_48 ⟨rfl, rfl⟩ 3 rfl (by decide +kernel) ⟨Nat.le_of_ble_eq_true rfl, Nat.le_of_ble_eq_true rfl⟩ ⟨Nat.zero_le _, Nat.zero_le _⟩ (Nat.le_of_ble_eq_true rfl) dX2_begin_3 (rfl) (fun z3 hz3 => ?_)
  refine ts_if_ne (tgt := 12) hx hb (by omega) dX2_begin_6 (by decide) (fun c6 => ?_) (fun c6 => ?_)
  · skip
    refine lv_aload_n hx hb dX2_begin_12 rfl (lv_at hl 0 rfl) ?_
    refine mm_callv (rest := []) cx hK hA hw hl (c_X2_know l g T.2.1.1 hf.2.1 hv.2.1) tg_RX2_106 ⟨rfl, rfl⟩ 0 rfl (by decide +kernel) ⟨Nat.le_of_ble_eq_true rfl, Nat.le_of_ble_eq_true rfl⟩ ⟨Nat.zero_le _, Nat.zero_le _⟩ (Nat.le_of_ble_eq_true rfl) dX2_begin_13 (rfl) (fun g13 H locs hq13 hw => ?_)
    have hr1 : RM g13 T.1 := RM_of hf.1 (fun j _ => by rw [hq13.1])
    have hO1 : (begO T.1 np).1 = 60 - 7 * np := by
      unfold begO
      rw [if_neg (by omega)]
    have hO2 : (begO T.1 np).2 = begA T.1 np := by
      unfold begO
      rw [if_neg (by omega)]
    refine lv_aload_n hx hb dX2_begin_16 rfl (lv_at hl 0 rfl) ?_
    refine lv_iload_n hx hb dX2_begin_17 rfl (lv_at hl 1 rfl) ?_
    refine mm_calli (rest := []) cx hK hA hw hl (c_X2_begins l np g13 T.1.1 (by rw [hq13.1]; exact s9) (by omega)) tg_RX2_22 ⟨rfl, rfl⟩ 1 rfl (by decide +kernel) ⟨Nat.le_of_ble_eq_true rfl, Nat.le_of_ble_eq_true rfl⟩ ⟨Nat.zero_le _, Nat.zero_le _⟩ (Nat.le_of_ble_eq_true rfl) dX2_begin_18 (rfl) (fun z18 g18 H locs hq18 hw => ?_)
    exact mm_ret cx hr hlocks hw (⟨by rw [hO1]; exact hq18.1, FM_step hf hv.2.1 hq13 (by rw [hO1]; omega) (by rw [hO2]; exact ⟨hq18.2.1, hq18.2.2.1⟩) hq18.2.2.2⟩) dX2_begin_21
  · skip
    have hO1 : (begO T.1 np).1 = -1000001 := by
      unfold begO
      rw [if_pos (by omega)]
    refine ts_ldc (z := -1000001) hx hb cx.2.2.2.1 cx.2.2.2.2 tk_RX2_63 dX2_begin_9 ?_
    exact mm_ret cx hr hlocks hw (⟨by rw [hO1], FM_err hf (by rw [hO1]; decide)⟩) dX2_begin_11
set_option maxHeartbeats 4000000 in
set_option maxRecDepth 100000 in
theorem c_X2_play (l : Launch) (i : Int) (g : GS) (T : TT) (hf : FM g T) (hv : VT T) (hkb : (-2147483648 ≤ i ∧ i ≤ 2147483647)) : mmMi l yX2_play (wU yX2_play cX2_play 3 (some .int)) ({ frames := 5, cells := 0, slots := 0, locals := 117 } : Room) [.int (iN i)] g (fun z g1 => z = (playO T.1 i).1 ∧ FM g1 (stepT T (playO T.1 i))) := by
  refine mmMi_of (by decide) (Nat.le_of_ble_eq_true rfl) ?_
  intro p e s m args below meth c D cI tb ad A ls cx hr hlocks hK hA hw hl
  have hx := cx.1
  have hb := cx.2.1
  have hl : lv_has ls 3 [(0, .ref (ad 0)), (1, .int (iN i))] := hl
  refine lv_aload_n hx hb dX2_play_0 rfl (lv_at hl 0 rfl) ?_
  refine lv_iload_n hx hb dX2_play_1 rfl (lv_at hl 1 rfl) ?_
  refine mm_callr (rest := []) cx hK hA hw hl (c_X2_playFault l i g T.1 hf.1 hv.1 hkb) tg_RX2_109 ⟨rfl, rfl⟩ 1 rfl (by decide +kernel) ⟨Nat.le_of_ble_eq_true rfl, Nat.le_of_ble_eq_true rfl⟩ ⟨Nat.zero_le _, Nat.zero_le _⟩ (Nat.le_of_ble_eq_true rfl) dX2_play_2 (rfl) (fun z2 hz2 => ?_)
  have hzl : -1000002 ≤ z2 := by
    rcases hz2 with q | q
    · have q2 := (opLo hv.1).1 i
      rw [q.2] at q2
      exact q2
    · omega
  refine lv_istore_n (lv' := [(2, .int (iN z2)), (0, .ref (ad 0)), (1, .int (iN i))]) hx hb dX2_play_5 rfl hl (by decide) rfl (fun ls hl => ?_)
  refine lv_iload_n hx hb dX2_play_6 rfl (lv_at hl 0 rfl) ?_
  refine ts_if_ge (tgt := 12) hx hb (by omega) dX2_play_7 (by decide) (fun c7 => ?_) (fun c7 => ?_)
  · skip
    have hz3 := hz2
    have hz4 : z2 = 0 := by omega
    refine lv_aload_n hx hb dX2_play_12 rfl (lv_at hl 1 rfl) ?_
    refine mm_callv (rest := []) cx hK hA hw hl (c_X2_know l g T.2.1.1 hf.2.1 hv.2.1) tg_RX2_106 ⟨rfl, rfl⟩ 0 rfl (by decide +kernel) ⟨Nat.le_of_ble_eq_true rfl, Nat.le_of_ble_eq_true rfl⟩ ⟨Nat.zero_le _, Nat.zero_le _⟩ (Nat.le_of_ble_eq_true rfl) dX2_play_13 (rfl) (fun g13 H locs hq13 hw => ?_)
    have hr1 : RM g13 T.1 := RM_of hf.1 (fun j _ => by rw [hq13.1])
    have hhb := VS_hand hv.1 (k := i.toNat) (by omega)
    have hO1 : (playO T.1 i).1 = (hand T.1).getD i.toNat 0 := by
      unfold playO
      rw [if_neg (by omega), if_neg (by omega)]
    have hO2 : (playO T.1 i).2 = playA T.1 i.toNat := by
      unfold playO
      rw [if_neg (by omega), if_neg (by omega)]
    refine lv_aload_n hx hb dX2_play_16 rfl (lv_at hl 1 rfl) ?_
    refine lv_iload_n hx hb dX2_play_17 rfl (lv_at hl 2 rfl) ?_
    refine mm_calli (rest := []) cx hK hA hw hl (c_X2_plays l i i.toNat g13 T.1 hr1 hv.1 (by omega)) tg_RX2_91 ⟨rfl, rfl⟩ 1 rfl (by decide +kernel) ⟨Nat.le_of_ble_eq_true rfl, Nat.le_of_ble_eq_true rfl⟩ ⟨Nat.zero_le _, Nat.zero_le _⟩ (Nat.le_of_ble_eq_true rfl) dX2_play_18 (rfl) (fun z18 g18 H locs hq18 hw => ?_)
    exact mm_ret cx hr hlocks hw (⟨by rw [hO1]; exact hq18.1, FM_step hf hv.2.1 hq13 (by rw [hO1]; omega) (by rw [hO2]; exact hq18.2.1) hq18.2.2⟩) dX2_play_21
  · skip
    have hO0 : playO T.1 i = (z2, T.1) := by
      rcases hz2 with q | q
      · exact q.2
      · omega
    have hO1 : (playO T.1 i).1 = z2 := by rw [hO0]
    refine lv_iload_n hx hb dX2_play_10 rfl (lv_at hl 0 rfl) ?_
    exact mm_ret cx hr hlocks hw (⟨by rw [hO1], FM_err hf (by rw [hO1]; omega)⟩) dX2_play_11
set_option maxHeartbeats 4000000 in
set_option maxRecDepth 100000 in
theorem c_X2_buy (l : Launch) (i : Int) (g : GS) (T : TT) (hf : FM g T) (hv : VT T) (hkb : (-2147483648 ≤ i ∧ i ≤ 2147483647)) : mmMi l yX2_buy (wU yX2_buy cX2_buy 3 (some .int)) ({ frames := 3, cells := 0, slots := 0, locals := 66 } : Room) [.int (iN i)] g (fun z g1 => z = (buyO T.1 i).1 ∧ FM g1 (stepT T (buyO T.1 i))) := by
  refine mmMi_of (by decide) (Nat.le_of_ble_eq_true rfl) ?_
  intro p e s m args below meth c D cI tb ad A ls cx hr hlocks hK hA hw hl
  have hx := cx.1
  have hb := cx.2.1
  have hl : lv_has ls 3 [(0, .ref (ad 0)), (1, .int (iN i))] := hl
  refine lv_aload_n hx hb dX2_buy_0 rfl (lv_at hl 0 rfl) ?_
  refine lv_iload_n hx hb dX2_buy_1 rfl (lv_at hl 1 rfl) ?_
  refine mm_callr (rest := []) cx hK hA hw hl (c_X2_buyFault l i g T.1 hf.1 hv.1 hkb) tg_RX2_112 ⟨rfl, rfl⟩ 1 rfl (by decide +kernel) ⟨Nat.le_of_ble_eq_true rfl, Nat.le_of_ble_eq_true rfl⟩ ⟨Nat.zero_le _, Nat.zero_le _⟩ (Nat.le_of_ble_eq_true rfl) dX2_buy_2 (rfl) (fun z2 hz2 => ?_)
  have hzl : -1000002 ≤ z2 := by
    rcases hz2 with q | q
    · have q2 := (opLo hv.1).2.1 i
      rw [q.2] at q2
      exact q2
    · omega
  refine lv_istore_n (lv' := [(2, .int (iN z2)), (0, .ref (ad 0)), (1, .int (iN i))]) hx hb dX2_buy_5 rfl hl (by decide) rfl (fun ls hl => ?_)
  refine lv_iload_n hx hb dX2_buy_6 rfl (lv_at hl 0 rfl) ?_
  refine ts_if_ge (tgt := 12) hx hb (by omega) dX2_buy_7 (by decide) (fun c7 => ?_) (fun c7 => ?_)
  · skip
    have hz3 := hz2
    have hz4 : z2 = 0 := by omega
    refine lv_aload_n hx hb dX2_buy_12 rfl (lv_at hl 1 rfl) ?_
    refine mm_callv (rest := []) cx hK hA hw hl (c_X2_know l g T.2.1.1 hf.2.1 hv.2.1) tg_RX2_106 ⟨rfl, rfl⟩ 0 rfl (by decide +kernel) ⟨Nat.le_of_ble_eq_true rfl, Nat.le_of_ble_eq_true rfl⟩ ⟨Nat.zero_le _, Nat.zero_le _⟩ (Nat.le_of_ble_eq_true rfl) dX2_buy_13 (rfl) (fun g13 H locs hq13 hw => ?_)
    have hr1 : RM g13 T.1 := RM_of hf.1 (fun j _ => by rw [hq13.1])
    have hw0 : why T.1.1 i.toNat = 0 := by omega
    have hw1 := (why_0 hw0).2.1
    have hpb := VS_pb hv.1 i.toNat (by omega)
    have hO1 : (buyO T.1 i).1 = T.1.1 (10 + i.toNat) - 1 := by
      unfold buyO
      rw [if_neg (by omega), if_neg (by omega)]
    have hO2 : (buyO T.1 i).2 = buyA T.1 i.toNat := by
      unfold buyO
      rw [if_neg (by omega), if_neg (by omega)]
    refine lv_aload_n hx hb dX2_buy_16 rfl (lv_at hl 1 rfl) ?_
    refine lv_iload_n hx hb dX2_buy_17 rfl (lv_at hl 2 rfl) ?_
    refine mm_calli (rest := []) cx hK hA hw hl (c_X2_buys l i i.toNat g13 T.1 hr1 hv.1 (by omega) hw0) tg_RX2_97 ⟨rfl, rfl⟩ 1 rfl (by decide +kernel) ⟨Nat.le_of_ble_eq_true rfl, Nat.le_of_ble_eq_true rfl⟩ ⟨Nat.zero_le _, Nat.zero_le _⟩ (Nat.le_of_ble_eq_true rfl) dX2_buy_18 (rfl) (fun z18 g18 H locs hq18 hw => ?_)
    exact mm_ret cx hr hlocks hw (⟨by rw [hO1]; exact hq18.1, FM_step hf hv.2.1 hq13 (by rw [hO1]; omega) (by rw [hO2]; exact hq18.2.1) hq18.2.2⟩) dX2_buy_21
  · skip
    have hO0 : buyO T.1 i = (z2, T.1) := by
      rcases hz2 with q | q
      · exact q.2
      · omega
    have hO1 : (buyO T.1 i).1 = z2 := by rw [hO0]
    refine lv_iload_n hx hb dX2_buy_10 rfl (lv_at hl 0 rfl) ?_
    exact mm_ret cx hr hlocks hw (⟨by rw [hO1], FM_err hf (by rw [hO1]; omega)⟩) dX2_buy_11
set_option maxHeartbeats 4000000 in
set_option maxRecDepth 100000 in
theorem c_X2_scrap (l : Launch) (i : Int) (g : GS) (T : TT) (hf : FM g T) (hv : VT T) (hkb : (-2147483648 ≤ i ∧ i ≤ 2147483647)) : mmMi l yX2_scrap (wU yX2_scrap cX2_scrap 3 (some .int)) ({ frames := 4, cells := 0, slots := 0, locals := 85 } : Room) [.int (iN i)] g (fun z g1 => z = (scrO T.1 i).1 ∧ FM g1 (stepT T (scrO T.1 i))) := by
  refine mmMi_of (by decide) (Nat.le_of_ble_eq_true rfl) ?_
  intro p e s m args below meth c D cI tb ad A ls cx hr hlocks hK hA hw hl
  have hx := cx.1
  have hb := cx.2.1
  have hl : lv_has ls 3 [(0, .ref (ad 0)), (1, .int (iN i))] := hl
  refine lv_aload_n hx hb dX2_scrap_0 rfl (lv_at hl 0 rfl) ?_
  refine lv_iload_n hx hb dX2_scrap_1 rfl (lv_at hl 1 rfl) ?_
  refine mm_callr (rest := []) cx hK hA hw hl (c_X2_scrapFault l i g T.1 hf.1 hv.1 hkb) tg_RX2_115 ⟨rfl, rfl⟩ 1 rfl (by decide +kernel) ⟨Nat.le_of_ble_eq_true rfl, Nat.le_of_ble_eq_true rfl⟩ ⟨Nat.zero_le _, Nat.zero_le _⟩ (Nat.le_of_ble_eq_true rfl) dX2_scrap_2 (rfl) (fun z2 hz2 => ?_)
  have hzl : -1000002 ≤ z2 := by
    rcases hz2 with q | q
    · have q2 := (opLo hv.1).2.2 i
      rw [q.2] at q2
      exact q2
    · omega
  refine lv_istore_n (lv' := [(2, .int (iN z2)), (0, .ref (ad 0)), (1, .int (iN i))]) hx hb dX2_scrap_5 rfl hl (by decide) rfl (fun ls hl => ?_)
  refine lv_iload_n hx hb dX2_scrap_6 rfl (lv_at hl 0 rfl) ?_
  refine ts_if_ge (tgt := 12) hx hb (by omega) dX2_scrap_7 (by decide) (fun c7 => ?_) (fun c7 => ?_)
  · skip
    have hz3 := hz2
    have hz4 : z2 = 0 := by omega
    refine lv_aload_n hx hb dX2_scrap_12 rfl (lv_at hl 1 rfl) ?_
    refine mm_callv (rest := []) cx hK hA hw hl (c_X2_know l g T.2.1.1 hf.2.1 hv.2.1) tg_RX2_106 ⟨rfl, rfl⟩ 0 rfl (by decide +kernel) ⟨Nat.le_of_ble_eq_true rfl, Nat.le_of_ble_eq_true rfl⟩ ⟨Nat.zero_le _, Nat.zero_le _⟩ (Nat.le_of_ble_eq_true rfl) dX2_scrap_13 (rfl) (fun g13 H locs hq13 hw => ?_)
    have hr1 : RM g13 T.1 := RM_of hf.1 (fun j _ => by rw [hq13.1])
    have hhb := VS_hand hv.1 (k := i.toNat) (by omega)
    have hO1 : (scrO T.1 i).1 = (hand T.1).getD i.toNat 0 := by
      unfold scrO
      rw [if_neg (by omega), if_neg (by omega)]
    have hO2 : (scrO T.1 i).2 = scrA T.1 i.toNat := by
      unfold scrO
      rw [if_neg (by omega), if_neg (by omega)]
    refine lv_aload_n hx hb dX2_scrap_16 rfl (lv_at hl 1 rfl) ?_
    refine lv_iload_n hx hb dX2_scrap_17 rfl (lv_at hl 2 rfl) ?_
    refine mm_calli (rest := []) cx hK hA hw hl (c_X2_scraps l i i.toNat g13 T.1 hr1 hv.1 (by omega)) tg_RX2_118 ⟨rfl, rfl⟩ 1 rfl (by decide +kernel) ⟨Nat.le_of_ble_eq_true rfl, Nat.le_of_ble_eq_true rfl⟩ ⟨Nat.zero_le _, Nat.zero_le _⟩ (Nat.le_of_ble_eq_true rfl) dX2_scrap_18 (rfl) (fun z18 g18 H locs hq18 hw => ?_)
    exact mm_ret cx hr hlocks hw (⟨by rw [hO1]; exact hq18.1, FM_step hf hv.2.1 hq13 (by rw [hO1]; omega) (by rw [hO2]; exact hq18.2.1) hq18.2.2⟩) dX2_scrap_21
  · skip
    have hO0 : scrO T.1 i = (z2, T.1) := by
      rcases hz2 with q | q
      · exact q.2
      · omega
    have hO1 : (scrO T.1 i).1 = z2 := by rw [hO0]
    refine lv_iload_n hx hb dX2_scrap_10 rfl (lv_at hl 0 rfl) ?_
    exact mm_ret cx hr hlocks hw (⟨by rw [hO1], FM_err hf (by rw [hO1]; omega)⟩) dX2_scrap_11
set_option maxHeartbeats 4000000 in
set_option maxRecDepth 100000 in
theorem c_X2_end (l : Launch) (g : GS) (T : TT) (hf : FM g T) (hv : VT T) : mmMi l yX2_end (wU yX2_end cX2_end 1 (some .int)) ({ frames := 5, cells := 0, slots := 0, locals := 114 } : Room) [] g (fun z g1 => z = (endO T.1).1 ∧ FM g1 (stepT T (endO T.1))) := by
  refine mmMi_of (by decide) (Nat.le_of_ble_eq_true rfl) ?_
  intro p e s m args below meth c D cI tb ad A ls cx hr hlocks hK hA hw hl
  have hx := cx.1
  have hb := cx.2.1
  have hl : lv_has ls 1 [(0, .ref (ad 0))] := hl
  have s8 := hf.1.1 8 (by omega)
  have hvb := VS_nums hv.1
  refine lv_aload_n hx hb dX2_end_0 rfl (lv_at hl 0 rfl) ?_
  refine mm_get0 cx hK hw tl_RX2_7 dX2_end_1 ?_
  refine ts_bipush hx hb dX2_end_4 (by decide) ?_
  refine mm_ld0 cx hK hw (8) (by omega) dX2_end_6 (fun z6 hz6 => ?_)
  refine ts_iconst hx hb dX2_end_7 ?_
  refine ts_icmp_ne (tgt := 14) hx hb (by omega) dX2_end_8 (by decide) (fun c8 => ?_) (fun c8 => ?_)
  · skip
    refine lv_aload_n hx hb dX2_end_14 rfl (lv_at hl 0 rfl) ?_
    refine mm_callv (rest := []) cx hK hA hw hl (c_X2_know l g T.2.1.1 hf.2.1 hv.2.1) tg_RX2_106 ⟨rfl, rfl⟩ 0 rfl (by decide +kernel) ⟨Nat.le_of_ble_eq_true rfl, Nat.le_of_ble_eq_true rfl⟩ ⟨Nat.zero_le _, Nat.zero_le _⟩ (Nat.le_of_ble_eq_true rfl) dX2_end_15 (rfl) (fun g15 H locs hq15 hw => ?_)
    have hr1 : RM g15 T.1 := RM_of hf.1 (fun j _ => by rw [hq15.1])
    have hve := (VS_nums (VS_end hv.1)).2.1
    have hO1 : (endO T.1).1 = (endA T.1).1 1 := by
      unfold endO
      rw [if_neg (by omega)]
    have hO2 : (endO T.1).2 = endA T.1 := by
      unfold endO
      rw [if_neg (by omega)]
    refine lv_aload_n hx hb dX2_end_18 rfl (lv_at hl 0 rfl) ?_
    refine mm_calli (rest := []) cx hK hA hw hl (c_X2_ends l g15 T.1 hr1 hv.1) tg_RX2_100 ⟨rfl, rfl⟩ 0 rfl (by decide +kernel) ⟨Nat.le_of_ble_eq_true rfl, Nat.le_of_ble_eq_true rfl⟩ ⟨Nat.zero_le _, Nat.zero_le _⟩ (Nat.le_of_ble_eq_true rfl) dX2_end_19 (rfl) (fun z19 g19 H locs hq19 hw => ?_)
    exact mm_ret cx hr hlocks hw (⟨by rw [hO1]; exact hq19.1, FM_step hf hv.2.1 hq15 (by rw [hO1]; omega) (by rw [hO2]; exact hq19.2.1) hq19.2.2⟩) dX2_end_22
  · skip
    have hO1 : (endO T.1).1 = -1000002 := by
      unfold endO
      rw [if_pos (by omega)]
    refine ts_ldc (z := -1000002) hx hb cx.2.2.2.1 cx.2.2.2.2 tk_RX2_67 dX2_end_11 ?_
    exact mm_ret cx hr hlocks hw (⟨by rw [hO1], FM_err hf (by rw [hO1]; decide)⟩) dX2_end_13
set_option maxHeartbeats 4000000 in
set_option maxRecDepth 100000 in
theorem c_X2_alike (l : Launch) (t : Int) (g : GS) (T : TT) (hf : FM g T) (hv : VT T) (hkb : (-2147483648 ≤ t ∧ t ≤ 2147483647)) : mmMi l yX2_alike (wU yX2_alike cX2_alike 2 (some .int)) ({ frames := 7, cells := 0, slots := 0, locals := 160 } : Room) [.int (iN t)] g (fun z g1 => z = (alikeO T.1 t).1 ∧ FM g1 (stepT T (alikeO T.1 t))) := by
  refine mmMi_of (by decide) (Nat.le_of_ble_eq_true rfl) ?_
  intro p e s m args below meth c D cI tb ad A ls cx hr hlocks hK hA hw hl
  have hx := cx.1
  have hb := cx.2.1
  have hl : lv_has ls 2 [(0, .ref (ad 0)), (1, .int (iN t))] := hl
  have s8 := hf.1.1 8 (by omega)
  have hvb := VS_nums hv.1
  refine lv_iload_n hx hb dX2_alike_0 rfl (lv_at hl 1 rfl) ?_
  refine ts_iconst hx hb dX2_alike_1 ?_
  refine ts_bipush hx hb dX2_alike_2 (by decide) ?_
  refine ps_call (rest := []) cx hl (c_X2_in l t 1 20 (by omega)) tg_RX2_48 ⟨rfl, rfl⟩ 3 rfl (by decide +kernel) ⟨Nat.le_of_ble_eq_true rfl, Nat.le_of_ble_eq_true rfl⟩ ⟨Nat.zero_le _, Nat.zero_le _⟩ (Nat.le_of_ble_eq_true rfl) dX2_alike_4 (rfl) (fun z4 hz4 => ?_)
  refine ts_if_ne (tgt := 13) hx hb (by omega) dX2_alike_7 (by decide) (fun c7 => ?_) (fun c7 => ?_)
  · skip
    refine lv_aload_n hx hb dX2_alike_13 rfl (lv_at hl 0 rfl) ?_
    refine mm_get0 cx hK hw tl_RX2_7 dX2_alike_14 ?_
    refine ts_bipush hx hb dX2_alike_17 (by decide) ?_
    refine mm_ld0 cx hK hw (8) (by omega) dX2_alike_19 (fun z19 hz19 => ?_)
    refine ts_iconst hx hb dX2_alike_20 ?_
    refine ts_icmp_ne (tgt := 27) hx hb (by omega) dX2_alike_21 (by decide) (fun c21 => ?_) (fun c21 => ?_)
    · skip
      refine lv_aload_n hx hb dX2_alike_27 rfl (lv_at hl 0 rfl) ?_
      refine mm_callv (rest := []) cx hK hA hw hl (c_X2_know l g T.2.1.1 hf.2.1 hv.2.1) tg_RX2_106 ⟨rfl, rfl⟩ 0 rfl (by decide +kernel) ⟨Nat.le_of_ble_eq_true rfl, Nat.le_of_ble_eq_true rfl⟩ ⟨Nat.zero_le _, Nat.zero_le _⟩ (Nat.le_of_ble_eq_true rfl) dX2_alike_28 (rfl) (fun g28 H locs hq28 hw => ?_)
      have hr1 : RM g28 T.1 := RM_of hf.1 (fun j _ => by rw [hq28.1])
      have hvg := VS_goes t.toNat T.1 hv.1
      have hO1 : (alikeO T.1 t).1 = (goesA t.toNat T.1).1 := by
        unfold alikeO
        rw [if_neg (by omega), if_neg (by omega)]
      have hO2 : (alikeO T.1 t).2 = (goesA t.toNat T.1).2 := by
        unfold alikeO
        rw [if_neg (by omega), if_neg (by omega)]
      refine lv_aload_n hx hb dX2_alike_31 rfl (lv_at hl 0 rfl) ?_
      refine lv_iload_n hx hb dX2_alike_32 rfl (lv_at hl 1 rfl) ?_
      refine mm_calli (rest := []) cx hK hA hw hl (c_X2_goesOn l t t.toNat g28 T.1 hr1 hv.1 (by omega)) tg_RX2_121 ⟨rfl, rfl⟩ 1 rfl (by decide +kernel) ⟨Nat.le_of_ble_eq_true rfl, Nat.le_of_ble_eq_true rfl⟩ ⟨Nat.zero_le _, Nat.zero_le _⟩ (Nat.le_of_ble_eq_true rfl) dX2_alike_33 (rfl) (fun z33 g33 H locs hq33 hw => ?_)
      exact mm_ret cx hr hlocks hw (⟨by rw [hO1]; exact hq33.1, FM_step hf hv.2.1 hq28 (by rw [hO1]; omega) (by rw [hO2]; exact hq33.2.1) hq33.2.2⟩) dX2_alike_36
    · skip
      have hO1 : (alikeO T.1 t).1 = -1000002 := by
        unfold alikeO
        rw [if_neg (by omega), if_pos (by omega)]
      refine ts_ldc (z := -1000002) hx hb cx.2.2.2.1 cx.2.2.2.2 tk_RX2_67 dX2_alike_24 ?_
      exact mm_ret cx hr hlocks hw (⟨by rw [hO1], FM_err hf (by rw [hO1]; decide)⟩) dX2_alike_26
  · skip
    have hO1 : (alikeO T.1 t).1 = -1000001 := by
      unfold alikeO
      rw [if_pos (by omega)]
    refine ts_ldc (z := -1000001) hx hb cx.2.2.2.1 cx.2.2.2.2 tk_RX2_63 dX2_alike_10 ?_
    exact mm_ret cx hr hlocks hw (⟨by rw [hO1], FM_err hf (by rw [hO1]; decide)⟩) dX2_alike_12
set_option maxHeartbeats 4000000 in
set_option maxRecDepth 100000 in
theorem c_X2_set (l : Launch) (what v : Int) (g : GS) (T : TT) (hf : FM g T) (hv : VT T) (hkb : (-2147483648 ≤ what ∧ what ≤ 2147483647) ∧ (-2147483648 ≤ v ∧ v ≤ 2147483647)) : mmMi l yX2_set (wU yX2_set cX2_set 4 (some .int)) ({ frames := 1, cells := 0, slots := 0, locals := 22 } : Room) [.int (iN what), .int (iN v)] g (fun z g1 => z = (setO T.1 what v).1 ∧ FM g1 (stepT T (setO T.1 what v))) := by
  refine mmMi_of (by decide) (Nat.le_of_ble_eq_true rfl) ?_
  intro p e s m args below meth c D cI tb ad A ls cx hr hlocks hK hA hw hl
  have hx := cx.1
  have hb := cx.2.1
  have hl : lv_has ls 4 [(0, .ref (ad 0)), (1, .int (iN what)), (2, .int (iN v))] := hl
  have s9 := hf.1.1 9 (by omega)
  have hvb := hv.1.2.2.2.1
  refine lv_iload_n hx hb dX2_set_0 rfl (lv_at hl 1 rfl) ?_
  refine ts_if_ne (tgt := 14) hx hb (by omega) dX2_set_1 (by decide) (fun c1 => ?_) (fun c1 => ?_)
  · skip
    have hO1 : (setO T.1 what v).1 = -1000001 := by
      unfold setO
      rw [if_pos (by omega)]
    refine ts_ldc (z := -1000001) hx hb cx.2.2.2.1 cx.2.2.2.2 tk_RX2_63 dX2_set_14 ?_
    exact mm_ret cx hr hlocks hw (⟨by rw [hO1], FM_err hf (by rw [hO1]; decide)⟩) dX2_set_16
  · skip
    refine lv_iload_n hx hb dX2_set_4 rfl (lv_at hl 2 rfl) ?_
    refine ts_iconst hx hb dX2_set_5 ?_
    refine ts_bipush hx hb dX2_set_6 (by decide) ?_
    refine ps_call (rest := []) cx hl (c_X2_in l v 0 9 (by omega)) tg_RX2_48 ⟨rfl, rfl⟩ 3 rfl (by decide +kernel) ⟨Nat.le_of_ble_eq_true rfl, Nat.le_of_ble_eq_true rfl⟩ ⟨Nat.zero_le _, Nat.zero_le _⟩ (Nat.le_of_ble_eq_true rfl) dX2_set_8 (rfl) (fun z8 hz8 => ?_)
    refine ts_if_ne (tgt := 17) hx hb (by omega) dX2_set_11 (by decide) (fun c11 => ?_) (fun c11 => ?_)
    · skip
      have hcc : ¬ (what ≠ 0 ∨ ¬ (0 ≤ v ∧ v ≤ 9)) := by omega
      refine lv_aload_n hx hb dX2_set_17 rfl (lv_at hl 0 rfl) ?_
      refine mm_callv (rest := []) cx hK hA hw hl (c_X2_know l g T.2.1.1 hf.2.1 hv.2.1) tg_RX2_106 ⟨rfl, rfl⟩ 0 rfl (by decide +kernel) ⟨Nat.le_of_ble_eq_true rfl, Nat.le_of_ble_eq_true rfl⟩ ⟨Nat.zero_le _, Nat.zero_le _⟩ (Nat.le_of_ble_eq_true rfl) dX2_set_18 (rfl) (fun g18 H locs hq18 hw => ?_)
      have hr1 : RM g18 T.1 := RM_of hf.1 (fun j _ => by rw [hq18.1])
      have hO1 : (setO T.1 what v).1 = T.1.1 9 := by
        unfold setO
        rw [if_neg hcc]
      have hO2 : (setO T.1 what v).2 = (uf T.1.1 9 v, T.1.2) := by
        unfold setO
        rw [if_neg hcc]
      refine lv_aload_n hx hb dX2_set_21 rfl (lv_at hl 0 rfl) ?_
      refine mm_get0 cx hK hw tl_RX2_7 dX2_set_22 ?_
      refine ts_bipush hx hb dX2_set_25 (by decide) ?_
      refine mm_ld0 cx hK hw (9) (by omega) dX2_set_27 (fun z27 hz27 => ?_)
      refine lv_istore_n (lv' := [(3, .int (iN z27)), (0, .ref (ad 0)), (1, .int (iN what)), (2, .int (iN v))]) hx hb dX2_set_28 rfl hl (by decide) rfl (fun ls hl => ?_)
      refine lv_aload_n hx hb dX2_set_29 rfl (lv_at hl 1 rfl) ?_
      refine mm_get0 cx hK hw tl_RX2_7 dX2_set_30 ?_
      refine ts_bipush hx hb dX2_set_33 (by decide) ?_
      refine lv_iload_n hx hb dX2_set_35 rfl (lv_at hl 3 rfl) ?_
      refine mm_st0 cx hK hw (9) (by omega) dX2_set_36 (fun g36 H locs hg36 hw => ?_)
      refine lv_iload_n hx hb dX2_set_37 rfl (lv_at hl 0 rfl) ?_
      exact mm_ret cx hr hlocks hw (⟨by rw [hO1, hz27, hq18.1]; exact s9, FM_step hf hv.2.1 hq18 (by rw [hO1]; omega) (by rw [hO2, hg36]; exact ⟨SM_set hr1.1, QM_set hr1.2 (by decide)⟩) (by rw [hg36]; exact ME_set _ _ _)⟩) dX2_set_38
    · skip
      have hO1 : (setO T.1 what v).1 = -1000001 := by
        unfold setO
        rw [if_pos (by omega)]
      refine ts_ldc (z := -1000001) hx hb cx.2.2.2.1 cx.2.2.2.2 tk_RX2_63 dX2_set_14 ?_
      exact mm_ret cx hr hlocks hw (⟨by rw [hO1], FM_err hf (by rw [hO1]; decide)⟩) dX2_set_16
set_option maxHeartbeats 4000000 in
set_option maxRecDepth 100000 in
theorem c_X2_undo (l : Launch) (g : GS) (T : TT) (hf : FM g T) (hv : VT T) : mmMi l yX2_undo (wU yX2_undo cX2_undo 2 (some .int)) ({ frames := 0, cells := 0, slots := 0, locals := 0 } : Room) [] g (fun z g1 => z = (undoT T).1 ∧ FM g1 (undoT T).2) := by
  refine mmMi_of (by decide) (Nat.le_of_ble_eq_true rfl) ?_
  intro p e s m args below meth c D cI tb ad A ls cx hr hlocks hK hA hw hl
  have hx := cx.1
  have hb := cx.2.1
  have hl : lv_has ls 2 [(0, .ref (ad 0))] := hl
  have hk0 := hf.2.1
  have hv4 := hv.2.1
  refine lv_aload_n hx hb dX2_undo_0 rfl (lv_at hl 0 rfl) ?_
  refine mm_get3 cx hK hw tl_RX2_44 dX2_undo_1 (fun z1 hz1 => ?_)
  refine ts_if_ne (tgt := 10) hx hb (by omega) dX2_undo_4 (by decide) (fun c4 => ?_) (fun c4 => ?_)
  · skip
    have hU : undoT T = ((T.2.1.1 : Int) - 1, (T.2.1.2 (T.2.1.1 - 1), (T.2.1.1 - 1, T.2.1.2), T.2.2)) := by
      unfold undoT
      rw [if_neg (by omega)]
    refine lv_aload_n hx hb dX2_undo_10 rfl (lv_at hl 0 rfl) ?_
    refine lv_dup hx hb dX2_undo_11 rfl ?_
    refine mm_get3 cx hK hw tl_RX2_44 dX2_undo_12 (fun z12 hz12 => ?_)
    refine ts_iconst hx hb dX2_undo_15 ?_
    refine ts_isub hx hb dX2_undo_16 (fun z16 hz16 => ?_)
    refine mm_put3 cx hK hw tl_RX2_44 dX2_undo_17 (fun g17 H locs hg17 hw => ?_)
    have h43 : g17 4 3 = z16 := by rw [hg17, u2_4, if_pos rfl]
    refine ts_iconst hx hb dX2_undo_20 ?_
    refine lv_istore_n (lv' := [(1, .int (iN 0)), (0, .ref (ad 0))]) hx hb dX2_undo_21 rfl hl (by decide) rfl (fun ls hl => ?_)
    have cut22 : ∀ (fu : Nat) (k : Int) (ga : GS) (hmu : (2670 - k).toNat < fu) (hk : 0 ≤ k ∧ k ≤ 2670) (ha : ∀ j : Nat, ga 0 j = if (j : Int) < k then g 2 (2670 * (T.2.1.1 - 1) + j) else g 0 j) (hm : ga 2 = g 2 ∧ ga 3 = g 3 ∧ ga 4 = g17 4) (H : Heap) (locs : List Loc) (hw : mmB D A s cI ad ga H locs) (ls : Array Slot) (hl : lv_has ls 2 [(0, .ref (ad 0)), (1, .int (iN k))]), W p l e ({ frames := 0, cells := 0, slots := 0, locals := 0 } : Room) s m args below meth c H locs 0 0 (mmQi D cI ad A below args s (fun z g1 => z = (undoT T).1 ∧ FM g1 (undoT T).2)) (F0 m 22 ls []) := by
      intro fu
      induction fu with
      | zero => intro k ga hmu; exact absurd hmu (Nat.not_lt_zero _)
      | succ fu ih22 =>
        intro k ga hmu hk ha hm H locs hw ls hl
        refine lv_iload_n hx hb dX2_undo_22 rfl (lv_at hl 1 rfl) ?_
        refine ts_sipush hx hb dX2_undo_23 (by decide) ?_
        refine ts_icmp_ge (tgt := 56) hx hb (by omega) dX2_undo_26 (by decide) (fun c26 => ?_) (fun c26 => ?_)
        · skip
          refine lv_aload_n hx hb dX2_undo_56 rfl (lv_at hl 0 rfl) ?_
          refine mm_get3 cx hK hw tl_RX2_44 dX2_undo_57 (fun z57 hz57 => ?_)
          rw [hm.2.2, h43] at hz57
          have hF : FM ga (T.2.1.2 (T.2.1.1 - 1), (T.2.1.1 - 1, T.2.1.2), T.2.2) := by
            refine ⟨RM_of (hf.2.2.1 (T.2.1.1 - 1) (by omega)) (fun j hj => by rw [ha j, if_pos (by omega)]; rfl), ?_, fun b hb => RM_of (hf.2.2.1 b (by have : b < T.2.1.1 - 1 := hb; omega)) (fun j _ => by show ga 2 _ = g 2 _; rw [hm.1]), ?_, fun j hj => by rw [hm.2.1]; exact hf.2.2.2.2 j hj⟩
            · rw [hm.2.2, h43]
              show z16 = ((T.2.1.1 - 1 : Nat) : Int)
              omega
            · rw [hm.2.2, hg17, u2_4, if_neg (by decide)]
              exact hf.2.2.2.1
          exact mm_ret cx hr hlocks hw (⟨by rw [hU]; show _ = (T.2.1.1 : Int) - 1; omega, by rw [hU]; exact hF⟩) dX2_undo_60
        · skip
          refine lv_aload_n hx hb dX2_undo_29 rfl (lv_at hl 0 rfl) ?_
          refine mm_get0 cx hK hw tl_RX2_7 dX2_undo_30 ?_
          refine lv_iload_n hx hb dX2_undo_33 rfl (lv_at hl 1 rfl) ?_
          refine lv_aload_n hx hb dX2_undo_34 rfl (lv_at hl 0 rfl) ?_
          refine mm_get2 cx hK hw tl_RX2_16 dX2_undo_35 ?_
          refine ts_sipush hx hb dX2_undo_38 (by decide) ?_
          refine lv_aload_n hx hb dX2_undo_41 rfl (lv_at hl 0 rfl) ?_
          refine mm_get3 cx hK hw tl_RX2_44 dX2_undo_42 (fun z42 hz42 => ?_)
          rw [hm.2.2, h43] at hz42
          refine ts_imul hx hb dX2_undo_45 (fun z45 hz45 => ?_)
          refine lv_iload_n hx hb dX2_undo_46 rfl (lv_at hl 1 rfl) ?_
          refine ts_iadd hx hb dX2_undo_47 (fun z47 hz47 => ?_)
          refine mm_ld2 cx hK hw (2670 * (T.2.1.1 - 1) + k.toNat) (by omega) dX2_undo_48 (fun z48 hz48 => ?_)
          refine mm_st0 cx hK hw (k.toNat) (by omega) dX2_undo_49 (fun g49 H locs hg49 hw => ?_)
          obtain ⟨z50, hz50⟩ : ∃ z : Int, z = k + 1 := ⟨_, rfl⟩
          refine lv_iinc (v := iN z50) (lv' := [(1, .int (iN z50)), (0, .ref (ad 0))]) hx hb dX2_undo_50 hl (k := 1) rfl (by rw [hz50]; exact iN_add _ _) (by decide) rfl (fun ls hl => ?_)
          have han : ∀ j : Nat, g49 0 j = if (j : Int) < z50 then g 2 (2670 * (T.2.1.1 - 1) + j) else g 0 j := by
            intro j
            rw [hg49, u2_r]
            by_cases e : j = k.toNat
            · rw [if_pos e, if_pos (by omega), hz48, hm.1, e]
            · rw [if_neg e, ha j]
              by_cases e2 : (j : Int) < k
              · rw [if_pos e2, if_pos (by omega)]
              · rw [if_neg e2, if_neg (by omega)]
          refine lv_goto (tgt := 22) hx hb dX2_undo_53 (by decide) ?_
          exact ih22 (z50) (g49) (by omega) (by omega) (han) (⟨by rw [hg49, u2_row _ (by decide)]; exact hm.1, by rw [hg49, u2_row _ (by decide)]; exact hm.2.1, by rw [hg49, u2_row _ (by decide)]; exact hm.2.2⟩) _ _ hw _ (lv_sub hl [1, 0] rfl)
    exact cut22 _ (0) (g17) (Nat.lt_succ_self _) (by omega) (fun j => by rw [if_neg (by omega), hg17, u2_row _ (by decide)]) (⟨by rw [hg17, u2_row _ (by decide)], by rw [hg17, u2_row _ (by decide)], rfl⟩) _ _ hw _ (lv_sub hl [1, 0] rfl)
  · skip
    have hU : undoT T = (-1000002, T) := by
      unfold undoT
      rw [if_pos (by omega)]
    refine ts_ldc (z := -1000002) hx hb cx.2.2.2.1 cx.2.2.2.2 tk_RX2_67 dX2_undo_7 ?_
    exact mm_ret cx hr hlocks hw (⟨by rw [hU], by rw [hU]; exact hf⟩) dX2_undo_9
set_option maxHeartbeats 4000000 in
set_option maxRecDepth 100000 in
theorem c_X2_type (l : Launch) (ch : Int) (g : GS) (T : TT) (hf : FM g T) (hv : VT T) (hkb : (-2147483648 ≤ ch ∧ ch ≤ 2147483647)) : mmMi l yX2_type (wU yX2_type cX2_type 2 (some .int)) ({ frames := 1, cells := 0, slots := 0, locals := 22 } : Room) [.int (iN ch)] g (fun z g1 => z = (typeT T ch).1 ∧ FM g1 (typeT T ch).2) := by
  refine mmMi_of (by decide) (Nat.le_of_ble_eq_true rfl) ?_
  intro p e s m args below meth c D cI tb ad A ls cx hr hlocks hK hA hw hl
  have hx := cx.1
  have hb := cx.2.1
  have hl : lv_has ls 2 [(0, .ref (ad 0)), (1, .int (iN ch))] := hl
  have hl0 := hf.2.2.2.1
  have hl60 := hv.2.2.2.1
  refine lv_iload_n hx hb dX2_type_0 rfl (lv_at hl 1 rfl) ?_
  refine ts_bipush hx hb dX2_type_1 (by decide) ?_
  refine ts_bipush hx hb dX2_type_3 (by decide) ?_
  refine ps_call (rest := []) cx hl (c_X2_in l ch 32 126 (by omega)) tg_RX2_48 ⟨rfl, rfl⟩ 3 rfl (by decide +kernel) ⟨Nat.le_of_ble_eq_true rfl, Nat.le_of_ble_eq_true rfl⟩ ⟨Nat.zero_le _, Nat.zero_le _⟩ (Nat.le_of_ble_eq_true rfl) dX2_type_5 (rfl) (fun z5 hz5 => ?_)
  refine ts_if_ne (tgt := 14) hx hb (by omega) dX2_type_8 (by decide) (fun c8 => ?_) (fun c8 => ?_)
  · skip
    refine lv_aload_n hx hb dX2_type_14 rfl (lv_at hl 0 rfl) ?_
    refine mm_get5 cx hK hw tl_RX2_163 dX2_type_15 (fun z15 hz15 => ?_)
    refine ts_bipush hx hb dX2_type_18 (by decide) ?_
    refine ts_icmp_ne (tgt := 26) hx hb (by omega) dX2_type_20 (by decide) (fun c20 => ?_) (fun c20 => ?_)
    · skip
      have hU : typeT T ch = ((T.2.2.1 : Int) + 1, (T.1, T.2.1, (T.2.2.1 + 1, uf T.2.2.2 T.2.2.1 ch))) := by
        unfold typeT
        rw [if_neg (by omega), if_neg (by omega)]
      refine lv_aload_n hx hb dX2_type_26 rfl (lv_at hl 0 rfl) ?_
      refine mm_get4 cx hK hw tl_RX2_19 dX2_type_27 ?_
      refine lv_aload_n hx hb dX2_type_30 rfl (lv_at hl 0 rfl) ?_
      refine mm_get5 cx hK hw tl_RX2_163 dX2_type_31 (fun z31 hz31 => ?_)
      refine lv_iload_n hx hb dX2_type_34 rfl (lv_at hl 1 rfl) ?_
      refine mm_st3 cx hK hw (T.2.2.1) (by omega) dX2_type_35 (fun g35 H locs hg35 hw => ?_)
      refine lv_aload_n hx hb dX2_type_36 rfl (lv_at hl 0 rfl) ?_
      refine lv_dup hx hb dX2_type_37 rfl ?_
      refine mm_get5 cx hK hw tl_RX2_163 dX2_type_38 (fun z38 hz38 => ?_)
      have h35 : g35 4 5 = g 4 5 := by rw [hg35, u2_row _ (by decide)]
      refine ts_iconst hx hb dX2_type_41 ?_
      refine ts_iadd hx hb dX2_type_42 (fun z42 hz42 => ?_)
      refine mm_put5 cx hK hw tl_RX2_163 dX2_type_43 (fun g43 H locs hg43 hw => ?_)
      refine lv_aload_n hx hb dX2_type_46 rfl (lv_at hl 0 rfl) ?_
      refine mm_get5 cx hK hw tl_RX2_163 dX2_type_47 (fun z47 hz47 => ?_)
      have hF : FM g43 (T.1, T.2.1, (T.2.2.1 + 1, uf T.2.2.2 T.2.2.1 ch)) := by
        rw [hg43, hg35]
        refine ⟨RM_of hf.1 (fun j _ => by rw [u2_row _ (by decide), u2_row _ (by decide)]), ?_, fun b hb => RM_of (hf.2.2.1 b hb) (fun j _ => by show u2 (u2 g 3 _ _) 4 _ _ 2 _ = g 2 _; rw [u2_row _ (by decide), u2_row _ (by decide)]), ?_, fun j hj => ?_⟩
        · rw [u2_4, if_neg (by decide), u2_row _ (by decide)]
          exact hf.2.1
        · rw [u2_4, if_pos rfl]
          show z42 = ((T.2.2.1 + 1 : Nat) : Int)
          omega
        · rw [u2_row _ (by decide), u2_r]
          show (if j = T.2.2.1 then ch else g 3 j) = if j = T.2.2.1 then ch else T.2.2.2 j
          by_cases e : j = T.2.2.1
          · rw [if_pos e, if_pos e]
          · rw [if_neg e, if_neg e]
            exact hf.2.2.2.2 j (by have : j < T.2.2.1 + 1 := hj; omega)
      have h47 : z47 = z42 := by rw [hz47, hg43, u2_4, if_pos rfl]
      exact mm_ret cx hr hlocks hw (⟨by rw [hU]; show _ = (T.2.2.1 : Int) + 1; omega, by rw [hU]; exact hF⟩) dX2_type_50
    · skip
      have hU : typeT T ch = (-1000003, T) := by
        unfold typeT
        rw [if_neg (by omega), if_pos (by omega)]
      refine ts_ldc (z := -1000003) hx hb cx.2.2.2.1 cx.2.2.2.2 tk_RX2_166 dX2_type_23 ?_
      exact mm_ret cx hr hlocks hw (⟨by rw [hU], by rw [hU]; exact hf⟩) dX2_type_25
  · skip
    have hU : typeT T ch = (-1000001, T) := by
      unfold typeT
      rw [if_pos (by omega)]
    refine ts_ldc (z := -1000001) hx hb cx.2.2.2.1 cx.2.2.2.2 tk_RX2_63 dX2_type_11 ?_
    exact mm_ret cx hr hlocks hw (⟨by rw [hU], by rw [hU]; exact hf⟩) dX2_type_13
set_option maxHeartbeats 4000000 in
set_option maxRecDepth 100000 in
theorem c_X2_clearText (l : Launch) (g : GS) (T : TT) (hf : FM g T) (hv : VT T) : mmMi l yX2_clearText (wU yX2_clearText cX2_clearText 2 (some .int)) ({ frames := 0, cells := 0, slots := 0, locals := 0 } : Room) [] g (fun z g1 => z = (clearT T).1 ∧ FM g1 (clearT T).2) := by
  refine mmMi_of (by decide) (Nat.le_of_ble_eq_true rfl) ?_
  intro p e s m args below meth c D cI tb ad A ls cx hr hlocks hK hA hw hl
  have hx := cx.1
  have hb := cx.2.1
  have hl : lv_has ls 2 [(0, .ref (ad 0))] := hl
  have hl0 := hf.2.2.2.1
  refine lv_aload_n hx hb dX2_clearText_0 rfl (lv_at hl 0 rfl) ?_
  refine mm_get5 cx hK hw tl_RX2_163 dX2_clearText_1 (fun z1 hz1 => ?_)
  refine lv_istore_n (lv' := [(1, .int (iN z1)), (0, .ref (ad 0))]) hx hb dX2_clearText_4 rfl hl (by decide) rfl (fun ls hl => ?_)
  refine lv_aload_n hx hb dX2_clearText_5 rfl (lv_at hl 1 rfl) ?_
  refine ts_iconst hx hb dX2_clearText_6 ?_
  refine mm_put5 cx hK hw tl_RX2_163 dX2_clearText_7 (fun g7 H locs hg7 hw => ?_)
  have hF : FM g7 (clearT T).2 := by
    rw [hg7]
    refine ⟨RM_of hf.1 (fun j _ => by rw [u2_row _ (by decide)]), ?_, fun b hb => RM_of (hf.2.2.1 b hb) (fun j _ => by show u2 g 4 _ _ 2 _ = g 2 _; rw [u2_row _ (by decide)]), ?_, fun j hj => by have : j < 0 := hj; omega⟩
    · rw [u2_4, if_neg (by decide)]
      exact hf.2.1
    · rw [u2_4, if_pos rfl]
      rfl
  refine lv_iload_n hx hb dX2_clearText_10 rfl (lv_at hl 0 rfl) ?_
  exact mm_ret cx hr hlocks hw (⟨by show _ = (T.2.2.1 : Int); omega, hF⟩) dX2_clearText_11
