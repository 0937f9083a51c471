/-! ===== TurningShop: the moves, what would be ===== -/
theorem op_b {S : StT} (h : VS S) : (∀ i, -1000002 ≤ (playO S i).1 ∧ (playO S i).1 ≤ 1000) ∧ (∀ k, -1000002 ≤ (buyO S k).1 ∧ (buyO S k).1 ≤ 1000) ∧ (∀ i, -1000002 ≤ (scrO S i).1 ∧ (scrO S i).1 ≤ 1000) ∧ (-1000002 ≤ (endO S).1 ∧ (endO S).1 ≤ 1000) ∧ (∀ np, -1000002 ≤ (begO S np).1 ∧ (begO S np).1 ≤ 1000) := by
  have hl := opLo h
  refine ⟨fun i => ⟨hl.1 i, ?_⟩, fun k => ⟨hl.2.1 k, ?_⟩, fun i => ⟨hl.2.2 i, ?_⟩, ?_, fun np => ?_⟩
  · unfold playO
    split
    · show (-1000001 : Int) ≤ 1000; decide
    · split
      · show (-1000002 : Int) ≤ 1000; decide
      · have := VS_hand h (k := i.toNat) (by omega)
        show (hand S).getD i.toNat 0 ≤ 1000
        omega
  · unfold buyO
    split
    · show (-1000001 : Int) ≤ 1000; decide
    · split
      · show (-1000002 : Int) ≤ 1000; decide
      · have h1 := VS_pile h k.toNat (by omega)
        have h2 := lenS_nonneg S.2
        show S.1 (10 + k.toNat) - 1 ≤ 1000
        omega
  · unfold scrO
    split
    · show (-1000001 : Int) ≤ 1000; decide
    · split
      · show (-1000002 : Int) ≤ 1000; decide
      · have := VS_hand h (k := i.toNat) (by omega)
        show (hand S).getD i.toNat 0 ≤ 1000
        omega
  · unfold endO
    split
    · show (-1000002 : Int) ≤ -1000002 ∧ (-1000002 : Int) ≤ 1000; decide
    · have := VS_nums (VS_end h)
      show -1000002 ≤ (endA S).1 1 ∧ (endA S).1 1 ≤ 1000
      omega
  · unfold begO
    split
    · show (-1000002 : Int) ≤ -1000001 ∧ (-1000001 : Int) ≤ 1000; decide
    · show -1000002 ≤ 60 - 7 * np ∧ 60 - 7 * np ≤ 1000
      omega
theorem why_b (sc : SCT) (k : Nat) : 0 ≤ why sc k ∧ why sc k ≤ 5 := by
  unfold why
  (repeat' split) <;> omega
theorem FX_13 {g : XS} {T : TT} (hf : FX g T) (hv : VT T) : g 0 4 13 = 0 ∨ g 0 4 13 = 1 := by
  have h1 := hf.1.1.2.2.2.2.2.2.2.2.2.1
  have h2 := (VS_nums hv.1).2.2.2.2.2.2.2.1
  rw [h1]
  exact h2
theorem FX_3 {g : XS} {T : TT} (hf : FX g T) (hv : VT T) : 0 ≤ g 6 4 3 ∧ g 6 4 3 ≤ 4 := by
  have h1 := hf.2.1
  have h2 := hv.2.1
  omega
set_option maxHeartbeats 4000000 in
set_option maxRecDepth 100000 in
theorem c_X1_begin (l : Launch) (np : Int) (g : XS) (T : TT) (hf : FX g T) (hv : VT T) (hkb : (-2147483648 ≤ np ∧ np ≤ 2147483647)) : xmMi l yX1_begin (wU yX1_begin cX1_begin 2 (some .int)) ({ frames := 4, cells := 0, slots := 0, locals := 133 } : Room) [.int (iN np)] g (fun z g1 => z = (begO T.1 np).1 ∧ FX g1 (stepT T (begO T.1 np))) := by
  refine xmMi_of (by decide) (Nat.le_of_ble_eq_true rfl) ?_
  intro p e s m args below meth c D ci tb ad ga A ls cx hr hlocks hK hA hT hw hl
  have hx := cx.1
  have hb := cx.2.1
  have hl : lv_has ls 2 [(0, .ref (ad 0)), (1, .int (iN np))] := hl
  have hob := op_b hv.1
  refine lv_aload_n hx hb dX1_begin_0 rfl (lv_at hl 0 rfl) ?_
  refine lv_aload_n hx hb dX1_begin_1 rfl (lv_at hl 0 rfl) ?_
  refine xm_callq (rest := [.ref (ad 0)]) cx hK hT hA hw hl (c_X1_copyOfNow l g (FX_13 hf hv)) tg_RX1_35 ⟨rfl, rfl⟩ 0 rfl (by decide +kernel) ⟨Nat.le_of_ble_eq_true rfl, Nat.le_of_ble_eq_true rfl⟩ ⟨Nat.zero_le _, Nat.zero_le _⟩ (Nat.le_of_ble_eq_true rfl) dX1_begin_2 (rfl) (fun ga2 g2 H locs hq2 hw => ?_)
  obtain ⟨x2, hx2, hc2⟩ := hq2
  have hr2 : RX (g2 1) T.1 := by rw [hx2, ux_s]; exact RX_CE hf.1 hc2
  have hf2 : FX g2 T := by rw [hx2]; exact FX_spare hf (fun i hi => ux_n _ _ hi)
  refine lv_iload_n hx hb dX1_begin_5 rfl (lv_at hl 1 rfl) ?_
  refine xg_calli (rest := [.ref (ad 0)]) cx hK hT hA hw hl 1 (by decide) (c_X0_startGame l np (g2 1) T.1 hr2 (by omega)) tg_RX1_31 ⟨rfl, rfl⟩ 1 rfl (by decide +kernel) ⟨Nat.le_of_ble_eq_true rfl, Nat.le_of_ble_eq_true rfl⟩ ⟨Nat.zero_le _, Nat.zero_le _⟩ (Nat.le_of_ble_eq_true rfl) dX1_begin_6 (rfl) (fun z6 y6 H locs hq6 hw => ?_)
  obtain ⟨g6, hg6⟩ : ∃ q, q = ux g2 1 y6 := ⟨_, rfl⟩
  rw [← hg6] at hw
  have hr6 : RX (g6 1) (begO T.1 np).2 := by rw [hg6, ux_s]; exact hq6.2
  have hf6 : FX g6 T := by rw [hg6]; exact FX_spare hf2 (fun i hi => ux_n _ _ hi)
  refine xm_calli (rest := []) cx hK hT hA hw hl (c_X1_settle l z6 g6 (FX_3 hf6 hv) (by have := hob.2.2.2.2 np; rw [hq6.1]; omega)) tg_RX1_39 ⟨rfl, rfl⟩ 1 rfl (by decide +kernel) ⟨Nat.le_of_ble_eq_true rfl, Nat.le_of_ble_eq_true rfl⟩ ⟨Nat.zero_le _, Nat.zero_le _⟩ (Nat.le_of_ble_eq_true rfl) dX1_begin_9 (rfl) (fun z9 ga9 g9 H locs hq9 hw => ?_)
  exact xm_ret cx hr hlocks hw (⟨by rw [hq9.1, hq6.1], FX_SP hf6 hv.2.1 hr6 hq6.1 hq9.2⟩) dX1_begin_12
set_option maxHeartbeats 4000000 in
set_option maxRecDepth 100000 in
theorem c_X1_play (l : Launch) (i : Int) (g : XS) (T : TT) (hf : FX g T) (hv : VT T) (hkb : (-2147483648 ≤ i ∧ i ≤ 2147483647)) : xmMi l yX1_play (wU yX1_play cX1_play 2 (some .int)) ({ frames := 4, cells := 0, slots := 0, locals := 135 } : Room) [.int (iN i)] g (fun z g1 => z = (playO T.1 i).1 ∧ FX g1 (stepT T (playO T.1 i))) := by
  refine xmMi_of (by decide) (Nat.le_of_ble_eq_true rfl) ?_
  intro p e s m args below meth c D ci tb ad ga A ls cx hr hlocks hK hA hT hw hl
  have hx := cx.1
  have hb := cx.2.1
  have hl : lv_has ls 2 [(0, .ref (ad 0)), (1, .int (iN i))] := hl
  have hob := op_b hv.1
  refine lv_aload_n hx hb dX1_play_0 rfl (lv_at hl 0 rfl) ?_
  refine lv_aload_n hx hb dX1_play_1 rfl (lv_at hl 0 rfl) ?_
  refine xm_callq (rest := [.ref (ad 0)]) cx hK hT hA hw hl (c_X1_copyOfNow l g (FX_13 hf hv)) tg_RX1_35 ⟨rfl, rfl⟩ 0 rfl (by decide +kernel) ⟨Nat.le_of_ble_eq_true rfl, Nat.le_of_ble_eq_true rfl⟩ ⟨Nat.zero_le _, Nat.zero_le _⟩ (Nat.le_of_ble_eq_true rfl) dX1_play_2 (rfl) (fun ga2 g2 H locs hq2 hw => ?_)
  obtain ⟨x2, hx2, hc2⟩ := hq2
  have hr2 : RX (g2 1) T.1 := by rw [hx2, ux_s]; exact RX_CE hf.1 hc2
  have hf2 : FX g2 T := by rw [hx2]; exact FX_spare hf (fun i hi => ux_n _ _ hi)
  refine lv_iload_n hx hb dX1_play_5 rfl (lv_at hl 1 rfl) ?_
  refine xg_calli (rest := [.ref (ad 0)]) cx hK hT hA hw hl 1 (by decide) (c_X0_playCard l i (g2 1) T.1 hr2 hv.1 (by omega)) tg_RX1_42 ⟨rfl, rfl⟩ 1 rfl (by decide +kernel) ⟨Nat.le_of_ble_eq_true rfl, Nat.le_of_ble_eq_true rfl⟩ ⟨Nat.zero_le _, Nat.zero_le _⟩ (Nat.le_of_ble_eq_true rfl) dX1_play_6 (rfl) (fun z6 y6 H locs hq6 hw => ?_)
  obtain ⟨g6, hg6⟩ : ∃ q, q = ux g2 1 y6 := ⟨_, rfl⟩
  rw [← hg6] at hw
  have hr6 : RX (g6 1) (playO T.1 i).2 := by rw [hg6, ux_s]; exact hq6.2
  have hf6 : FX g6 T := by rw [hg6]; exact FX_spare hf2 (fun i hi => ux_n _ _ hi)
  refine xm_calli (rest := []) cx hK hT hA hw hl (c_X1_settle l z6 g6 (FX_3 hf6 hv) (by have := hob.1 i; rw [hq6.1]; omega)) tg_RX1_39 ⟨rfl, rfl⟩ 1 rfl (by decide +kernel) ⟨Nat.le_of_ble_eq_true rfl, Nat.le_of_ble_eq_true rfl⟩ ⟨Nat.zero_le _, Nat.zero_le _⟩ (Nat.le_of_ble_eq_true rfl) dX1_play_9 (rfl) (fun z9 ga9 g9 H locs hq9 hw => ?_)
  exact xm_ret cx hr hlocks hw (⟨by rw [hq9.1, hq6.1], FX_SP hf6 hv.2.1 hr6 hq6.1 hq9.2⟩) dX1_play_12
set_option maxHeartbeats 4000000 in
set_option maxRecDepth 100000 in
theorem c_X1_buy (l : Launch) (i : Int) (g : XS) (T : TT) (hf : FX g T) (hv : VT T) (hkb : (-2147483648 ≤ i ∧ i ≤ 2147483647)) : xmMi l yX1_buy (wU yX1_buy cX1_buy 2 (some .int)) ({ frames := 3, cells := 0, slots := 0, locals := 106 } : Room) [.int (iN i)] g (fun z g1 => z = (buyO T.1 i).1 ∧ FX g1 (stepT T (buyO T.1 i))) := by
  refine xmMi_of (by decide) (Nat.le_of_ble_eq_true rfl) ?_
  intro p e s m args below meth c D ci tb ad ga A ls cx hr hlocks hK hA hT hw hl
  have hx := cx.1
  have hb := cx.2.1
  have hl : lv_has ls 2 [(0, .ref (ad 0)), (1, .int (iN i))] := hl
  have hob := op_b hv.1
  refine lv_aload_n hx hb dX1_buy_0 rfl (lv_at hl 0 rfl) ?_
  refine lv_aload_n hx hb dX1_buy_1 rfl (lv_at hl 0 rfl) ?_
  refine xm_callq (rest := [.ref (ad 0)]) cx hK hT hA hw hl (c_X1_copyOfNow l g (FX_13 hf hv)) tg_RX1_35 ⟨rfl, rfl⟩ 0 rfl (by decide +kernel) ⟨Nat.le_of_ble_eq_true rfl, Nat.le_of_ble_eq_true rfl⟩ ⟨Nat.zero_le _, Nat.zero_le _⟩ (Nat.le_of_ble_eq_true rfl) dX1_buy_2 (rfl) (fun ga2 g2 H locs hq2 hw => ?_)
  obtain ⟨x2, hx2, hc2⟩ := hq2
  have hr2 : RX (g2 1) T.1 := by rw [hx2, ux_s]; exact RX_CE hf.1 hc2
  have hf2 : FX g2 T := by rw [hx2]; exact FX_spare hf (fun i hi => ux_n _ _ hi)
  refine lv_iload_n hx hb dX1_buy_5 rfl (lv_at hl 1 rfl) ?_
  refine xg_calli (rest := [.ref (ad 0)]) cx hK hT hA hw hl 1 (by decide) (c_X0_buyCard l i (g2 1) T.1 hr2 hv.1 (by omega)) tg_RX1_45 ⟨rfl, rfl⟩ 1 rfl (by decide +kernel) ⟨Nat.le_of_ble_eq_true rfl, Nat.le_of_ble_eq_true rfl⟩ ⟨Nat.zero_le _, Nat.zero_le _⟩ (Nat.le_of_ble_eq_true rfl) dX1_buy_6 (rfl) (fun z6 y6 H locs hq6 hw => ?_)
  obtain ⟨g6, hg6⟩ : ∃ q, q = ux g2 1 y6 := ⟨_, rfl⟩
  rw [← hg6] at hw
  have hr6 : RX (g6 1) (buyO T.1 i).2 := by rw [hg6, ux_s]; exact hq6.2
  have hf6 : FX g6 T := by rw [hg6]; exact FX_spare hf2 (fun i hi => ux_n _ _ hi)
  refine xm_calli (rest := []) cx hK hT hA hw hl (c_X1_settle l z6 g6 (FX_3 hf6 hv) (by have := hob.2.1 i; rw [hq6.1]; omega)) tg_RX1_39 ⟨rfl, rfl⟩ 1 rfl (by decide +kernel) ⟨Nat.le_of_ble_eq_true rfl, Nat.le_of_ble_eq_true rfl⟩ ⟨Nat.zero_le _, Nat.zero_le _⟩ (Nat.le_of_ble_eq_true rfl) dX1_buy_9 (rfl) (fun z9 ga9 g9 H locs hq9 hw => ?_)
  exact xm_ret cx hr hlocks hw (⟨by rw [hq9.1, hq6.1], FX_SP hf6 hv.2.1 hr6 hq6.1 hq9.2⟩) dX1_buy_12
set_option maxHeartbeats 4000000 in
set_option maxRecDepth 100000 in
theorem c_X1_scrap (l : Launch) (i : Int) (g : XS) (T : TT) (hf : FX g T) (hv : VT T) (hkb : (-2147483648 ≤ i ∧ i ≤ 2147483647)) : xmMi l yX1_scrap (wU yX1_scrap cX1_scrap 2 (some .int)) ({ frames := 3, cells := 0, slots := 0, locals := 109 } : Room) [.int (iN i)] g (fun z g1 => z = (scrO T.1 i).1 ∧ FX g1 (stepT T (scrO T.1 i))) := by
  refine xmMi_of (by decide) (Nat.le_of_ble_eq_true rfl) ?_
  intro p e s m args below meth c D ci tb ad ga A ls cx hr hlocks hK hA hT hw hl
  have hx := cx.1
  have hb := cx.2.1
  have hl : lv_has ls 2 [(0, .ref (ad 0)), (1, .int (iN i))] := hl
  have hob := op_b hv.1
  refine lv_aload_n hx hb dX1_scrap_0 rfl (lv_at hl 0 rfl) ?_
  refine lv_aload_n hx hb dX1_scrap_1 rfl (lv_at hl 0 rfl) ?_
  refine xm_callq (rest := [.ref (ad 0)]) cx hK hT hA hw hl (c_X1_copyOfNow l g (FX_13 hf hv)) tg_RX1_35 ⟨rfl, rfl⟩ 0 rfl (by decide +kernel) ⟨Nat.le_of_ble_eq_true rfl, Nat.le_of_ble_eq_true rfl⟩ ⟨Nat.zero_le _, Nat.zero_le _⟩ (Nat.le_of_ble_eq_true rfl) dX1_scrap_2 (rfl) (fun ga2 g2 H locs hq2 hw => ?_)
  obtain ⟨x2, hx2, hc2⟩ := hq2
  have hr2 : RX (g2 1) T.1 := by rw [hx2, ux_s]; exact RX_CE hf.1 hc2
  have hf2 : FX g2 T := by rw [hx2]; exact FX_spare hf (fun i hi => ux_n _ _ hi)
  refine lv_iload_n hx hb dX1_scrap_5 rfl (lv_at hl 1 rfl) ?_
  refine xg_calli (rest := [.ref (ad 0)]) cx hK hT hA hw hl 1 (by decide) (c_X0_scrapCard l i (g2 1) T.1 hr2 hv.1 (by omega)) tg_RX1_48 ⟨rfl, rfl⟩ 1 rfl (by decide +kernel) ⟨Nat.le_of_ble_eq_true rfl, Nat.le_of_ble_eq_true rfl⟩ ⟨Nat.zero_le _, Nat.zero_le _⟩ (Nat.le_of_ble_eq_true rfl) dX1_scrap_6 (rfl) (fun z6 y6 H locs hq6 hw => ?_)
  obtain ⟨g6, hg6⟩ : ∃ q, q = ux g2 1 y6 := ⟨_, rfl⟩
  rw [← hg6] at hw
  have hr6 : RX (g6 1) (scrO T.1 i).2 := by rw [hg6, ux_s]; exact hq6.2
  have hf6 : FX g6 T := by rw [hg6]; exact FX_spare hf2 (fun i hi => ux_n _ _ hi)
  refine xm_calli (rest := []) cx hK hT hA hw hl (c_X1_settle l z6 g6 (FX_3 hf6 hv) (by have := hob.2.2.1 i; rw [hq6.1]; omega)) tg_RX1_39 ⟨rfl, rfl⟩ 1 rfl (by decide +kernel) ⟨Nat.le_of_ble_eq_true rfl, Nat.le_of_ble_eq_true rfl⟩ ⟨Nat.zero_le _, Nat.zero_le _⟩ (Nat.le_of_ble_eq_true rfl) dX1_scrap_9 (rfl) (fun z9 ga9 g9 H locs hq9 hw => ?_)
  exact xm_ret cx hr hlocks hw (⟨by rw [hq9.1, hq6.1], FX_SP hf6 hv.2.1 hr6 hq6.1 hq9.2⟩) dX1_scrap_12
set_option maxHeartbeats 4000000 in
set_option maxRecDepth 100000 in
theorem c_X1_end (l : Launch) (g : XS) (T : TT) (hf : FX g T) (hv : VT T) : xmMi l yX1_end (wU yX1_end cX1_end 1 (some .int)) ({ frames := 4, cells := 0, slots := 0, locals := 132 } : Room) [] g (fun z g1 => z = (endO T.1).1 ∧ FX g1 (stepT T (endO T.1))) := by
  refine xmMi_of (by decide) (Nat.le_of_ble_eq_true rfl) ?_
  intro p e s m args below meth c D ci tb ad ga A ls cx hr hlocks hK hA hT hw hl
  have hx := cx.1
  have hb := cx.2.1
  have hl : lv_has ls 1 [(0, .ref (ad 0))] := hl
  have hob := op_b hv.1
  refine lv_aload_n hx hb dX1_end_0 rfl (lv_at hl 0 rfl) ?_
  refine lv_aload_n hx hb dX1_end_1 rfl (lv_at hl 0 rfl) ?_
  refine xm_callq (rest := [.ref (ad 0)]) cx hK hT hA hw hl (c_X1_copyOfNow l g (FX_13 hf hv)) tg_RX1_35 ⟨rfl, rfl⟩ 0 rfl (by decide +kernel) ⟨Nat.le_of_ble_eq_true rfl, Nat.le_of_ble_eq_true rfl⟩ ⟨Nat.zero_le _, Nat.zero_le _⟩ (Nat.le_of_ble_eq_true rfl) dX1_end_2 (rfl) (fun ga2 g2 H locs hq2 hw => ?_)
  obtain ⟨x2, hx2, hc2⟩ := hq2
  have hr2 : RX (g2 1) T.1 := by rw [hx2, ux_s]; exact RX_CE hf.1 hc2
  have hf2 : FX g2 T := by rw [hx2]; exact FX_spare hf (fun i hi => ux_n _ _ hi)
  refine xg_calli (rest := [.ref (ad 0)]) cx hK hT hA hw hl 1 (by decide) (c_X0_endTurn l (g2 1) T.1 hr2 hv.1) tg_RX1_51 ⟨rfl, rfl⟩ 0 rfl (by decide +kernel) ⟨Nat.le_of_ble_eq_true rfl, Nat.le_of_ble_eq_true rfl⟩ ⟨Nat.zero_le _, Nat.zero_le _⟩ (Nat.le_of_ble_eq_true rfl) dX1_end_5 (rfl) (fun z5 y5 H locs hq5 hw => ?_)
  obtain ⟨g5, hg5⟩ : ∃ q, q = ux g2 1 y5 := ⟨_, rfl⟩
  rw [← hg5] at hw
  have hr5 : RX (g5 1) (endO T.1).2 := by rw [hg5, ux_s]; exact hq5.2
  have hf5 : FX g5 T := by rw [hg5]; exact FX_spare hf2 (fun i hi => ux_n _ _ hi)
  refine xm_calli (rest := []) cx hK hT hA hw hl (c_X1_settle l z5 g5 (FX_3 hf5 hv) (by have := hob.2.2.2.1; rw [hq5.1]; omega)) tg_RX1_39 ⟨rfl, rfl⟩ 1 rfl (by decide +kernel) ⟨Nat.le_of_ble_eq_true rfl, Nat.le_of_ble_eq_true rfl⟩ ⟨Nat.zero_le _, Nat.zero_le _⟩ (Nat.le_of_ble_eq_true rfl) dX1_end_8 (rfl) (fun z8 ga8 g8 H locs hq8 hw => ?_)
  exact xm_ret cx hr hlocks hw (⟨by rw [hq8.1, hq5.1], FX_SP hf5 hv.2.1 hr5 hq5.1 hq8.2⟩) dX1_end_11
theorem FX_er {g : XS} {T : TT} {O : Int × StT} (hf : FX g T) (h : O.1 < 0) : FX g (stepT T O) := by
  unfold stepT
  rw [if_pos h]
  exact hf
set_option maxHeartbeats 4000000 in
set_option maxRecDepth 100000 in
theorem c_X1_alike (l : Launch) (t : Int) (g : XS) (T : TT) (hf : FX g T) (hv : VT T) (hkb : (-2147483648 ≤ t ∧ t ≤ 2147483647)) : xmMi l yX1_alike (wU yX1_alike cX1_alike 2 (some .int)) ({ frames := 6, cells := 0, slots := 0, locals := 179 } : Room) [.int (iN t)] g (fun z g1 => z = (alikeO T.1 t).1 ∧ FX g1 (stepT T (alikeO T.1 t))) := by
  refine xmMi_of (by decide) (Nat.le_of_ble_eq_true rfl) ?_
  intro p e s m args below meth c D ci tb ad ga A ls cx hr hlocks hK hA hT hw hl
  have hx := cx.1
  have hb := cx.2.1
  have hl : lv_has ls 2 [(0, .ref (ad 0)), (1, .int (iN t))] := hl
  have h13 := FX_13 hf hv
  have e13 := hf.1.1.2.2.2.2.2.2.2.2.2.1
  refine lv_iload_n hx hb dX1_alike_0 rfl (lv_at hl 1 rfl) ?_
  refine ts_iconst hx hb dX1_alike_1 ?_
  refine ts_icmp_lt (tgt := 11) hx hb (by omega) dX1_alike_2 (by decide) (fun c2 => ?_) (fun c2 => ?_)
  · skip
    have hR : alikeO T.1 t = (-1000001, T.1) := by
      unfold alikeO
      rw [if_pos (by omega)]
    refine ts_ldc (z := -1000001) hx hb cx.2.2.2.1 cx.2.2.2.2 tk_RX1_55 dX1_alike_11 ?_
    exact xm_ret cx hr hlocks hw (by rw [hR]; exact ⟨rfl, FX_er hf (show (-1000001 : Int) < 0 by decide)⟩) dX1_alike_13
  · skip
    refine lv_iload_n hx hb dX1_alike_5 rfl (lv_at hl 1 rfl) ?_
    refine ts_bipush hx hb dX1_alike_6 (by decide) ?_
    refine ts_icmp_le (tgt := 14) hx hb (by omega) dX1_alike_8 (by decide) (fun c8 => ?_) (fun c8 => ?_)
    · skip
      refine lv_aload_n hx hb dX1_alike_14 rfl (lv_at hl 0 rfl) ?_
      refine xp_get0 cx hK hw tl_RX1_10 dX1_alike_15 ?_
      refine gm_get13 (ad := ga 0) cx (xm_K0 hK) (xg_B 0 (by decide) hw) tl_RX1_56 dX1_alike_18 (fun z18 hz18 => ?_)
      refine ts_if_eq (tgt := 27) hx hb (by omega) dX1_alike_21 (by decide) (fun c21 => ?_) (fun c21 => ?_)
      · skip
        have hR : alikeO T.1 t = goesA t.toNat T.1 := by
          unfold alikeO
          rw [if_neg (by omega), if_neg (by omega)]
        have hgb := VS_goes t.toNat T.1 hv.1
        refine lv_aload_n hx hb dX1_alike_27 rfl (lv_at hl 0 rfl) ?_
        refine lv_aload_n hx hb dX1_alike_28 rfl (lv_at hl 0 rfl) ?_
        refine xm_callq (rest := [.ref (ad 0)]) cx hK hT hA hw hl (c_X1_copyOfNow l g (FX_13 hf hv)) tg_RX1_35 ⟨rfl, rfl⟩ 0 rfl (by decide +kernel) ⟨Nat.le_of_ble_eq_true rfl, Nat.le_of_ble_eq_true rfl⟩ ⟨Nat.zero_le _, Nat.zero_le _⟩ (Nat.le_of_ble_eq_true rfl) dX1_alike_29 (rfl) (fun ga29 g29 H locs hq29 hw => ?_)
        obtain ⟨x29, hx29, hc29⟩ := hq29
        have hr29 : RX (g29 1) T.1 := by rw [hx29, ux_s]; exact RX_CE hf.1 hc29
        have hf29 : FX g29 T := by rw [hx29]; exact FX_spare hf (fun i hi => ux_n _ _ hi)
        refine lv_iload_n hx hb dX1_alike_32 rfl (lv_at hl 1 rfl) ?_
        refine xg_calli (rest := [.ref (ad 0)]) cx hK hT hA hw hl 1 (by decide) (c_X0_goOnAlike l t.toNat (g29 1) T.1 hr29 hv.1 (by omega)) tg_RX1_61 ⟨rfl, rfl⟩ 1 rfl (by decide +kernel) ⟨Nat.le_of_ble_eq_true rfl, Nat.le_of_ble_eq_true rfl⟩ ⟨Nat.zero_le _, Nat.zero_le _⟩ (Nat.le_of_ble_eq_true rfl) dX1_alike_33 (by rw [nn_to (x := t) (by omega)]; rfl) (fun z33 y33 H locs hq33 hw => ?_)
        obtain ⟨g33, hg33⟩ : ∃ q, q = ux g29 1 y33 := ⟨_, rfl⟩
        rw [← hg33] at hw
        have hr33 : RX (g33 1) (alikeO T.1 t).2 := by rw [hg33, ux_s, hR]; exact hq33.2
        have hf33 : FX g33 T := by rw [hg33]; exact FX_spare hf29 (fun i hi => ux_n _ _ hi)
        have hz33 : z33 = (alikeO T.1 t).1 := by rw [hR]; exact hq33.1
        refine xm_calli (rest := []) cx hK hT hA hw hl (c_X1_settle l z33 g33 (FX_3 hf33 hv) (by rw [hz33, hR]; omega)) tg_RX1_39 ⟨rfl, rfl⟩ 1 rfl (by decide +kernel) ⟨Nat.le_of_ble_eq_true rfl, Nat.le_of_ble_eq_true rfl⟩ ⟨Nat.zero_le _, Nat.zero_le _⟩ (Nat.le_of_ble_eq_true rfl) dX1_alike_36 (rfl) (fun z36 ga36 g36 H locs hq36 hw => ?_)
        exact xm_ret cx hr hlocks hw (⟨by rw [hq36.1, hz33], FX_SP hf33 hv.2.1 hr33 hz33 hq36.2⟩) dX1_alike_39
      · skip
        have hR : alikeO T.1 t = (-1000002, T.1) := by
          unfold alikeO
          rw [if_neg (by omega), if_pos (by omega)]
        refine ts_ldc (z := -1000002) hx hb cx.2.2.2.1 cx.2.2.2.2 tk_RX1_60 dX1_alike_24 ?_
        exact xm_ret cx hr hlocks hw (by rw [hR]; exact ⟨rfl, FX_er hf (show (-1000002 : Int) < 0 by decide)⟩) dX1_alike_26
    · skip
      have hR : alikeO T.1 t = (-1000001, T.1) := by
        unfold alikeO
        rw [if_pos (by omega)]
      refine ts_ldc (z := -1000001) hx hb cx.2.2.2.1 cx.2.2.2.2 tk_RX1_55 dX1_alike_11 ?_
      exact xm_ret cx hr hlocks hw (by rw [hR]; exact ⟨rfl, FX_er hf (show (-1000001 : Int) < 0 by decide)⟩) dX1_alike_13
theorem RX_set {g : GS} {S : StT} (h : RX g S) (v : Int) : RX (u2 g 4 11 v) (uf S.1 9 v, S.2) := by
  obtain ⟨⟨r0, r1, r2, r3, r4, r5, r6, r9, r7, r8, rp, rq⟩, hp⟩ := h
  have e : ∀ j : Nat, j ≠ 11 → u2 g 4 11 v 4 j = g 4 j := fun j hj => u2_k _ hj
  have a : ∀ a j : Nat, a ≠ 4 → u2 g 4 11 v a j = g a j := fun a j ha => u2_a _ ha
  have f : ∀ j : Nat, j ≠ 9 → uf S.1 9 v j = S.1 j := fun j hj => uf_n _ _ hj
  refine ⟨⟨?_, ?_, ?_, ?_, ?_, ?_, ?_, ?_, ?_, ?_, fun k hk => ?_, fun k hk => ?_⟩, by rw [a _ _ (by decide)]; exact hp.1, fun r hr => by rw [a _ _ (by decide), a _ _ (by decide)]; exact hp.2.1 r hr, fun r hr k hk => by rw [a _ _ (by decide), a _ _ (by decide)]; exact hp.2.2.1 r hr k hk, by rw [a _ _ (by decide)]; exact hp.2.2.2⟩
  · rw [e _ (by decide)]; show _ = uf S.1 9 v 0; rw [f _ (by decide)]; exact r0
  · rw [e _ (by decide)]; show _ = uf S.1 9 v 1; rw [f _ (by decide)]; exact r1
  · rw [e _ (by decide)]; show _ = uf S.1 9 v 2; rw [f _ (by decide)]; exact r2
  · rw [e _ (by decide)]; show _ = uf S.1 9 v 3; rw [f _ (by decide)]; exact r3
  · rw [e _ (by decide)]; show _ = uf S.1 9 v 4; rw [f _ (by decide)]; exact r4
  · rw [e _ (by decide)]; show _ = uf S.1 9 v 5; rw [f _ (by decide)]; exact r5
  · rw [e _ (by decide)]; show _ = uf S.1 9 v 6; rw [f _ (by decide)]; exact r6
  · rw [u2_s]; show _ = uf S.1 9 v 9; rw [uf_s]
  · rw [e _ (by decide)]; show _ = uf S.1 9 v 7; rw [f _ (by decide)]; exact r7
  · rw [e _ (by decide)]; show _ = uf S.1 9 v 8; rw [f _ (by decide)]; exact r8
  · rw [a _ _ (by decide)]; show _ = uf S.1 9 v (10 + k); rw [f _ (by omega)]; exact rp k hk
  · rw [a _ _ (by decide)]; show _ = uf S.1 9 v (20 + k); rw [f _ (by omega)]; exact rq k hk
set_option maxHeartbeats 4000000 in
set_option maxRecDepth 100000 in
theorem c_X1_set (l : Launch) (what v : Int) (g : XS) (T : TT) (hf : FX g T) (hv : VT T) (hkb : (-2147483648 ≤ what ∧ what ≤ 2147483647) ∧ (-2147483648 ≤ v ∧ v ≤ 2147483647)) : xmMi l yX1_set (wU yX1_set cX1_set 4 (some .int)) ({ frames := 3, cells := 0, slots := 0, locals := 101 } : Room) [.int (iN what), .int (iN v)] g (fun z g1 => z = (setO T.1 what v).1 ∧ FX g1 (stepT T (setO T.1 what v))) := by
  refine xmMi_of (by decide) (Nat.le_of_ble_eq_true rfl) ?_
  intro p e s m args below meth c D ci tb ad ga A ls cx hr hlocks hK hA hT hw hl
  have hx := cx.1
  have hb := cx.2.1
  have hl : lv_has ls 4 [(0, .ref (ad 0)), (1, .int (iN what)), (2, .int (iN v))] := hl
  have h11 := hf.1.1.2.2.2.2.2.2.2.1
  have hvb := VS_nums hv.1
  refine lv_iload_n hx hb dX1_set_0 rfl (lv_at hl 1 rfl) ?_
  refine ts_if_ne (tgt := 14) hx hb (by omega) dX1_set_1 (by decide) (fun c1 => ?_) (fun c1 => ?_)
  · skip
    have hR : setO T.1 what v = (-1000001, T.1) := by
      unfold setO
      rw [if_pos (by omega)]
    refine ts_ldc (z := -1000001) hx hb cx.2.2.2.1 cx.2.2.2.2 tk_RX1_55 dX1_set_14 ?_
    exact xm_ret cx hr hlocks hw (by rw [hR]; exact ⟨rfl, FX_er hf (show (-1000001 : Int) < 0 by decide)⟩) dX1_set_16
  · skip
    refine lv_iload_n hx hb dX1_set_4 rfl (lv_at hl 2 rfl) ?_
    refine ts_if_lt (tgt := 14) hx hb (by omega) dX1_set_5 (by decide) (fun c5 => ?_) (fun c5 => ?_)
    · skip
      have hR : setO T.1 what v = (-1000001, T.1) := by
        unfold setO
        rw [if_pos (by omega)]
      refine ts_ldc (z := -1000001) hx hb cx.2.2.2.1 cx.2.2.2.2 tk_RX1_55 dX1_set_14 ?_
      exact xm_ret cx hr hlocks hw (by rw [hR]; exact ⟨rfl, FX_er hf (show (-1000001 : Int) < 0 by decide)⟩) dX1_set_16
    · skip
      refine lv_iload_n hx hb dX1_set_8 rfl (lv_at hl 2 rfl) ?_
      refine ts_bipush hx hb dX1_set_9 (by decide) ?_
      refine ts_icmp_le (tgt := 17) hx hb (by omega) dX1_set_11 (by decide) (fun c11 => ?_) (fun c11 => ?_)
      · skip
        have hR : setO T.1 what v = (T.1.1 9, (uf T.1.1 9 v, T.1.2)) := by
          unfold setO
          rw [if_neg (by omega)]
        refine lv_aload_n hx hb dX1_set_17 rfl (lv_at hl 0 rfl) ?_
        refine xp_get0 cx hK hw tl_RX1_10 dX1_set_18 ?_
        refine gm_get11 (ad := ga 0) cx (xm_K0 hK) (xg_B 0 (by decide) hw) tl_RX1_27 dX1_set_21 (fun z21 hz21 => ?_)
        refine lv_istore_n (lv' := [(3, .int (iN z21)), (0, .ref (ad 0)), (1, .int (iN what)), (2, .int (iN v))]) hx hb dX1_set_24 rfl hl (by decide) rfl (fun ls hl => ?_)
        refine lv_aload_n hx hb dX1_set_25 rfl (lv_at hl 1 rfl) ?_
        refine xm_callq (rest := []) cx hK hT hA hw hl (c_X1_copyOfNow l g (FX_13 hf hv)) tg_RX1_35 ⟨rfl, rfl⟩ 0 rfl (by decide +kernel) ⟨Nat.le_of_ble_eq_true rfl, Nat.le_of_ble_eq_true rfl⟩ ⟨Nat.zero_le _, Nat.zero_le _⟩ (Nat.le_of_ble_eq_true rfl) dX1_set_26 (rfl) (fun ga26 g26 H locs hq26 hw => ?_)
        obtain ⟨x26, hx26, hc26⟩ := hq26
        have hr26 : RX (g26 1) T.1 := by rw [hx26, ux_s]; exact RX_CE hf.1 hc26
        have hf26 : FX g26 T := by rw [hx26]; exact FX_spare hf (fun i hi => ux_n _ _ hi)
        refine lv_iload_n hx hb dX1_set_29 rfl (lv_at hl 3 rfl) ?_
        refine xp_set1 cx hK hw tl_RX1_27 dX1_set_30 (fun g30 H locs hg30 hw => ?_)
        have hr30 : RX (g30 1) (setO T.1 what v).2 := by rw [hg30, ux_s, hR]; exact RX_set hr26 v
        have hf30 : FX g30 T := by rw [hg30]; exact FX_spare hf26 (fun i hi => ux_n _ _ hi)
        have hz21b : z21 = (setO T.1 what v).1 := by rw [hR]; show z21 = T.1.1 9; omega
        refine lv_aload_n hx hb dX1_set_33 rfl (lv_at hl 1 rfl) ?_
        refine lv_iload_n hx hb dX1_set_34 rfl (lv_at hl 0 rfl) ?_
        refine xm_calli (rest := []) cx hK hT hA hw hl (c_X1_settle l z21 g30 (FX_3 hf30 hv) (by omega)) tg_RX1_39 ⟨rfl, rfl⟩ 1 rfl (by decide +kernel) ⟨Nat.le_of_ble_eq_true rfl, Nat.le_of_ble_eq_true rfl⟩ ⟨Nat.zero_le _, Nat.zero_le _⟩ (Nat.le_of_ble_eq_true rfl) dX1_set_35 (rfl) (fun z35 ga35 g35 H locs hq35 hw => ?_)
        exact xm_ret cx hr hlocks hw (⟨by rw [hq35.1, hz21b], FX_SP hf30 hv.2.1 hr30 hz21b hq35.2⟩) dX1_set_38
      · skip
        have hR : setO T.1 what v = (-1000001, T.1) := by
          unfold setO
          rw [if_pos (by omega)]
        refine ts_ldc (z := -1000001) hx hb cx.2.2.2.1 cx.2.2.2.2 tk_RX1_55 dX1_set_14 ?_
        exact xm_ret cx hr hlocks hw (by rw [hR]; exact ⟨rfl, FX_er hf (show (-1000001 : Int) < 0 by decide)⟩) dX1_set_16
theorem CE_RX1 {g g1 : XS} {S : StT} (h : RX (g 0) S) (hq : ∃ x : GS, g1 = ux g 1 x ∧ CE x (g 0)) : RX (g1 1) S ∧ ∀ i : Nat, i ≠ 1 → g1 i = g i := by
  obtain ⟨x, rfl, hc⟩ := hq
  exact ⟨by rw [ux_s]; exact RX_CE h hc, fun i hi => ux_n _ _ hi⟩
theorem RX_13 {g : GS} {S : StT} (h : RX g S) (hv : VS S) : g 4 13 = 0 ∨ g 4 13 = 1 := by
  have h1 := h.1.2.2.2.2.2.2.2.2.2.1
  have h2 := (VS_nums hv).2.2.2.2.2.2.2.1
  rw [h1]
  exact h2
def afS (S : StT) (k : Nat) : StT := if k < 10 then buyA S k else S
theorem wou_af (S : StT) (k : Nat) : wouR S k = ptA (goesA 60 (afS S k)).2.2 (pl S) + 100 := rfl
theorem VS_af {S : StT} (h : VS S) {k : Nat} (hw : k < 10 → why S.1 k = 0) : VS (afS S k) := by
  unfold afS
  split
  · exact VS_buy h (by assumption) (hw (by assumption))
  · exact h
set_option maxHeartbeats 4000000 in
set_option maxRecDepth 100000 in
theorem c_X1_pointsAfter (l : Launch) (x : Int) (k : Nat) (g : XS) (S : StT) (hx0 : RX (g 0) S) (hv0 : VS S) (hk : x = (k : Int) ∧ k ≤ 10) (hkw : k < 10 → why S.1 k = 0) : xmMi l yX1_pointsAfter (wU yX1_pointsAfter cX1_pointsAfter 3 (some .int)) ({ frames := 6, cells := 0, slots := 0, locals := 179 } : Room) [.int (iN x)] g (fun z g1 => z = wouR S k - 100 ∧ ∀ i : Nat, i ≠ 1 → g1 i = g i) := by
  refine xmMi_of (by decide) (Nat.le_of_ble_eq_true rfl) ?_
  intro p e s m args below meth c D ci tb ad ga A ls cx hr hlocks hK hA hT hw hl
  have hx := cx.1
  have hb := cx.2.1
  have hl : lv_has ls 3 [(0, .ref (ad 0)), (1, .int (iN x))] := hl
  have hvb := VS_nums hv0
  have hpl := VS_pl hv0
  have h45 := hx0.1.2.1
  have hva := VS_af hv0 hkw
  have hvg := VS_goes 60 (afS S k) hva
  have hMg : ∀ gq : GS, RX gq (goesA 60 (afS S k)).2 → MX gq ∧ KX gq := fun gq hq => ⟨PX_M hq.2, PX_K hq.2 (VS_kinds hvg.1)⟩
  refine lv_aload_n hx hb dX1_pointsAfter_0 rfl (lv_at hl 0 rfl) ?_
  refine xm_callq (rest := []) cx hK hT hA hw hl (c_X1_copyOfNow l g (RX_13 hx0 hv0)) tg_RX1_35 ⟨rfl, rfl⟩ 0 rfl (by decide +kernel) ⟨Nat.le_of_ble_eq_true rfl, Nat.le_of_ble_eq_true rfl⟩ ⟨Nat.zero_le _, Nat.zero_le _⟩ (Nat.le_of_ble_eq_true rfl) dX1_pointsAfter_1 (rfl) (fun ga1 g1 H locs hq1 hw => ?_)
  obtain ⟨hr1, he1⟩ := CE_RX1 hx0 hq1
  refine lv_astore_n (lv' := [(2, .ref (ga1 1 0)), (0, .ref (ad 0)), (1, .int (iN x))]) hx hb dX1_pointsAfter_4 rfl hl (by decide) rfl (fun ls hl => ?_)
  have cut17 : ∀ (gc : XS) (hrc : RX (gc 1) (afS S k)) (hec : ∀ i : Nat, i ≠ 1 → gc i = g i) (gac : GA) (H : Heap) (locs : List Loc) (hw : xmB D A s ci ad gac gc H locs) (ls : Array Slot) (hl : lv_has ls 3 [(0, .ref (ad 0)), (1, .int (iN x)), (2, .ref (gac 1 0))]), W p l e ({ frames := 6, cells := 0, slots := 0, locals := 179 } : Room) s m args below meth c H locs 0 0 (xmQi D ci ad A below args s (fun z g1 => z = wouR S k - 100 ∧ ∀ i : Nat, i ≠ 1 → g1 i = g i)) (F0 m 17 ls []) := by
    intro gc hrc hec gac H locs hw ls hl
    refine lv_aload_n hx hb dX1_pointsAfter_17 rfl (lv_at hl 2 rfl) ?_
    refine ts_bipush hx hb dX1_pointsAfter_18 (by decide) ?_
    refine xg_calli (rest := []) cx hK hT hA hw hl 1 (by decide) (c_X0_goOnAlike l 60 (gc 1) (afS S k) hrc hva (by omega)) tg_RX1_61 ⟨rfl, rfl⟩ 1 rfl (by decide +kernel) ⟨Nat.le_of_ble_eq_true rfl, Nat.le_of_ble_eq_true rfl⟩ ⟨Nat.zero_le _, Nat.zero_le _⟩ (Nat.le_of_ble_eq_true rfl) dX1_pointsAfter_20 (rfl) (fun z20 y20 H locs hq20 hw => ?_)
    obtain ⟨g20, hg20⟩ : ∃ q, q = ux gc 1 y20 := ⟨_, rfl⟩
    rw [← hg20] at hw
    have hr20 : RX (g20 1) (goesA 60 (afS S k)).2 := by rw [hg20, ux_s]; exact hq20.2
    have he20 : ∀ i : Nat, i ≠ 1 → g20 i = g i := fun i hi => by rw [hg20, ux_n _ _ hi]; exact hec i hi
    have h20 := hMg _ hr20
    refine lv_pop hx hb dX1_pointsAfter_23 rfl ?_
    refine lv_aload_n hx hb dX1_pointsAfter_24 rfl (lv_at hl 2 rfl) ?_
    refine lv_aload_n hx hb dX1_pointsAfter_25 rfl (lv_at hl 0 rfl) ?_
    refine xp_get0 cx hK hw tl_RX1_10 dX1_pointsAfter_26 ?_
    refine gm_get5 (ad := gac 0) cx (xm_K0 hK) (xg_B 0 (by decide) hw) tl_RX1_103 dX1_pointsAfter_29 (fun z29 hz29 => ?_)
    refine tt_gso cx hT hw.2.2 7 (by decide) tl_RX1_80 dX1_pointsAfter_32 ?_
    refine gm_callt (ad := gac 1) (rest := []) cx (xm_K0 hK) hT hA (xg_B 1 (by decide) hw) hl (c_X0_sumOf l 7 (pl S) (g20 1) (by omega) hpl.1 h20.1 h20.2) tg_RX1_84 ⟨rfl, rfl⟩ 2 rfl (by decide +kernel) ⟨Nat.le_of_ble_eq_true rfl, Nat.le_of_ble_eq_true rfl⟩ ⟨Nat.zero_le _, Nat.zero_le _⟩ (Nat.le_of_ble_eq_true rfl) dX1_pointsAfter_35 (by rw [show z29 = ((pl S : Nat) : Int) by rw [hz29, he20 0 (by decide)]; omega]; rfl) (fun z35 hz35 => ?_)
    have hR : z35 = wouR S k - 100 := by
      rw [wou_af]
      have hq := pts4 hr20.2 hpl.1 hz35
      unfold ptA
      omega
    exact xm_ret cx hr hlocks hw (⟨hR, he20⟩) dX1_pointsAfter_38
  refine lv_iload_n hx hb dX1_pointsAfter_5 rfl (lv_at hl 2 rfl) ?_
  refine ts_bipush hx hb dX1_pointsAfter_6 (by decide) ?_
  refine ts_icmp_ge (tgt := 17) hx hb (by omega) dX1_pointsAfter_8 (by decide) (fun c8 => ?_) (fun c8 => ?_)
  · skip
    exact cut17 (g1) (by unfold afS; rw [if_neg (by omega)]; exact hr1) (he1) ga1 _ _ hw _ (lv_sub hl [1, 2, 0] rfl)
  · skip
    refine lv_aload_n hx hb dX1_pointsAfter_11 rfl (lv_at hl 0 rfl) ?_
    refine lv_iload_n hx hb dX1_pointsAfter_12 rfl (lv_at hl 2 rfl) ?_
    refine xg_calli (rest := []) cx hK hT hA hw hl 1 (by decide) (c_X0_buyCard l x (g1 1) S hr1 hv0 (by omega)) tg_RX1_45 ⟨rfl, rfl⟩ 1 rfl (by decide +kernel) ⟨Nat.le_of_ble_eq_true rfl, Nat.le_of_ble_eq_true rfl⟩ ⟨Nat.zero_le _, Nat.zero_le _⟩ (Nat.le_of_ble_eq_true rfl) dX1_pointsAfter_13 (rfl) (fun z13 y13 H locs hq13 hw => ?_)
    obtain ⟨g13, hg13⟩ : ∃ q, q = ux g1 1 y13 := ⟨_, rfl⟩
    rw [← hg13] at hw
    have hbO : buyO S x = (S.1 (10 + k) - 1, buyA S k) := by
      unfold buyO
      rw [show x.toNat = k by omega, if_neg (by omega), if_neg (by rw [hkw (by omega)]; decide)]
    have hr13 : RX (g13 1) (afS S k) := by
      unfold afS
      rw [if_pos (by omega), hg13, ux_s]
      have := hq13.2
      rw [hbO] at this
      exact this
    have he13 : ∀ i : Nat, i ≠ 1 → g13 i = g i := fun i hi => by rw [hg13, ux_n _ _ hi]; exact he1 i hi
    refine lv_pop hx hb dX1_pointsAfter_16 rfl ?_
    exact cut17 (g13) (hr13) (he13) ga1 _ _ hw _ (lv_sub hl [1, 2, 0] rfl)
set_option maxHeartbeats 4000000 in
set_option maxRecDepth 100000 in
theorem c_X1_outcome (l : Launch) (what : Int) (g : XS) (S : StT) (hx0 : RX (g 0) S) (hv0 : VS S) (hkb : (-2147483648 ≤ what ∧ what ≤ 2147483647)) : xmMi l yX1_outcome (wU yX1_outcome cX1_outcome 5 (some .int)) ({ frames := 6, cells := 0, slots := 0, locals := 179 } : Room) [.int (iN what)] g (fun z g1 => z = outR S what ∧ ∀ i : Nat, i ≠ 1 → g1 i = g i) := by
  refine xmMi_of (by decide) (Nat.le_of_ble_eq_true rfl) ?_
  intro p e s m args below meth c D ci tb ad ga A ls cx hr hlocks hK hA hT hw hl
  have hx := cx.1
  have hb := cx.2.1
  have hl : lv_has ls 5 [(0, .ref (ad 0)), (1, .int (iN what))] := hl
  have hvb := VS_nums hv0
  have hvg := VS_goes 60 S hv0
  have hvn := VS_nums hvg.1
  refine lv_iload_n hx hb dX1_outcome_0 rfl (lv_at hl 1 rfl) ?_
  refine ts_if_lt (tgt := 9) hx hb (by omega) dX1_outcome_1 (by decide) (fun c1 => ?_) (fun c1 => ?_)
  · skip
    have hR : outR S what = -1000001 := by
      unfold outR
      rw [if_pos (by omega)]
    refine ts_ldc (z := -1000001) hx hb cx.2.2.2.1 cx.2.2.2.2 tk_RX1_55 dX1_outcome_9 ?_
    exact xm_ret cx hr hlocks hw (⟨hR.symm, fun _ _ => rfl⟩) dX1_outcome_11
  · skip
    refine lv_iload_n hx hb dX1_outcome_4 rfl (lv_at hl 1 rfl) ?_
    refine ts_iconst hx hb dX1_outcome_5 ?_
    refine ts_icmp_le (tgt := 12) hx hb (by omega) dX1_outcome_6 (by decide) (fun c6 => ?_) (fun c6 => ?_)
    · skip
      refine lv_aload_n hx hb dX1_outcome_12 rfl (lv_at hl 0 rfl) ?_
      refine xm_callq (rest := []) cx hK hT hA hw hl (c_X1_copyOfNow l g (RX_13 hx0 hv0)) tg_RX1_35 ⟨rfl, rfl⟩ 0 rfl (by decide +kernel) ⟨Nat.le_of_ble_eq_true rfl, Nat.le_of_ble_eq_true rfl⟩ ⟨Nat.zero_le _, Nat.zero_le _⟩ (Nat.le_of_ble_eq_true rfl) dX1_outcome_13 (rfl) (fun ga13 g13 H locs hq13 hw => ?_)
      obtain ⟨hr13, he13⟩ := CE_RX1 hx0 hq13
      refine lv_astore_n (lv' := [(2, .ref (ga13 1 0)), (0, .ref (ad 0)), (1, .int (iN what))]) hx hb dX1_outcome_16 rfl hl (by decide) rfl (fun ls hl => ?_)
      refine lv_aload_n hx hb dX1_outcome_17 rfl (lv_at hl 0 rfl) ?_
      refine ts_bipush hx hb dX1_outcome_18 (by decide) ?_
      refine xg_calli (rest := []) cx hK hT hA hw hl 1 (by decide) (c_X0_goOnAlike l 60 (g13 1) S hr13 hv0 (by omega)) tg_RX1_61 ⟨rfl, rfl⟩ 1 rfl (by decide +kernel) ⟨Nat.le_of_ble_eq_true rfl, Nat.le_of_ble_eq_true rfl⟩ ⟨Nat.zero_le _, Nat.zero_le _⟩ (Nat.le_of_ble_eq_true rfl) dX1_outcome_20 (rfl) (fun z20 y20 H locs hq20 hw => ?_)
      obtain ⟨g20, hg20⟩ : ∃ q, q = ux g13 1 y20 := ⟨_, rfl⟩
      rw [← hg20] at hw
      have hr20 : RX (g20 1) (goesA 60 S).2 := by rw [hg20, ux_s]; exact hq20.2
      have he20 : ∀ i : Nat, i ≠ 1 → g20 i = g i := fun i hi => by rw [hg20, ux_n _ _ hi]; exact he13 i hi
      have hN20 := VS_NX hr20 hvg.1
      have hM20 := PX_M hr20.2
      have hK20 := PX_K hr20.2 (VS_kinds hvg.1)
      have hrs := hr20.1
      refine lv_istore_n (lv' := [(3, .int (iN z20)), (2, .ref (ga13 1 0)), (0, .ref (ad 0)), (1, .int (iN what))]) hx hb dX1_outcome_23 rfl hl (by decide) rfl (fun ls hl => ?_)
      refine lv_aload_n hx hb dX1_outcome_24 rfl (lv_at hl 1 rfl) ?_
      refine gm_callr (ad := ga13 1) (rest := []) cx (xm_K0 hK) hT hA (xg_B 1 (by decide) hw) hl (c_X0_leader l (g20 1) (goesA 60 S).2 hr20 hN20 (VS_kinds hvg.1)) tg_RX1_127 ⟨rfl, rfl⟩ 0 rfl (by decide +kernel) ⟨Nat.le_of_ble_eq_true rfl, Nat.le_of_ble_eq_true rfl⟩ ⟨Nat.zero_le _, Nat.zero_le _⟩ (Nat.le_of_ble_eq_true rfl) dX1_outcome_25 (rfl) (fun z25 hz25 => ?_)
      have hlb : leadN (goesA 60 S).2.2 ((goesA 60 S).2.1 0 - 1).toNat ≤ ((goesA 60 S).2.1 0 - 1).toNat := leadN_le _ _
      refine lv_istore (lv' := [(4, .int (iN z25)), (3, .int (iN z20)), (2, .ref (ga13 1 0)), (0, .ref (ad 0)), (1, .int (iN what))]) hx hb dX1_outcome_28 hl (by decide) rfl (fun ls hl => ?_)
      refine lv_iload_n hx hb dX1_outcome_30 rfl (lv_at hl 4 rfl) ?_
      by_cases c31 : what < 0 ∨ 3 < what
      · refine lv_tableOut (tgt := 91) hx hb dX1_outcome_31 (by rw [toInt_iN (by omega)]; exact c31) (by decide) ?_
        refine lv_aload_n hx hb dX1_outcome_91 rfl (lv_at hl 2 rfl) ?_
        refine gm_get2 (ad := ga13 1) cx (xm_K0 hK) (xg_B 1 (by decide) hw) tl_RX1_91 dX1_outcome_92 ?_
        refine ts_iconst hx hb dX1_outcome_95 ?_
        refine gm_ld2 (ad := ga13 1) cx (xm_K0 hK) (xg_B 1 (by decide) hw) (5) (by omega) dX1_outcome_96 (fun z96 hz96 => ?_)
        have h15 := hrs.2.2.2.2.2.2.2.2.2.2.1 5 (by decide)
        have hR : outR S what = z96 := by
          unfold outR
          rw [if_neg (by omega), if_neg (by omega), if_neg (by omega), if_neg (by omega), if_neg (by omega), hz96, h15]
        exact xm_ret cx hr hlocks hw (⟨hR.symm, he20⟩) dX1_outcome_97
      · have c31_ : what = 0 ∨ what = 1 ∨ what = 2 ∨ what = 3 := by omega
        rcases c31_ with c31 | c31 | c31 | c31
        · refine lv_tableIn (off := 29) (tgt := 60) hx hb dX1_outcome_31 (by rw [toInt_iN (by omega)]; omega) (by rw [toInt_iN (by omega)]; omega) (by rw [toInt_iN (by omega), c31]; rfl) (by decide) ?_
          refine lv_iload hx hb dX1_outcome_60 (lv_at hl 0 rfl) ?_
          have hR : outR S what = z25 := by
            unfold outR
            rw [if_neg (by omega), if_pos (by omega), hz25]
          exact xm_ret cx hr hlocks hw (⟨hR.symm, he20⟩) dX1_outcome_62
        · refine lv_tableIn (off := 32) (tgt := 63) hx hb dX1_outcome_31 (by rw [toInt_iN (by omega)]; omega) (by rw [toInt_iN (by omega)]; omega) (by rw [toInt_iN (by omega), c31]; rfl) (by decide) ?_
          refine lv_aload_n hx hb dX1_outcome_63 rfl (lv_at hl 2 rfl) ?_
          refine lv_iload hx hb dX1_outcome_64 (lv_at hl 0 rfl) ?_
          refine tt_gso cx hT hw.2.2 7 (by decide) tl_RX1_80 dX1_outcome_66 ?_
          refine gm_callt (ad := ga13 1) (rest := []) cx (xm_K0 hK) hT hA (xg_B 1 (by decide) hw) hl (c_X0_sumOf l 7 (leadN (goesA 60 S).2.2 ((goesA 60 S).2.1 0 - 1).toNat) (g20 1) (by omega) (by omega) hM20 hK20) tg_RX1_84 ⟨rfl, rfl⟩ 2 rfl (by decide +kernel) ⟨Nat.le_of_ble_eq_true rfl, Nat.le_of_ble_eq_true rfl⟩ ⟨Nat.zero_le _, Nat.zero_le _⟩ (Nat.le_of_ble_eq_true rfl) dX1_outcome_69 (by rw [hz25]; rfl) (fun z69 hz69 => ?_)
          refine ts_bipush hx hb dX1_outcome_72 (by decide) ?_
          refine ts_iadd hx hb dX1_outcome_74 (fun z74 hz74 => ?_)
          have hq := pts4 hr20.2 (by omega) hz69
          have hR : outR S what = z74 := by
            unfold outR
            rw [if_neg (by omega), if_neg (by omega), if_pos (by omega), hz74]
            unfold ptA
            omega
          exact xm_ret cx hr hlocks hw (⟨hR.symm, he20⟩) dX1_outcome_75
        · refine lv_tableIn (off := 45) (tgt := 76) hx hb dX1_outcome_31 (by rw [toInt_iN (by omega)]; omega) (by rw [toInt_iN (by omega)]; omega) (by rw [toInt_iN (by omega), c31]; rfl) (by decide) ?_
          refine lv_iload_n hx hb dX1_outcome_76 rfl (lv_at hl 1 rfl) ?_
          have hR : outR S what = z20 := by
            unfold outR
            rw [if_neg (by omega), if_neg (by omega), if_neg (by omega), if_pos (by omega), hq20.1]
          exact xm_ret cx hr hlocks hw (⟨hR.symm, he20⟩) dX1_outcome_77
        · refine lv_tableIn (off := 47) (tgt := 78) hx hb dX1_outcome_31 (by rw [toInt_iN (by omega)]; omega) (by rw [toInt_iN (by omega)]; omega) (by rw [toInt_iN (by omega), c31]; rfl) (by decide) ?_
          refine lv_aload_n hx hb dX1_outcome_78 rfl (lv_at hl 2 rfl) ?_
          refine gm_get13 (ad := ga13 1) cx (xm_K0 hK) (xg_B 1 (by decide) hw) tl_RX1_56 dX1_outcome_79 (fun z79 hz79 => ?_)
          have h8 := hrs.2.2.2.2.2.2.2.2.2.1
          refine ts_if_eq (tgt := 89) hx hb (by omega) dX1_outcome_82 (by decide) (fun c82 => ?_) (fun c82 => ?_)
          · skip
            have h8 := hrs.2.2.2.2.2.2.2.2.2.1
            have hR : outR S what = 0 := by
              unfold outR
              rw [if_neg (by omega), if_neg (by omega), if_neg (by omega), if_neg (by omega), if_pos (by omega)]
              omega
            refine ts_iconst hx hb dX1_outcome_89 ?_
            exact xm_ret cx hr hlocks hw (⟨hR.symm, he20⟩) dX1_outcome_90
          · skip
            have h8 := hrs.2.2.2.2.2.2.2.2.2.1
            have hR : outR S what = 1 := by
              unfold outR
              rw [if_neg (by omega), if_neg (by omega), if_neg (by omega), if_neg (by omega), if_pos (by omega)]
              omega
            refine ts_iconst hx hb dX1_outcome_85 ?_
            refine lv_goto (tgt := 90) hx hb dX1_outcome_86 (by decide) ?_
            exact xm_ret cx hr hlocks hw (⟨hR.symm, he20⟩) dX1_outcome_90
    · skip
      have hR : outR S what = -1000001 := by
        unfold outR
        rw [if_pos (by omega)]
      refine ts_ldc (z := -1000001) hx hb cx.2.2.2.1 cx.2.2.2.2 tk_RX1_55 dX1_outcome_9 ?_
      exact xm_ret cx hr hlocks hw (⟨hR.symm, fun _ _ => rfl⟩) dX1_outcome_11
theorem setN_0 (sc : SCT) : ∀ n : Nat, (∀ j : Nat, j < n → why sc j ≠ 0) → setN sc n = 0
  | 0, _ => rfl
  | n + 1, h => by
    show setN sc n + (if why sc n = 0 then 2 ^ n else 0) = 0
    rw [setN_0 sc n (fun j hj => h j (by omega)), if_neg (h n (by omega))]
    rfl
/-- what advice has found so far -/
def AV (S : StT) (k : Nat) (best most : Int) : Prop := (best = 10 ∧ most = 0 ∧ advM S k = (-1000004, 0) ∧ ∀ j : Nat, j < k → why S.1 j ≠ 0) ∨ (0 ≤ best ∧ best < 10 ∧ advM S k = (best, most + 100))
theorem AV_no {S : StT} {k : Nat} {b m : Int} (hk : k < 10) (h : AV S k b m) (hw : why S.1 k ≠ 0) : AV S (k + 1) b m := by
  have e : advM S (k + 1) = advM S k := by
    show (if (k = 10 ∨ why S.1 k = 0) ∧ ((advM S k).1 = -1000004 ∨ (advM S k).2 < wouR S k) then ((k : Int), wouR S k) else advM S k) = _
    rw [if_neg (fun q => q.1.elim (fun h => by omega) hw)]
  unfold AV
  rw [e]
  rcases h with ⟨h1, h2, h3, h4⟩ | h
  · refine Or.inl ⟨h1, h2, h3, fun j hj => ?_⟩
    by_cases q : j = k
    · rw [q]; exact hw
    · exact h4 j (by omega)
  · exact Or.inr h
theorem AV_yes {S : StT} {k : Nat} {b m z : Int} (hk : k < 10) (h : AV S k b m) (hw : why S.1 k = 0) (hz : z = wouR S k - 100) (hc : b = 10 ∨ m < z) : AV S (k + 1) k z := by
  have e : advM S (k + 1) = ((k : Int), wouR S k) := by
    show (if (k = 10 ∨ why S.1 k = 0) ∧ ((advM S k).1 = -1000004 ∨ (advM S k).2 < wouR S k) then ((k : Int), wouR S k) else advM S k) = _
    have hq : (advM S k).1 = -1000004 ∨ (advM S k).2 < wouR S k := by
      rcases h with ⟨h1, h2, h3, h4⟩ | ⟨h1, h2, h3⟩
      · exact Or.inl (by rw [h3])
      · exact Or.inr (by rw [h3]; show m + 100 < wouR S k; omega)
    rw [if_pos ⟨Or.inr hw, hq⟩]
  unfold AV
  rw [e]
  exact Or.inr ⟨by omega, by omega, by rw [hz, Int.sub_add_cancel]⟩
theorem AV_same {S : StT} {k : Nat} {b m z : Int} (hk : k < 10) (h : AV S k b m) (hz : z = wouR S k - 100) (hc : b ≠ 10 ∧ z ≤ m) : AV S (k + 1) b m := by
  rcases h with ⟨h1, h2, h3, h4⟩ | ⟨h1, h2, h3⟩
  · omega
  · have e : advM S (k + 1) = advM S k := by
      show (if (k = 10 ∨ why S.1 k = 0) ∧ ((advM S k).1 = -1000004 ∨ (advM S k).2 < wouR S k) then ((k : Int), wouR S k) else advM S k) = _
      rw [if_neg]
      rw [h3]
      intro q
      rcases q.2 with q | q
      · have : b = -1000004 := q
        omega
      · have : m + 100 < wouR S k := q
        omega
    unfold AV
    rw [e]
    exact Or.inr ⟨h1, h2, h3⟩
theorem AV_end {S : StT} {b m z : Int} (h : AV S 10 b m) (hs : setN S.1 10 ≠ 0) (hz : z = wouR S 10 - 100) : (m < z → advM S 11 = (10, z + 100)) ∧ (z ≤ m → advM S 11 = (b, m + 100)) := by
  have e : advM S 11 = (if ((10 : Nat) = 10 ∨ why S.1 10 = 0) ∧ ((advM S 10).1 = -1000004 ∨ (advM S 10).2 < wouR S 10) then (((10 : Nat) : Int), wouR S 10) else advM S 10) := rfl
  rcases h with ⟨h1, h2, h3, h4⟩ | ⟨h1, h2, h3⟩
  · exact absurd (setN_0 S.1 10 h4) hs
  · rw [e]
    constructor
    · intro hlt
      rw [if_pos ⟨Or.inl rfl, Or.inr (by rw [h3]; show m + 100 < wouR S 10; omega)⟩, hz, Int.sub_add_cancel]
      rfl
    · intro hle
      rw [if_neg, h3]
      rw [h3]
      intro q
      rcases q.2 with q | q
      · have : b = -1000004 := q
        omega
      · have : m + 100 < wouR S 10 := q
        omega
theorem wou_b {S : StT} (h : VS S) {k : Nat} (hw : k < 10 → why S.1 k = 0) : -9900 ≤ wouR S k ∧ wouR S k ≤ 10100 := by
  rw [wou_af]
  have := ptA_b (VS_goes 60 _ (VS_af h hw)).1 (p := pl S) (VS_pl h).1
  omega
set_option maxHeartbeats 4000000 in
set_option maxRecDepth 100000 in
theorem c_X1_advice (l : Launch) (what : Int) (g : XS) (S : StT) (hx0 : RX (g 0) S) (hv0 : VS S) (hkb : (-2147483648 ≤ what ∧ what ≤ 2147483647)) : xmMi l yX1_advice (wU yX1_advice cX1_advice 6 (some .int)) ({ frames := 7, cells := 0, slots := 0, locals := 201 } : Room) [.int (iN what)] g (fun z g1 => z = advR S what ∧ ∀ i : Nat, i ≠ 1 → g1 i = g i) := by
  refine xmMi_of (by decide) (Nat.le_of_ble_eq_true rfl) ?_
  intro p e s m args below meth c D ci tb ad ga A ls cx hr hlocks hK hA hT hw hl
  have hx := cx.1
  have hb := cx.2.1
  have hl : lv_has ls 6 [(0, .ref (ad 0)), (1, .int (iN what))] := hl
  have hN := VS_NX hx0 hv0
  have hvb := VS_nums hv0
  have hsb := setN_b S.1 10
  have hwb := @wou_b S hv0
  refine lv_iload_n hx hb dX1_advice_0 rfl (lv_at hl 1 rfl) ?_
  refine ts_if_lt (tgt := 9) hx hb (by omega) dX1_advice_1 (by decide) (fun c1 => ?_) (fun c1 => ?_)
  · skip
    have hR : advR S what = -1000001 := by
      unfold advR
      rw [if_pos (by omega)]
    refine ts_ldc (z := -1000001) hx hb cx.2.2.2.1 cx.2.2.2.2 tk_RX1_55 dX1_advice_9 ?_
    exact xm_ret cx hr hlocks hw (⟨hR.symm, fun _ _ => rfl⟩) dX1_advice_11
  · skip
    refine lv_iload_n hx hb dX1_advice_4 rfl (lv_at hl 1 rfl) ?_
    refine ts_iconst hx hb dX1_advice_5 ?_
    refine ts_icmp_le (tgt := 12) hx hb (by omega) dX1_advice_6 (by decide) (fun c6 => ?_) (fun c6 => ?_)
    · skip
      refine lv_aload_n hx hb dX1_advice_12 rfl (lv_at hl 0 rfl) ?_
      refine xp_get0 cx hK hw tl_RX1_10 dX1_advice_13 ?_
      refine gm_callr (ad := ga 0) (rest := []) cx (xm_K0 hK) hT hA (xg_B 0 (by decide) hw) hl (c_X0_kindsToBuy l (g 0) S.1 hx0.1 hN) tg_RX1_118 ⟨rfl, rfl⟩ 0 rfl (by decide +kernel) ⟨Nat.le_of_ble_eq_true rfl, Nat.le_of_ble_eq_true rfl⟩ ⟨Nat.zero_le _, Nat.zero_le _⟩ (Nat.le_of_ble_eq_true rfl) dX1_advice_16 (rfl) (fun z16 hz16 => ?_)
      refine ts_if_ne (tgt := 25) hx hb (by omega) dX1_advice_19 (by decide) (fun c19 => ?_) (fun c19 => ?_)
      · skip
        refine ts_bipush hx hb dX1_advice_25 (by decide) ?_
        refine lv_istore_n (lv' := [(2, .int (iN 10)), (0, .ref (ad 0)), (1, .int (iN what))]) hx hb dX1_advice_27 rfl hl (by decide) rfl (fun ls hl => ?_)
        refine ts_iconst hx hb dX1_advice_28 ?_
        refine lv_istore_n (lv' := [(3, .int (iN 0)), (2, .int (iN 10)), (0, .ref (ad 0)), (1, .int (iN what))]) hx hb dX1_advice_29 rfl hl (by decide) rfl (fun ls hl => ?_)
        refine ts_iconst hx hb dX1_advice_30 ?_
        refine lv_istore (lv' := [(4, .int (iN 0)), (3, .int (iN 0)), (2, .int (iN 10)), (0, .ref (ad 0)), (1, .int (iN what))]) hx hb dX1_advice_31 hl (by decide) rfl (fun ls hl => ?_)
        have cut33 : ∀ (fu : Nat) (bst : Int) (mst : Int) (kz : Int) (k : Nat) (gc : XS) (hmu : 10 - k < fu) (hkz : kz = (k : Int) ∧ k ≤ 10) (hAV : AV S k bst mst) (hbm : (0 ≤ bst ∧ bst ≤ 10) ∧ -20000 ≤ mst ∧ mst ≤ 20000) (hec : ∀ i : Nat, i ≠ 1 → gc i = g i) (gac : GA) (H : Heap) (locs : List Loc) (hw : xmB D A s ci ad gac gc H locs) (ls : Array Slot) (hl : lv_has ls 6 [(0, .ref (ad 0)), (1, .int (iN what)), (2, .int (iN bst)), (3, .int (iN mst)), (4, .int (iN kz))]), W p l e ({ frames := 7, cells := 0, slots := 0, locals := 201 } : Room) s m args below meth c H locs 0 0 (xmQi D ci ad A below args s (fun z g1 => z = advR S what ∧ ∀ i : Nat, i ≠ 1 → g1 i = g i)) (F0 m 33 ls []) := by
          intro fu
          induction fu with
          | zero => intro bst mst kz k gc hmu; exact absurd hmu (Nat.not_lt_zero _)
          | succ fu ih33 =>
            intro bst mst kz k gc hmu hkz hAV hbm hec gac H locs hw ls hl
            refine lv_iload hx hb dX1_advice_33 (lv_at hl 4 rfl) ?_
            refine ts_bipush hx hb dX1_advice_35 (by decide) ?_
            refine ts_icmp_ge (tgt := 84) hx hb (by omega) dX1_advice_37 (by decide) (fun c37 => ?_) (fun c37 => ?_)
            · skip
              refine lv_aload_n hx hb dX1_advice_84 rfl (lv_at hl 0 rfl) ?_
              refine ts_bipush hx hb dX1_advice_85 (by decide) ?_
              refine xm_calli (rest := []) cx hK hT hA hw hl (c_X1_pointsAfter l 10 10 gc S (by rw [hec 0 (by decide)]; exact hx0) hv0 (by omega) (fun q => absurd q (by decide))) tg_RX1_130 ⟨rfl, rfl⟩ 1 rfl (by decide +kernel) ⟨Nat.le_of_ble_eq_true rfl, Nat.le_of_ble_eq_true rfl⟩ ⟨Nat.zero_le _, Nat.zero_le _⟩ (Nat.le_of_ble_eq_true rfl) dX1_advice_87 (rfl) (fun z87 ga87 g87 H locs hq87 hw => ?_)
              have hwk := hwb (k := 10) (fun q => absurd q (by decide))
              have hecc : ∀ i : Nat, i ≠ 1 → g87 i = g i := fun i hi => (hq87.2 i hi).trans (hec i hi)
              have hk10 : k = 10 := by omega
              rw [hk10] at hAV
              have hE := AV_end hAV (by omega) hq87.1
              have cut104 : ∀ (b3 : Int) (m3 : Int) (hfin : advM S 11 = (b3, m3 + 100) ∧ (0 ≤ b3 ∧ b3 ≤ 10) ∧ -20000 ≤ m3 ∧ m3 ≤ 20000) (H : Heap) (locs : List Loc) (hw : xmB D A s ci ad ga87 g87 H locs) (ls : Array Slot) (hl : lv_has ls 6 [(1, .int (iN what)), (2, .int (iN b3)), (3, .int (iN m3))]), W p l e ({ frames := 7, cells := 0, slots := 0, locals := 201 } : Room) s m args below meth c H locs 0 0 (xmQi D ci ad A below args s (fun z g1 => z = advR S what ∧ ∀ i : Nat, i ≠ 1 → g1 i = g i)) (F0 m 104 ls []) := by
                intro b3 m3 hfin H locs hw ls hl
                refine lv_iload_n hx hb dX1_advice_104 rfl (lv_at hl 0 rfl) ?_
                refine ts_if_ne (tgt := 112) hx hb (by omega) dX1_advice_105 (by decide) (fun c105 => ?_) (fun c105 => ?_)
                · skip
                  refine lv_iload_n hx hb dX1_advice_112 rfl (lv_at hl 2 rfl) ?_
                  refine ts_bipush hx hb dX1_advice_113 (by decide) ?_
                  refine ts_iadd hx hb dX1_advice_115 (fun z115 hz115 => ?_)
                  exact xm_ret cx hr hlocks hw (⟨by unfold advR; rw [if_neg (by omega), if_neg (by omega), if_neg (by omega), hfin.1, hz115], hecc⟩) dX1_advice_116
                · skip
                  refine lv_iload_n hx hb dX1_advice_108 rfl (lv_at hl 1 rfl) ?_
                  refine lv_goto (tgt := 116) hx hb dX1_advice_109 (by decide) ?_
                  exact xm_ret cx hr hlocks hw (⟨by unfold advR; rw [if_neg (by omega), if_neg (by omega), if_pos (by omega), hfin.1], hecc⟩) dX1_advice_116
              refine lv_istore (lv' := [(4, .int (iN z87)), (0, .ref (ad 0)), (1, .int (iN what)), (2, .int (iN bst)), (3, .int (iN mst))]) hx hb dX1_advice_90 hl (by decide) rfl (fun ls hl => ?_)
              refine lv_iload hx hb dX1_advice_92 (lv_at hl 0 rfl) ?_
              refine lv_iload_n hx hb dX1_advice_94 rfl (lv_at hl 4 rfl) ?_
              refine ts_icmp_le (tgt := 104) hx hb (by omega) dX1_advice_95 (by decide) (fun c95 => ?_) (fun c95 => ?_)
              · skip
                exact cut104 (bst) (mst) (⟨hE.2 (by omega), by omega⟩) _ _ hw _ (lv_sub hl [2, 3, 4] rfl)
              · skip
                refine ts_bipush hx hb dX1_advice_98 (by decide) ?_
                refine lv_istore_n (lv' := [(2, .int (iN 10)), (4, .int (iN z87)), (0, .ref (ad 0)), (1, .int (iN what)), (3, .int (iN mst))]) hx hb dX1_advice_100 rfl hl (by decide) rfl (fun ls hl => ?_)
                refine lv_iload hx hb dX1_advice_101 (lv_at hl 1 rfl) ?_
                refine lv_istore_n (lv' := [(3, .int (iN z87)), (2, .int (iN 10)), (4, .int (iN z87)), (0, .ref (ad 0)), (1, .int (iN what))]) hx hb dX1_advice_103 rfl hl (by decide) rfl (fun ls hl => ?_)
                exact cut104 (10) (z87) (⟨hE.1 (by omega), by omega⟩) _ _ hw _ (lv_sub hl [4, 1, 0] rfl)
            · skip
              have cut78 : ∀ (b2 : Int) (m2 : Int) (gd : XS) (hAV2 : AV S (k + 1) b2 m2) (hbm2 : (0 ≤ b2 ∧ b2 ≤ 10) ∧ -20000 ≤ m2 ∧ m2 ≤ 20000) (hec2 : ∀ i : Nat, i ≠ 1 → gd i = g i) (gad : GA) (H : Heap) (locs : List Loc) (hw : xmB D A s ci ad gad gd H locs) (ls : Array Slot) (hl : lv_has ls 6 [(0, .ref (ad 0)), (1, .int (iN what)), (2, .int (iN b2)), (3, .int (iN m2)), (4, .int (iN kz))]), W p l e ({ frames := 7, cells := 0, slots := 0, locals := 201 } : Room) s m args below meth c H locs 0 0 (xmQi D ci ad A below args s (fun z g1 => z = advR S what ∧ ∀ i : Nat, i ≠ 1 → g1 i = g i)) (F0 m 78 ls []) := by
                intro b2 m2 gd hAV2 hbm2 hec2 gad H locs hw ls hl
                obtain ⟨z78, hz78⟩ : ∃ z : Int, z = kz + 1 := ⟨_, rfl⟩
                refine lv_iinc (v := iN z78) (lv' := [(4, .int (iN z78)), (0, .ref (ad 0)), (1, .int (iN what)), (2, .int (iN b2)), (3, .int (iN m2))]) hx hb dX1_advice_78 hl (k := 4) rfl (by rw [hz78]; exact iN_add _ _) (by decide) rfl (fun ls hl => ?_)
                refine lv_goto (tgt := 33) hx hb dX1_advice_81 (by decide) ?_
                exact ih33 (b2) (m2) (z78) (k + 1) (gd) (by omega) (by omega) (hAV2) (hbm2) (hec2) gad _ _ hw _ (lv_sub hl [1, 2, 3, 4, 0] rfl)
              refine lv_aload_n hx hb dX1_advice_40 rfl (lv_at hl 0 rfl) ?_
              refine xp_get0 cx hK hw tl_RX1_10 dX1_advice_41 ?_
              refine lv_iload hx hb dX1_advice_44 (lv_at hl 4 rfl) ?_
              refine gm_callr (ad := gac 0) (rest := []) cx (xm_K0 hK) hT hA (xg_B 0 (by decide) hw) hl (c_X0_whyNotBought l k (gc 0) S.1 (by omega) (by rw [hec 0 (by decide)]; exact hx0.1) (by rw [hec 0 (by decide)]; exact hN)) tg_RX1_100 ⟨rfl, rfl⟩ 1 rfl (by decide +kernel) ⟨Nat.le_of_ble_eq_true rfl, Nat.le_of_ble_eq_true rfl⟩ ⟨Nat.zero_le _, Nat.zero_le _⟩ (Nat.le_of_ble_eq_true rfl) dX1_advice_46 (by rw [hkz.1]; rfl) (fun z46 hz46 => ?_)
              have hyb := why_b S.1 k
              refine ts_if_ne (tgt := 78) hx hb (by omega) dX1_advice_49 (by decide) (fun c49 => ?_) (fun c49 => ?_)
              · skip
                exact cut78 (bst) (mst) (gc) (AV_no (by omega) hAV (by omega)) (hbm) (hec) gac _ _ hw _ (lv_sub hl [0, 1, 2, 3, 4] rfl)
              · skip
                refine lv_aload_n hx hb dX1_advice_52 rfl (lv_at hl 0 rfl) ?_
                refine lv_iload hx hb dX1_advice_53 (lv_at hl 4 rfl) ?_
                refine xm_calli (rest := []) cx hK hT hA hw hl (c_X1_pointsAfter l kz k gc S (by rw [hec 0 (by decide)]; exact hx0) hv0 (by omega) (fun _ => by omega)) tg_RX1_130 ⟨rfl, rfl⟩ 1 rfl (by decide +kernel) ⟨Nat.le_of_ble_eq_true rfl, Nat.le_of_ble_eq_true rfl⟩ ⟨Nat.zero_le _, Nat.zero_le _⟩ (Nat.le_of_ble_eq_true rfl) dX1_advice_55 (rfl) (fun z55 ga55 g55 H locs hq55 hw => ?_)
                have hw0 : why S.1 k = 0 := by omega
                have hwk := hwb (k := k) (fun _ => hw0)
                have hecc : ∀ i : Nat, i ≠ 1 → g55 i = g i := fun i hi => (hq55.2 i hi).trans (hec i hi)
                have cut72 : ∀  (hcc : bst = 10 ∨ mst < z55) (H : Heap) (locs : List Loc) (hw : xmB D A s ci ad ga55 g55 H locs) (ls : Array Slot) (hl : lv_has ls 6 [(0, .ref (ad 0)), (1, .int (iN what)), (4, .int (iN kz)), (5, .int (iN z55))]), W p l e ({ frames := 7, cells := 0, slots := 0, locals := 201 } : Room) s m args below meth c H locs 0 0 (xmQi D ci ad A below args s (fun z g1 => z = advR S what ∧ ∀ i : Nat, i ≠ 1 → g1 i = g i)) (F0 m 72 ls []) := by
                  intro  hcc H locs hw ls hl
                  refine lv_iload hx hb dX1_advice_72 (lv_at hl 2 rfl) ?_
                  refine lv_istore_n (lv' := [(2, .int (iN kz)), (0, .ref (ad 0)), (1, .int (iN what)), (4, .int (iN kz)), (5, .int (iN z55))]) hx hb dX1_advice_74 rfl hl (by decide) rfl (fun ls hl => ?_)
                  refine lv_iload hx hb dX1_advice_75 (lv_at hl 4 rfl) ?_
                  refine lv_istore_n (lv' := [(3, .int (iN z55)), (2, .int (iN kz)), (0, .ref (ad 0)), (1, .int (iN what)), (4, .int (iN kz)), (5, .int (iN z55))]) hx hb dX1_advice_77 rfl hl (by decide) rfl (fun ls hl => ?_)
                  exact cut78 (kz) (z55) (g55) (by rw [hkz.1]; exact AV_yes (by omega) hAV hw0 hq55.1 hcc) (by omega) (hecc) ga55 _ _ hw _ (lv_sub hl [2, 3, 1, 0, 4] rfl)
                refine lv_istore (lv' := [(5, .int (iN z55)), (0, .ref (ad 0)), (1, .int (iN what)), (2, .int (iN bst)), (3, .int (iN mst)), (4, .int (iN kz))]) hx hb dX1_advice_58 hl (by decide) rfl (fun ls hl => ?_)
                refine lv_iload_n hx hb dX1_advice_60 rfl (lv_at hl 3 rfl) ?_
                refine ts_bipush hx hb dX1_advice_61 (by decide) ?_
                refine ts_icmp_eq (tgt := 72) hx hb (by omega) dX1_advice_63 (by decide) (fun c63 => ?_) (fun c63 => ?_)
                · skip
                  exact cut72  (Or.inl (by omega)) _ _ hw _ (lv_sub hl [1, 2, 5, 0] rfl)
                · skip
                  refine lv_iload hx hb dX1_advice_66 (lv_at hl 0 rfl) ?_
                  refine lv_iload_n hx hb dX1_advice_68 rfl (lv_at hl 4 rfl) ?_
                  refine ts_icmp_le (tgt := 78) hx hb (by omega) dX1_advice_69 (by decide) (fun c69 => ?_) (fun c69 => ?_)
                  · skip
                    exact cut78 (bst) (mst) (g55) (AV_same (by omega) hAV hq55.1 ⟨by omega, by omega⟩) (hbm) (hecc) ga55 _ _ hw _ (lv_sub hl [1, 2, 3, 4, 5] rfl)
                  · skip
                    exact cut72  (Or.inr (by omega)) _ _ hw _ (lv_sub hl [1, 2, 5, 0] rfl)
        exact cut33 _ (10) (0) (0) (0) (g) (Nat.lt_succ_self _) (by omega) (Or.inl ⟨rfl, rfl, rfl, fun j hj => absurd hj (Nat.not_lt_zero j)⟩) (by omega) (fun _ _ => rfl) ga _ _ hw _ (lv_sub hl [3, 4, 2, 1, 0] rfl)
      · skip
        have hR : advR S what = -1000004 := by
          unfold advR
          rw [if_neg (by omega), if_pos (by omega)]
        refine ts_ldc (z := -1000004) hx hb cx.2.2.2.1 cx.2.2.2.2 tk_RX1_75 dX1_advice_22 ?_
        exact xm_ret cx hr hlocks hw (⟨hR.symm, fun _ _ => rfl⟩) dX1_advice_24
    · skip
      have hR : advR S what = -1000001 := by
        unfold advR
        rw [if_pos (by omega)]
      refine ts_ldc (z := -1000001) hx hb cx.2.2.2.1 cx.2.2.2.2 tk_RX1_55 dX1_advice_9 ?_
      exact xm_ret cx hr hlocks hw (⟨hR.symm, fun _ _ => rfl⟩) dX1_advice_11
