theorem beS_pile (sc : SCT) (np : Int) (j : Nat) (hj : j < 10) : beS sc np (10 + j) = tv 8 j - (if j = 0 then 7 * np else if j = 3 then 3 * np else 0) := by
  unfold beS
  rw [if_neg (show ¬ 10 + j = 0 by omega), if_neg (show ¬ 10 + j = 3 by omega), if_neg (show ¬ 10 + j = 4 by omega), if_neg (show ¬ 10 + j = 9 by omega)]
  by_cases h0 : j = 0
  · subst h0
    rfl
  · rw [if_neg (show ¬ 10 + j = 10 by omega), if_neg h0]
    by_cases h3 : j = 3
    · subst h3
      rfl
    · rw [if_neg (show ¬ 10 + j = 13 by omega), if_neg h3, if_pos (by omega), show 10 + j - 10 = j by omega]
      omega
theorem beS_scr (sc : SCT) (np : Int) (j : Nat) : beS sc np (20 + j) = 0 := by
  unfold beS
  rw [if_neg (by omega), if_neg (by omega), if_neg (by omega), if_neg (by omega), if_neg (by omega), if_neg (by omega), if_neg (by omega)]
set_option maxHeartbeats 4000000 in
set_option maxRecDepth 100000 in
theorem c_X0_startGame (l : Launch) (np : Int) (g : GS) (S : StT) (hx0 : RX g S) (hnb : -2147483648 ≤ np ∧ np ≤ 2147483647) : gmMi l yX0_startGame (wU yX0_startGame cX0_startGame 3 (some .int)) ({ frames := 3, cells := 0, slots := 0, locals := 111 } : Room) [.int (iN np)] g (fun z g1 => z = (begO S np).1 ∧ RX g1 (begO S np).2) := by
  refine gmMi_of (by decide) (Nat.le_of_ble_eq_true rfl) ?_
  intro p e s m args below meth c D cI tb ad A ls cx hr hlocks hK hA hT hw hl
  have hx := cx.1
  have hb := cx.2.1
  have hl : lv_has ls 3 [(0, .ref (ad 0)), (1, .int (iN np))] := hl
  refine lv_iload_n hx hb dX0_startGame_0 rfl (lv_at hl 1 rfl) ?_
  refine ts_iconst hx hb dX0_startGame_1 ?_
  refine ts_icmp_lt (tgt := 10) hx hb (by omega) dX0_startGame_2 (by decide) (fun c2 => ?_) (fun c2 => ?_)
  · skip
    refine ts_ldc (z := -1000001) hx hb cx.2.2.2.1 cx.2.2.2.2 tk_RX0_62 dX0_startGame_10 ?_
    exact gm_ret cx hr hlocks hw (by unfold begO; rw [if_pos (fun h => by omega)]; exact ⟨rfl, hx0⟩) dX0_startGame_12
  · skip
    refine lv_iload_n hx hb dX0_startGame_5 rfl (lv_at hl 1 rfl) ?_
    refine ts_iconst hx hb dX0_startGame_6 ?_
    refine ts_icmp_le (tgt := 13) hx hb (by omega) dX0_startGame_7 (by decide) (fun c7 => ?_) (fun c7 => ?_)
    · skip
      have hnp : 2 ≤ np ∧ np ≤ 4 := by omega
      refine lv_aload_n hx hb dX0_startGame_13 rfl (lv_at hl 0 rfl) ?_
      refine lv_iload_n hx hb dX0_startGame_14 rfl (lv_at hl 1 rfl) ?_
      refine gm_put4 cx hK hw tl_RX0_30 dX0_startGame_15 (fun g15 H locs hg15 hw => ?_)
      refine lv_aload_n hx hb dX0_startGame_18 rfl (lv_at hl 0 rfl) ?_
      refine ts_iconst hx hb dX0_startGame_19 ?_
      refine gm_put5 cx hK hw tl_RX0_34 dX0_startGame_20 (fun g20 H locs hg20 hw => ?_)
      refine lv_aload_n hx hb dX0_startGame_23 rfl (lv_at hl 0 rfl) ?_
      refine ts_iconst hx hb dX0_startGame_24 ?_
      refine gm_put10 cx hK hw tl_RX0_49 dX0_startGame_25 (fun g25 H locs hg25 hw => ?_)
      refine lv_aload_n hx hb dX0_startGame_28 rfl (lv_at hl 0 rfl) ?_
      refine ts_iconst hx hb dX0_startGame_29 ?_
      refine gm_put12 cx hK hw tl_RX0_55 dX0_startGame_30 (fun g30 H locs hg30 hw => ?_)
      refine lv_aload_n hx hb dX0_startGame_33 rfl (lv_at hl 0 rfl) ?_
      refine ts_iconst hx hb dX0_startGame_34 ?_
      refine gm_put13 cx hK hw (by first | omega | (rw [hov]; split <;> omega)) tl_RX0_58 dX0_startGame_35 (fun g35 H locs hg35 hw => ?_)
      refine tt_gst cx hT hw.2.2 8 (by decide) rfl dX0_startGame_38 ?_
      refine ts_iconst hx hb dX0_startGame_41 ?_
      refine lv_aload_n hx hb dX0_startGame_42 rfl (lv_at hl 0 rfl) ?_
      refine gm_get2 cx hK hw tl_RX0_18 dX0_startGame_43 ?_
      refine ts_iconst hx hb dX0_startGame_46 ?_
      refine ts_bipush hx hb dX0_startGame_47 (by decide) ?_
      refine gm_cpy8 cx hK hT hw hl tc_RX0 ⟨Nat.le_of_ble_eq_true rfl, Nat.le_of_ble_eq_true rfl⟩ dX0_startGame_49 (fun g49 H locs hg49 hw => ?_)
      refine lv_aload_n hx hb dX0_startGame_52 rfl (lv_at hl 0 rfl) ?_
      refine gm_get3 cx hK hw tl_RX0_21 dX0_startGame_53 ?_
      refine ts_iconst hx hb dX0_startGame_56 ?_
      refine aw_fill3 (rest := []) cx hK hA hw hl (c_J7_fill_53178 l 10 0 (g49 3) (by omega)) tg_RX0_66 ⟨rfl, rfl⟩ 2 rfl (by decide +kernel) ⟨Nat.le_of_ble_eq_true rfl, Nat.le_of_ble_eq_true rfl⟩ ⟨Nat.zero_le _, Nat.zero_le _⟩ (Nat.le_of_ble_eq_true rfl) dX0_startGame_57 rfl (fun g57 H locs hq57 h057 h157 h257 h457 hw => ?_)
      have r35 : ∀ j : Nat, g35 4 j = if j = 13 then 0 else if j = 12 then 0 else if j = 10 then 0 else if j = 5 then 0 else if j = 4 then np else g 4 j := fun j => by rw [hg35, u2_4, hg30, u2_4, hg25, u2_4, hg20, u2_4, hg15, u2_4]
      have r57 : ∀ j : Nat, g57 4 j = if j = 13 then 0 else if j = 12 then 0 else if j = 10 then 0 else if j = 5 then 0 else if j = 4 then np else g 4 j := fun j => by rw [h457, hg49, uF_row _ (by decide)]; exact r35 j
      have q4 : g57 4 4 = np := r57 4
      refine lv_aload_n hx hb dX0_startGame_60 rfl (lv_at hl 0 rfl) ?_
      refine gm_callv (rest := []) cx hK hT hA hw hl (c_X0_dealDecks l g57 (by rw [q4]; omega) (fun k hk => by rw [h257, hg49, uF_s, if_pos hk])) tg_RX0_72 ⟨rfl, rfl⟩ 0 rfl (by decide +kernel) ⟨Nat.le_of_ble_eq_true rfl, Nat.le_of_ble_eq_true rfl⟩ ⟨Nat.zero_le _, Nat.zero_le _⟩ (Nat.le_of_ble_eq_true rfl) dX0_startGame_61 (rfl) (fun g61 H locs hq61 hw => ?_)
      rw [q4] at hq61
      have r61 : ∀ j : Nat, g61 4 j = if j = 13 then 0 else if j = 12 then 0 else if j = 10 then 0 else if j = 5 then 0 else if j = 4 then np else g 4 j := fun j => by rw [hq61.2.2.2]; exact r57 j
      have q61 : g61 4 4 = np := r61 4
      have hx61 : PX g61 (lx (drwL np (0 : Int).toNat)) := PX_congr hq61.1 (fun r hr => by unfold lx drwL; rw [if_neg (by omega)])
      refine ts_iconst hx hb dX0_startGame_64 ?_
      refine lv_istore_n (lv' := [(2, .int (iN 0)), (0, .ref (ad 0)), (1, .int (iN np))]) hx hb dX0_startGame_65 rfl hl (by decide) rfl (fun ls hl => ?_)
      have cut66 : ∀ (fu : Nat) (i : Int) (ga : GS) (hmu : (4 - i).toNat < fu) (hi : 0 ≤ i ∧ i ≤ np) (hxi : PX ga (lx (drwL np i.toNat))) (hri : ga 2 = g61 2 ∧ ga 3 = g61 3 ∧ ga 4 = g61 4) (H : Heap) (locs : List Loc) (hw : gmB D A s cI ad ga H locs) (ls : Array Slot) (hl : lv_has ls 3 [(0, .ref (ad 0)), (2, .int (iN i))]), W p l e ({ frames := 3, cells := 0, slots := 0, locals := 111 } : Room) s m args below meth c H locs 0 0 (gmQi D cI ad A below args s (fun z g1 => z = (begO S np).1 ∧ RX g1 (begO S np).2)) (F0 m 66 ls []) := by
        intro fu
        induction fu with
        | zero => intro i ga hmu; exact absurd hmu (Nat.not_lt_zero _)
        | succ fu ih66 =>
          intro i ga hmu hi hxi hri H locs hw ls hl
          refine lv_iload_n hx hb dX0_startGame_66 rfl (lv_at hl 1 rfl) ?_
          refine lv_aload_n hx hb dX0_startGame_67 rfl (lv_at hl 0 rfl) ?_
          refine gm_get4 cx hK hw tl_RX0_30 dX0_startGame_68 (fun z68 hz68 => ?_)
          rw [hri.2.2, q61] at hz68
          refine ts_icmp_ge (tgt := 86) hx hb (by omega) dX0_startGame_71 (by decide) (fun c71 => ?_) (fun c71 => ?_)
          · skip
            refine lv_aload_n hx hb dX0_startGame_86 rfl (lv_at hl 0 rfl) ?_
            refine gm_callv (rest := []) cx hK hT hA hw hl (c_X0_beginTurn l ga) tg_RX0_79 ⟨rfl, rfl⟩ 0 rfl (by decide +kernel) ⟨Nat.le_of_ble_eq_true rfl, Nat.le_of_ble_eq_true rfl⟩ ⟨Nat.zero_le _, Nat.zero_le _⟩ (Nat.le_of_ble_eq_true rfl) dX0_startGame_87 (rfl) (fun g87 H locs hq87 hw => ?_)
            have hie : i = np := by omega
            have hxe : PX ga (lx (beL np)) := PX_congr hxi (fun r hr => by
              unfold lx drwL
              by_cases hp : r / 4 < i.toNat
              · rw [if_pos hp]
              · rw [if_neg hp]
                unfold dealL beL
                rw [if_neg (by omega), if_neg (by omega)])
            have x87 : PX g87 (lx (beL np)) := PX_row hxe (by rw [hq87, u2_row _ (by decide), u2_row _ (by decide), u2_row _ (by decide), u2_row _ (by decide)]) (by rw [hq87, u2_row _ (by decide), u2_row _ (by decide), u2_row _ (by decide), u2_row _ (by decide)])
            have r87 : ∀ j : Nat, g87 4 j = if j = 9 then 0 else if j = 8 then 1 else if j = 7 then 1 else if j = 6 then 0 else if j = 13 then 0 else if j = 12 then 0 else if j = 10 then 0 else if j = 5 then 0 else if j = 4 then np else g 4 j := fun j => by rw [hq87, u2_4, u2_4, u2_4, u2_4, hri.2.2, r61 j]
            have e87 : ∀ j : Nat, j < 10 → g87 2 j = tv 8 j - (if j = 0 then 7 * np else if j = 3 then 3 * np else 0) := fun j hj => by rw [hq87, u2_row _ (by decide), u2_row _ (by decide), u2_row _ (by decide), u2_row _ (by decide), hri.1]; exact hq61.2.1 j hj
            have f87 : ∀ j : Nat, j < 10 → g87 3 j = 0 := fun j hj => by rw [hq87, u2_row _ (by decide), u2_row _ (by decide), u2_row _ (by decide), u2_row _ (by decide), hri.2.1, hq61.2.2.1]; exact hq57 j hj
            have h9 : g 4 11 = S.1 9 := hx0.1.2.2.2.2.2.2.2.1
            have hR : RS g87 (beS S.1 np) := ⟨(r87 4).trans rfl, (r87 5).trans rfl, (r87 6).trans rfl, (r87 7).trans rfl, (r87 8).trans rfl, (r87 9).trans rfl, (r87 10).trans rfl, (r87 11).trans h9, (r87 12).trans rfl, (r87 13).trans rfl, fun j hj => by rw [e87 j hj, beS_pile _ _ _ hj], fun j hj => by rw [f87 j hj, beS_scr]⟩
            have hO : begO S np = (60 - 7 * np, begA S np) := by
              unfold begO
              rw [if_neg (fun h => h hnp)]
            have e870 : g87 2 0 = 60 - 7 * np := (e87 0 (by omega)).trans rfl
            refine lv_aload_n hx hb dX0_startGame_90 rfl (lv_at hl 0 rfl) ?_
            refine gm_get2 cx hK hw tl_RX0_18 dX0_startGame_91 ?_
            refine ts_iconst hx hb dX0_startGame_94 ?_
            refine gm_ld2 cx hK hw (0) (by omega) dX0_startGame_95 (fun z95 hz95 => ?_)
            exact gm_ret cx hr hlocks hw (by rw [hO]; exact ⟨by show z95 = 60 - 7 * np; rw [hz95]; exact e870, hR, x87⟩) dX0_startGame_96
          · skip
            refine lv_aload_n hx hb dX0_startGame_74 rfl (lv_at hl 0 rfl) ?_
            refine lv_iload_n hx hb dX0_startGame_75 rfl (lv_at hl 1 rfl) ?_
            refine ts_iconst hx hb dX0_startGame_76 ?_
            refine gm_callv (rest := []) cx hK hT hA hw hl (c_X0_drawCards l i.toNat 5 ga (drwL np i.toNat) (by omega) (by omega) hxi) tg_RX0_75 ⟨rfl, rfl⟩ 2 rfl (by decide +kernel) ⟨Nat.le_of_ble_eq_true rfl, Nat.le_of_ble_eq_true rfl⟩ ⟨Nat.zero_le _, Nat.zero_le _⟩ (Nat.le_of_ble_eq_true rfl) dX0_startGame_77 (by rw [show i = ((i.toNat : Nat) : Int) by omega]; rfl) (fun g77 H locs hq77 hw => ?_)
            have hxn : PX g77 (lx (drwL np (i + 1).toNat)) := PX_congr hq77.1 (fun r hr => by unfold lx; rw [drw_next (by omega), show i.toNat + 1 = (i + 1).toNat by omega])
            obtain ⟨z80, hz80⟩ : ∃ z : Int, z = i + 1 := ⟨_, rfl⟩
            refine lv_iinc (v := iN z80) (lv' := [(2, .int (iN z80)), (0, .ref (ad 0))]) hx hb dX0_startGame_80 hl (k := 1) rfl (by rw [hz80]; exact iN_add _ _) (by decide) rfl (fun ls hl => ?_)
            rw [← hz80] at hxn
            refine lv_goto (tgt := 66) hx hb dX0_startGame_83 (by decide) ?_
            exact ih66 (z80) (g77) (by omega) (by omega) (hxn) (⟨hq77.2.1.trans hri.1, hq77.2.2.1.trans hri.2.1, hq77.2.2.2.trans hri.2.2⟩) _ _ hw _ (lv_sub hl [1, 0] rfl)
      exact cut66 _ (0) (g61) (Nat.lt_succ_self _) (by omega) (hx61) (⟨rfl, rfl, rfl⟩) _ _ hw _ (lv_sub hl [1, 0] rfl)
    · skip
      refine ts_ldc (z := -1000001) hx hb cx.2.2.2.1 cx.2.2.2.2 tk_RX0_62 dX0_startGame_10 ?_
      exact gm_ret cx hr hlocks hw (by unfold begO; rw [if_pos (fun h => by omega)]; exact ⟨rfl, hx0⟩) dX0_startGame_12
