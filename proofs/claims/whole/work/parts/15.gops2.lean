set_option maxHeartbeats 4000000 in
set_option maxRecDepth 100000 in
theorem c_X0_buyCard (l : Launch) (kind : Int) (g : GS) (S : StT) (hx0 : RX g S) (hv0 : VS S) (hkb : -2147483648 ≤ kind ∧ kind ≤ 2147483647) : gmMi l yX0_buyCard (wU yX0_buyCard cX0_buyCard 2 (some .int)) ({ frames := 2, cells := 0, slots := 0, locals := 85 } : Room) [.int (iN kind)] g (fun z g1 => z = (buyO S kind).1 ∧ RX g1 (buyO S kind).2) := by
  refine gmMi_of (by decide) (Nat.le_of_ble_eq_true rfl) ?_
  intro p e s m args below meth c D cI tb ad A ls cx hr hlocks hK hA hT hw hl
  have hx := cx.1
  have hb := cx.2.1
  have hl : lv_has ls 2 [(0, .ref (ad 0)), (1, .int (iN kind))] := hl
  obtain ⟨h0, h1, h2, h3, h4, h5, h6, h9, h7, h8, hp, hs⟩ := id hx0.1
  have hpl := VS_pl hv0
  have hnx := VS_NX hx0 hv0
  have hnn := NX_13 hx0.1 hnx
  have hm := PX_M hx0.2
  have hm2 := PX_K hx0.2 (VS_kinds hv0)
  refine lv_iload_n hx hb dX0_buyCard_0 rfl (lv_at hl 1 rfl) ?_
  refine ts_if_lt (tgt := 10) hx hb (by omega) dX0_buyCard_1 (by decide) (fun c1 => ?_) (fun c1 => ?_)
  · skip
    refine ts_ldc (z := -1000001) hx hb cx.2.2.2.1 cx.2.2.2.2 tk_RX0_62 dX0_buyCard_10 ?_
    exact gm_ret cx hr hlocks hw (by unfold buyO; rw [if_pos (fun h => by omega)]; exact ⟨rfl, hx0⟩) dX0_buyCard_12
  · skip
    refine lv_iload_n hx hb dX0_buyCard_4 rfl (lv_at hl 1 rfl) ?_
    refine ts_bipush hx hb dX0_buyCard_5 (by decide) ?_
    refine ts_icmp_lt (tgt := 13) hx hb (by omega) dX0_buyCard_7 (by decide) (fun c7 => ?_) (fun c7 => ?_)
    · skip
      refine lv_aload_n hx hb dX0_buyCard_13 rfl (lv_at hl 0 rfl) ?_
      refine lv_iload_n hx hb dX0_buyCard_14 rfl (lv_at hl 1 rfl) ?_
      refine gm_callr (rest := []) cx hK hT hA hw hl (c_X0_whyNotBought l kind.toNat g S.1 (by omega) hx0.1 hnx) tg_RX0_122 ⟨rfl, rfl⟩ 1 rfl (by decide +kernel) ⟨Nat.le_of_ble_eq_true rfl, Nat.le_of_ble_eq_true rfl⟩ ⟨Nat.zero_le _, Nat.zero_le _⟩ (Nat.le_of_ble_eq_true rfl) dX0_buyCard_15 (by rw [show ((kind.toNat : Nat) : Int) = kind by omega]; rfl) (fun z15 hz15 => ?_)
      have hwb : 0 ≤ why S.1 kind.toNat ∧ why S.1 kind.toNat ≤ 5 := by unfold why; (repeat' split) <;> omega
      refine ts_if_eq (tgt := 24) hx hb (by omega) dX0_buyCard_18 (by decide) (fun c18 => ?_) (fun c18 => ?_)
      · skip
        have hw0 : why S.1 kind.toNat = 0 := by omega
        have hw1 := why_0 hw0
        have hvp := VS_pile hv0 kind.toNat (by omega)
        have hpk := hp kind.toNat (by omega)
        have hpb := hnx.2.2.2.2.2.2.2.2.2.1 kind.toNat (by omega)
        have hO : buyO S kind = (S.1 (10 + kind.toNat) - 1, buyA S kind.toNat) := by
          unfold buyO
          rw [if_neg (fun h => h (by omega)), if_neg (fun h => h hw0)]
        refine lv_aload_n hx hb dX0_buyCard_24 rfl (lv_at hl 0 rfl) ?_
        refine lv_dup hx hb dX0_buyCard_25 rfl ?_
        refine gm_get6 cx hK hw tl_RX0_37 dX0_buyCard_26 (fun z26 hz26 => ?_)
        refine tt_gst cx hT hw.2.2 0 (by decide) rfl dX0_buyCard_29 ?_
        refine lv_iload_n hx hb dX0_buyCard_32 rfl (lv_at hl 1 rfl) ?_
        refine tt_ld hx hb hT hw.2.2 0 (by decide) (kind.toNat) (by omega) dX0_buyCard_33 (fun z33 hz33 => ?_)
        have hb33 := tv_b 0 (kind.toNat)
        refine ts_isub hx hb dX0_buyCard_34 (fun z34 hz34 => ?_)
        refine gm_put6 cx hK hw tl_RX0_37 dX0_buyCard_35 (fun g35 H locs hg35 hw => ?_)
        refine lv_aload_n hx hb dX0_buyCard_38 rfl (lv_at hl 0 rfl) ?_
        refine lv_dup hx hb dX0_buyCard_39 rfl ?_
        refine gm_get7 cx hK hw tl_RX0_40 dX0_buyCard_40 (fun z40 hz40 => ?_)
        refine ts_iconst hx hb dX0_buyCard_43 ?_
        refine ts_isub hx hb dX0_buyCard_44 (fun z44 hz44 => ?_)
        refine gm_put7 cx hK hw tl_RX0_40 dX0_buyCard_45 (fun g45 H locs hg45 hw => ?_)
        refine lv_aload_n hx hb dX0_buyCard_48 rfl (lv_at hl 0 rfl) ?_
        refine lv_aload_n hx hb dX0_buyCard_49 rfl (lv_at hl 0 rfl) ?_
        refine gm_get5 cx hK hw tl_RX0_34 dX0_buyCard_50 (fun z50 hz50 => ?_)
        refine lv_iload_n hx hb dX0_buyCard_53 rfl (lv_at hl 1 rfl) ?_
        have hx45 : PX g45 (lx S.2) := PX_row hx0.2 (by rw [hg45, u2_row _ (by decide), hg35, u2_row _ (by decide)]) (by rw [hg45, u2_row _ (by decide), hg35, u2_row _ (by decide)])
        refine gm_callv (rest := []) cx hK hT hA hw hl (c_X0_takeFromPile l (pl S) kind.toNat g45 S.2 (by omega) (by omega) hx45 (by rw [hg45, u2_row _ (by decide), hg35, u2_row _ (by decide)]; exact hpb) (by rw [hg45, u2_row _ (by decide), u2_row _ (by decide), hg35, u2_row _ (by decide), u2_row _ (by decide)]; intro _; rw [PX_tot hx0.2]; omega)) tg_RX0_119 ⟨rfl, rfl⟩ 2 rfl (by decide +kernel) ⟨Nat.le_of_ble_eq_true rfl, Nat.le_of_ble_eq_true rfl⟩ ⟨Nat.zero_le _, Nat.zero_le _⟩ (Nat.le_of_ble_eq_true rfl) dX0_buyCard_54 (by rw [show ((kind.toNat : Nat) : Int) = kind by omega, show z50 = ((pl S : Nat) : Int) by rw [hz50, hg45, u2_4, if_neg (by decide), hg35, u2_4, if_neg (by decide), h1, hpl.2]]; rfl) (fun g54 H locs hq54 hw => ?_)
        have e2 : g45 2 = g 2 := by rw [hg45, u2_row _ (by decide), hg35, u2_row _ (by decide)]
        rw [e2] at hq54
        have hq : 0 < g 2 kind.toNat := by omega
        have hqq : PX g54 (lx (ul S.2 (pl S) 3 (S.2 (pl S) 3 ++ [((kind.toNat : Nat) : Int)]))) ∧ (∀ j : Nat, g54 2 j = if j = kind.toNat then g 2 kind.toNat - 1 else g 2 j) ∧ g54 3 = g 3 ∧ (∀ j : Nat, g54 4 j = if j = 7 then z44 else if j = 6 then z34 else g 4 j) := by
          rcases hq54 with q | q
          · refine ⟨q.2.1, q.2.2.1, ?_, fun j => ?_⟩
            · rw [q.2.2.2.1, hg45, u2_row _ (by decide), hg35, u2_row _ (by decide)]
            · rw [q.2.2.2.2.1, hg45, u2_4, hg35, u2_4]
          · omega
        have hz40b : z40 = g 4 7 := by rw [hz40, hg35, u2_4, if_neg (by decide)]
        have hpq := hqq.2.1 kind.toNat
        rw [if_pos rfl] at hpq
        have hR : RS g54 (buS S.1 kind.toNat) := ⟨by rw [hqq.2.2.2 4]; simp only [buS, uf]; (repeat' split) <;> omega, by rw [hqq.2.2.2 5]; simp only [buS, uf]; (repeat' split) <;> omega, by rw [hqq.2.2.2 6]; simp only [buS, uf]; (repeat' split) <;> omega, by rw [hqq.2.2.2 7]; simp only [buS, uf]; (repeat' split) <;> omega, by rw [hqq.2.2.2 8]; simp only [buS, uf]; (repeat' split) <;> omega, by rw [hqq.2.2.2 9]; simp only [buS, uf]; (repeat' split) <;> omega, by rw [hqq.2.2.2 10]; simp only [buS, uf]; (repeat' split) <;> omega, by rw [hqq.2.2.2 11]; simp only [buS, uf]; (repeat' split) <;> omega, by rw [hqq.2.2.2 12]; simp only [buS, uf]; (repeat' split) <;> omega, by rw [hqq.2.2.2 13]; simp only [buS, uf]; (repeat' split) <;> omega, fun j hj => by have hpj := hp j hj; rw [hqq.2.1 j]; simp only [buS, uf]; (repeat' split) <;> omega, fun j hj => by have hpj := hs j hj; rw [congrFun hqq.2.2.1 j]; simp only [buS, uf]; (repeat' split) <;> omega⟩
        refine lv_aload_n hx hb dX0_buyCard_57 rfl (lv_at hl 0 rfl) ?_
        refine gm_get2 cx hK hw tl_RX0_18 dX0_buyCard_58 ?_
        refine lv_iload_n hx hb dX0_buyCard_61 rfl (lv_at hl 1 rfl) ?_
        refine gm_ld2 cx hK hw (kind.toNat) (by omega) dX0_buyCard_62 (fun z62 hz62 => ?_)
        exact gm_ret cx hr hlocks hw (by rw [hO]; exact ⟨by show z62 = S.1 (10 + kind.toNat) - 1; omega, hR, hqq.1⟩) dX0_buyCard_63
      · skip
        refine ts_ldc (z := -1000002) hx hb cx.2.2.2.1 cx.2.2.2.2 tk_RX0_89 dX0_buyCard_21 ?_
        exact gm_ret cx hr hlocks hw (by unfold buyO; rw [if_neg (fun h => h (by omega)), if_pos (by omega)]; exact ⟨rfl, hx0⟩) dX0_buyCard_23
    · skip
      refine ts_ldc (z := -1000001) hx hb cx.2.2.2.1 cx.2.2.2.2 tk_RX0_62 dX0_buyCard_10 ?_
      exact gm_ret cx hr hlocks hw (by unfold buyO; rw [if_pos (fun h => by omega)]; exact ⟨rfl, hx0⟩) dX0_buyCard_12
set_option maxHeartbeats 4000000 in
set_option maxRecDepth 100000 in
theorem c_X0_scrapCard (l : Launch) (place : Int) (g : GS) (S : StT) (hx0 : RX g S) (hv0 : VS S) (hkb : -2147483648 ≤ place ∧ place ≤ 2147483647) : gmMi l yX0_scrapCard (wU yX0_scrapCard cX0_scrapCard 3 (some .int)) ({ frames := 2, cells := 0, slots := 0, locals := 87 } : Room) [.int (iN place)] g (fun z g1 => z = (scrO S place).1 ∧ RX g1 (scrO S place).2) := by
  refine gmMi_of (by decide) (Nat.le_of_ble_eq_true rfl) ?_
  intro p e s m args below meth c D cI tb ad A ls cx hr hlocks hK hA hT hw hl
  have hx := cx.1
  have hb := cx.2.1
  have hl : lv_has ls 3 [(0, .ref (ad 0)), (1, .int (iN place))] := hl
  obtain ⟨h0, h1, h2, h3, h4, h5, h6, h9, h7, h8, hp, hs⟩ := id hx0.1
  have hpl := VS_pl hv0
  have hnx := VS_NX hx0 hv0
  have hnn := NX_13 hx0.1 hnx
  have hm := PX_M hx0.2
  have hm2 := PX_K hx0.2 (VS_kinds hv0)
  obtain ⟨hh, hp5, hlen, hcd⟩ := VS_hidx hx0 hv0
  have hT2 := MX_b hm
  have hq16 := MX_le hm (a := 4 * pl S + 2 + 1) (b := 16) (by omega) (by omega)
  have hss := hnx.2.2.2.2.2.2.2.2.2.2
  have hn5 := hnx.2.2.2.2.2.1
  refine lv_aload_n hx hb dX0_scrapCard_0 rfl (lv_at hl 0 rfl) ?_
  refine lv_aload_n hx hb dX0_scrapCard_1 rfl (lv_at hl 0 rfl) ?_
  refine gm_get5 cx hK hw tl_RX0_34 dX0_scrapCard_2 (fun z2 hz2 => ?_)
  refine ts_iconst hx hb dX0_scrapCard_5 ?_
  refine lv_iload_n hx hb dX0_scrapCard_6 rfl (lv_at hl 1 rfl) ?_
  refine gm_callr (rest := []) cx hK hT hA hw hl (c_X0_cardOf l (pl S) 2 place g (by omega) (by omega) hkb hm hm2) tg_RX0_85 ⟨rfl, rfl⟩ 3 rfl (by decide +kernel) ⟨Nat.le_of_ble_eq_true rfl, Nat.le_of_ble_eq_true rfl⟩ ⟨Nat.zero_le _, Nat.zero_le _⟩ (Nat.le_of_ble_eq_true rfl) dX0_scrapCard_7 (by rw [show z2 = ((pl S : Nat) : Int) by omega]; rfl) (fun z7 hz7 => ?_)
  have hcz : (0 ≤ place ∧ place < (hand S).length ∧ z7 = (hand S).getD place.toNat 0 ∧ 0 ≤ z7 ∧ z7 ≤ 9) ∨ (¬ (0 ≤ place ∧ place < (hand S).length) ∧ z7 = -1) := by
    rcases hz7 with q | q
    · have e1 := hcd place.toNat (by omega)
      have e2 := VS_hand hv0 (k := place.toNat) (by omega)
      exact Or.inl ⟨by omega, by omega, by omega, by omega, by omega⟩
    · exact Or.inr ⟨by omega, by omega⟩
  refine lv_istore_n (lv' := [(2, .int (iN z7)), (0, .ref (ad 0)), (1, .int (iN place))]) hx hb dX0_scrapCard_10 rfl hl (by decide) rfl (fun ls hl => ?_)
  refine lv_iload_n hx hb dX0_scrapCard_11 rfl (lv_at hl 0 rfl) ?_
  refine ts_if_ge (tgt := 18) hx hb (by omega) dX0_scrapCard_12 (by decide) (fun c12 => ?_) (fun c12 => ?_)
  · skip
    refine lv_aload_n hx hb dX0_scrapCard_18 rfl (lv_at hl 1 rfl) ?_
    refine gm_get13 cx hK hw tl_RX0_58 dX0_scrapCard_19 (fun z19 hz19 => ?_)
    refine ts_if_ne (tgt := 32) hx hb (by omega) dX0_scrapCard_22 (by decide) (fun c22 => ?_) (fun c22 => ?_)
    · skip
      refine ts_ldc (z := -1000002) hx hb cx.2.2.2.1 cx.2.2.2.2 tk_RX0_89 dX0_scrapCard_32 ?_
      exact gm_ret cx hr hlocks hw (by unfold scrO; rw [if_neg (fun h => h (by omega)), if_pos (by omega)]; exact ⟨rfl, hx0⟩) dX0_scrapCard_34
    · skip
      refine lv_aload_n hx hb dX0_scrapCard_25 rfl (lv_at hl 1 rfl) ?_
      refine gm_get9 cx hK hw tl_RX0_46 dX0_scrapCard_26 (fun z26 hz26 => ?_)
      refine ts_if_gt (tgt := 35) hx hb (by omega) dX0_scrapCard_29 (by decide) (fun c29 => ?_) (fun c29 => ?_)
      · skip
        have hO : scrO S place = ((hand S).getD place.toNat 0, scrA S place.toNat) := by
          unfold scrO
          rw [if_neg (fun h => h (by omega)), if_neg (by omega)]
        refine lv_aload_n hx hb dX0_scrapCard_35 rfl (lv_at hl 1 rfl) ?_
        refine lv_dup hx hb dX0_scrapCard_36 rfl ?_
        refine gm_get9 cx hK hw tl_RX0_46 dX0_scrapCard_37 (fun z37 hz37 => ?_)
        refine ts_iconst hx hb dX0_scrapCard_40 ?_
        refine ts_isub hx hb dX0_scrapCard_41 (fun z41 hz41 => ?_)
        refine gm_put9 cx hK hw tl_RX0_46 dX0_scrapCard_42 (fun g42 H locs hg42 hw => ?_)
        refine lv_aload_n hx hb dX0_scrapCard_45 rfl (lv_at hl 1 rfl) ?_
        refine gm_get3 cx hK hw tl_RX0_21 dX0_scrapCard_46 ?_
        have hss2 : g42 3 = g 3 := by rw [hg42, u2_row _ (by decide)]
        rw [← hss2] at hss
        refine lv_iload_n hx hb dX0_scrapCard_49 rfl (lv_at hl 0 rfl) ?_
        refine lv_dup2_11 hx hb dX0_scrapCard_50 rfl rfl ?_
        refine gm_ld3 cx hK hw (z7.toNat) (by omega) dX0_scrapCard_51 (fun z51 hz51 => ?_)
        have hb51 := hss (z7.toNat) (by omega)
        refine ts_iconst hx hb dX0_scrapCard_52 ?_
        refine ts_iadd hx hb dX0_scrapCard_53 (fun z53 hz53 => ?_)
        refine gm_st3 cx hK hw (z7.toNat) (by omega) dX0_scrapCard_54 (fun g54 H locs hg54 hw => ?_)
        refine lv_aload_n hx hb dX0_scrapCard_55 rfl (lv_at hl 1 rfl) ?_
        refine lv_aload_n hx hb dX0_scrapCard_56 rfl (lv_at hl 1 rfl) ?_
        refine gm_get5 cx hK hw tl_RX0_34 dX0_scrapCard_57 (fun z57 hz57 => ?_)
        have e1 : g54 1 = g 1 := by rw [hg54, u2_row _ (by decide), hg42, u2_row _ (by decide)]
        have e0 : g54 0 = g 0 := by rw [hg54, u2_row _ (by decide), hg42, u2_row _ (by decide)]
        have e45 : g54 4 5 = g 4 5 := by rw [hg54, u2_row _ (by decide), hg42, u2_4, if_neg (by decide)]
        have hm54 := PX_M (PX_row hx0.2 e0 e1)
        rw [e45] at hz57
        have hk54 : ((place.toNat : Nat) : Int) < g54 1 (4 * pl S + 2 + 1) - g54 1 (4 * pl S + 2) := by
          rw [e1]
          omega
        refine ts_iconst hx hb dX0_scrapCard_60 ?_
        refine ts_imul hx hb dX0_scrapCard_61 (fun z61 hz61 => ?_)
        refine ts_iconst hx hb dX0_scrapCard_62 ?_
        refine ts_iadd hx hb dX0_scrapCard_63 (fun z63 hz63 => ?_)
        refine lv_iload_n hx hb dX0_scrapCard_64 rfl (lv_at hl 2 rfl) ?_
        refine ts_bipush hx hb dX0_scrapCard_65 (by decide) ?_
        refine gm_callv (rest := []) cx hK hT hA hw hl (c_X0_moveToEnd l (4 * pl S + 2) place.toNat 15 g54 (by omega) hm54 hk54) tg_RX0_90 ⟨rfl, rfl⟩ 3 rfl (by decide +kernel) ⟨Nat.le_of_ble_eq_true rfl, Nat.le_of_ble_eq_true rfl⟩ ⟨Nat.zero_le _, Nat.zero_le _⟩ (Nat.le_of_ble_eq_true rfl) dX0_scrapCard_67 (by rw [show ((place.toNat : Nat) : Int) = place by omega, show z63 = ((4 * pl S + 2 : Nat) : Int) by omega]; rfl) (fun g67 H locs hq67 hw => ?_)
        refine lv_aload_n hx hb dX0_scrapCard_70 rfl (lv_at hl 1 rfl) ?_
        refine gm_get1 cx hK hw tl_RX0_15 dX0_scrapCard_71 ?_
        refine ts_bipush hx hb dX0_scrapCard_74 (by decide) ?_
        refine lv_dup2_11 hx hb dX0_scrapCard_76 rfl rfl ?_
        refine gm_ld1 cx hK hw (16) (by omega) dX0_scrapCard_77 (fun z77 hz77 => ?_)
        have hb77 := hT2 (16) (by omega)
        refine ts_iconst hx hb dX0_scrapCard_78 ?_
        refine ts_isub hx hb dX0_scrapCard_79 (fun z79 hz79 => ?_)
        refine gm_st1 cx hK hw (16) (by omega) dX0_scrapCard_80 (fun g80 H locs hg80 hw => ?_)
        have hp1 : ∀ j : Nat, g80 1 j = if 4 * pl S + 2 + 1 ≤ j ∧ j ≤ 16 then g 1 j - 1 else g 1 j := by
          intro j
          rw [hg80, u2_r]
          by_cases hj : j = 16
          · have hq16b := hq67.1 16
            rw [if_neg (by omega), e1] at hq16b
            rw [hj, if_pos rfl, if_pos (by omega), hz79, hz77, hq16b]
          · rw [if_neg hj, hq67.1 j, e1]
            by_cases hj2 : 4 * pl S + 2 + 1 ≤ j ∧ j ≤ 15
            · rw [if_pos hj2, if_pos (by omega)]
            · rw [if_neg hj2, if_neg (by omega)]
        have hq0 : ∀ j : Nat, g67 0 j = if (g54 1 (4 * pl S + 2)).toNat + place.toNat ≤ j ∧ (j : Int) < g54 1 16 - 1 then g54 0 (j + 1) else if (j : Int) = g54 1 16 - 1 then g54 0 ((g54 1 (4 * pl S + 2)).toNat + place.toNat) else g54 0 j := hq67.2.1
        have hp0 : ∀ j : Nat, (j : Int) < g 1 16 - 1 → g80 0 j = if (g 1 (4 * pl S + 2)).toNat + place.toNat ≤ j ∧ (j : Int) < g 1 16 - 1 then g 0 (j + 1) else g 0 j := by
          intro j hj
          rw [hg80, u2_row _ (by decide), hq0 j, e0, e1]
          by_cases hj2 : (g 1 (4 * pl S + 2)).toNat + place.toNat ≤ j ∧ (j : Int) < g 1 16 - 1
          · rw [if_pos hj2, if_pos hj2]
          · rw [if_neg hj2, if_neg (by omega), if_neg hj2]
        have hdel : PX g80 (lx (ul S.2 (pl S) 1 ((hand S).eraseIdx place.toNat))) := by
          rw [show (1 : Nat) = wx 2 from rfl, lx_ul _ (pl S) 2 _ (by omega)]
          have e : (fun q => if q = 4 * pl S + 2 then (hand S).eraseIdx place.toNat else lx S.2 q) = dlX (lx S.2) (4 * pl S + 2) place.toNat := by
            funext q
            unfold dlX
            rw [← hh]
          rw [e]
          exact PX_del hx0.2 (by omega) (by rw [← hh]; omega) hp1 hp0
        have r4 : ∀ j : Nat, g80 4 j = if j = 9 then z41 else g 4 j := fun j => by rw [hg80, u2_row _ (by decide), hq67.2.2.2.2, hg54, u2_row _ (by decide), hg42, u2_4]
        have r2 : ∀ j : Nat, g80 2 j = g 2 j := fun j => by rw [hg80, u2_row _ (by decide), hq67.2.2.1, hg54, u2_row _ (by decide), hg42, u2_row _ (by decide)]
        have r3 : ∀ j : Nat, g80 3 j = if j = z7.toNat then z53 else g 3 j := fun j => by rw [hg80, u2_row _ (by decide), hq67.2.2.2.1, hg54, u2_r, hg42, u2_row _ (by decide)]
        have hkz : (hand S).getD place.toNat 0 = z7 := by omega
        have hsz := hs z7.toNat (by omega)
        have hz51b : z51 = g 3 z7.toNat := by rw [hz51, hss2]
        have hR : RS g80 (uf (uf S.1 5 (S.1 5 - 1)) (20 + z7.toNat) (S.1 (20 + z7.toNat) + 1)) := ⟨by rw [r4 4]; simp only [uf]; (repeat' split) <;> omega, by rw [r4 5]; simp only [uf]; (repeat' split) <;> omega, by rw [r4 6]; simp only [uf]; (repeat' split) <;> omega, by rw [r4 7]; simp only [uf]; (repeat' split) <;> omega, by rw [r4 8]; simp only [uf]; (repeat' split) <;> omega, by rw [r4 9]; simp only [uf]; (repeat' split) <;> omega, by rw [r4 10]; simp only [uf]; (repeat' split) <;> omega, by rw [r4 11]; simp only [uf]; (repeat' split) <;> omega, by rw [r4 12]; simp only [uf]; (repeat' split) <;> omega, by rw [r4 13]; simp only [uf]; (repeat' split) <;> omega, fun j hj => by have hpj := hp j hj; rw [r2 j]; simp only [uf]; (repeat' split) <;> omega, fun j hj => by have hpj := hs j hj; rw [r3 j]; simp only [uf]; (repeat' split) <;> omega⟩
        refine lv_iload_n hx hb dX0_scrapCard_81 rfl (lv_at hl 0 rfl) ?_
        exact gm_ret cx hr hlocks hw (by rw [hO]; exact ⟨by show z7 = (hand S).getD place.toNat 0; omega, by show RS g80 (scrA S place.toNat).1; unfold scrA; rw [hkz]; exact hR, hdel⟩) dX0_scrapCard_82
      · skip
        refine ts_ldc (z := -1000002) hx hb cx.2.2.2.1 cx.2.2.2.2 tk_RX0_89 dX0_scrapCard_32 ?_
        exact gm_ret cx hr hlocks hw (by unfold scrO; rw [if_neg (fun h => h (by omega)), if_pos (by omega)]; exact ⟨rfl, hx0⟩) dX0_scrapCard_34
  · skip
    refine ts_ldc (z := -1000001) hx hb cx.2.2.2.1 cx.2.2.2.2 tk_RX0_62 dX0_scrapCard_15 ?_
    exact gm_ret cx hr hlocks hw (by unfold scrO; rw [if_pos (fun h => by omega)]; exact ⟨rfl, hx0⟩) dX0_scrapCard_17
theorem enS_hi (sc : SCT) {j : Nat} (h : 9 ≤ j) : enS sc j = sc j := by
  unfold enS
  rw [if_neg (by omega), if_neg (by omega), if_neg (by omega), if_neg (by omega), if_neg (by omega), if_neg (by omega), if_neg (by omega), if_neg (by omega)]
theorem emp_b (sc : SCT) : 0 ≤ emp sc ∧ emp sc ≤ 10 := by
  unfold emp
  have q1 := sumN_le (f := fun k => if sc (10 + k) = 0 then 1 else 0) (c := 1) (n := 10) (fun i _ => by (try dsimp only); split <;> omega)
  have q2 := sumN_nonneg (f := fun k => if sc (10 + k) = 0 then 1 else 0) (n := 10) (fun i _ => by (try dsimp only); split <;> omega)
  omega
set_option maxHeartbeats 4000000 in
set_option maxRecDepth 100000 in
theorem c_X0_endTurn (l : Launch) (g : GS) (S : StT) (hx0 : RX g S) (hv0 : VS S) : gmMi l yX0_endTurn (wU yX0_endTurn cX0_endTurn 2 (some .int)) ({ frames := 3, cells := 0, slots := 0, locals := 111 } : Room) [] g (fun z g1 => z = (endO S).1 ∧ RX g1 (endO S).2) := by
  refine gmMi_of (by decide) (Nat.le_of_ble_eq_true rfl) ?_
  intro p e s m args below meth c D cI tb ad A ls cx hr hlocks hK hA hT hw hl
  have hx := cx.1
  have hb := cx.2.1
  have hl : lv_has ls 2 [(0, .ref (ad 0))] := hl
  obtain ⟨h0, h1, h2, h3, h4, h5, h6, h9, h7, h8, hp, hs⟩ := id hx0.1
  have hpl := VS_pl hv0
  have hnx := VS_NX hx0 hv0
  have hnn := NX_13 hx0.1 hnx
  have hm := PX_M hx0.2
  have hm2 := PX_K hx0.2 (VS_kinds hv0)
  have hT2 := MX_b hm
  have hmn := mod_next (x := S.1 1) hnn.2.2.2.2.2.1
  rw [Int.emod_eq_of_lt hnn.2.2.2.2.2.2.1 hnn.2.2.2.2.2.2.2] at hmn
  refine lv_aload_n hx hb dX0_endTurn_0 rfl (lv_at hl 0 rfl) ?_
  refine gm_get13 cx hK hw tl_RX0_58 dX0_endTurn_1 (fun z1 hz1 => ?_)
  refine ts_if_eq (tgt := 10) hx hb (by omega) dX0_endTurn_4 (by decide) (fun c4 => ?_) (fun c4 => ?_)
  · skip
    refine lv_aload_n hx hb dX0_endTurn_10 rfl (lv_at hl 0 rfl) ?_
    refine gm_get1 cx hK hw tl_RX0_15 dX0_endTurn_11 ?_
    refine lv_aload_n hx hb dX0_endTurn_14 rfl (lv_at hl 0 rfl) ?_
    refine gm_get5 cx hK hw tl_RX0_34 dX0_endTurn_15 (fun z15 hz15 => ?_)
    refine ts_iconst hx hb dX0_endTurn_18 ?_
    refine ts_imul hx hb dX0_endTurn_19 (fun z19 hz19 => ?_)
    refine ts_iconst hx hb dX0_endTurn_20 ?_
    refine ts_iadd hx hb dX0_endTurn_21 (fun z21 hz21 => ?_)
    refine gm_ld1 cx hK hw (4 * pl S + 4) (by omega) dX0_endTurn_22 (fun z22 hz22 => ?_)
    have hb22 := hT2 (4 * pl S + 4) (by omega)
    refine lv_istore_n (lv' := [(1, .int (iN z22)), (0, .ref (ad 0))]) hx hb dX0_endTurn_23 rfl hl (by decide) rfl (fun ls hl => ?_)
    refine lv_aload_n hx hb dX0_endTurn_24 rfl (lv_at hl 1 rfl) ?_
    refine gm_get1 cx hK hw tl_RX0_15 dX0_endTurn_25 ?_
    have hv9 := hv0.2.2.2.1
    have hpb := hnx.2.2.2.2.2.2.2.2.2.1
    refine lv_aload_n hx hb dX0_endTurn_28 rfl (lv_at hl 1 rfl) ?_
    refine gm_get5 cx hK hw tl_RX0_34 dX0_endTurn_29 (fun z29 hz29 => ?_)
    refine ts_iconst hx hb dX0_endTurn_32 ?_
    refine ts_imul hx hb dX0_endTurn_33 (fun z33 hz33 => ?_)
    refine ts_iconst hx hb dX0_endTurn_34 ?_
    refine ts_iadd hx hb dX0_endTurn_35 (fun z35 hz35 => ?_)
    refine lv_iload_n hx hb dX0_endTurn_36 rfl (lv_at hl 0 rfl) ?_
    refine gm_st1 cx hK hw (4 * pl S + 2) (by omega) dX0_endTurn_37 (fun g37 H locs hg37 hw => ?_)
    refine lv_aload_n hx hb dX0_endTurn_38 rfl (lv_at hl 1 rfl) ?_
    refine gm_get1 cx hK hw tl_RX0_15 dX0_endTurn_39 ?_
    refine lv_aload_n hx hb dX0_endTurn_42 rfl (lv_at hl 1 rfl) ?_
    refine gm_get5 cx hK hw tl_RX0_34 dX0_endTurn_43 (fun z43 hz43 => ?_)
    have e37 : ∀ j : Nat, g37 4 j = g 4 j := fun j => by rw [hg37, u2_row _ (by decide)]
    rw [e37 5] at hz43
    refine ts_iconst hx hb dX0_endTurn_46 ?_
    refine ts_imul hx hb dX0_endTurn_47 (fun z47 hz47 => ?_)
    refine ts_iconst hx hb dX0_endTurn_48 ?_
    refine ts_iadd hx hb dX0_endTurn_49 (fun z49 hz49 => ?_)
    refine lv_iload_n hx hb dX0_endTurn_50 rfl (lv_at hl 0 rfl) ?_
    refine gm_st1 cx hK hw (4 * pl S + 3) (by omega) dX0_endTurn_51 (fun g51 H locs hg51 hw => ?_)
    refine lv_aload_n hx hb dX0_endTurn_52 rfl (lv_at hl 1 rfl) ?_
    refine lv_aload_n hx hb dX0_endTurn_53 rfl (lv_at hl 1 rfl) ?_
    refine gm_get5 cx hK hw tl_RX0_34 dX0_endTurn_54 (fun z54 hz54 => ?_)
    have e51 : ∀ j : Nat, g51 4 j = g 4 j := fun j => by rw [hg51, u2_row _ (by decide), hg37, u2_row _ (by decide)]
    rw [e51 5] at hz54
    have hx51 : PX g51 (lx (enL S.2 (pl S))) := by
      refine PX_end hpl.1 hx0.2 (fun j => ?_) (by rw [hg51, u2_row _ (by decide), hg37, u2_row _ (by decide)])
      rw [hg51, u2_r, hg37, u2_r]
      by_cases q3 : j = 4 * pl S + 3
      · rw [if_pos q3, if_pos (Or.inr q3), hz22]
      · rw [if_neg q3]
        by_cases q2 : j = 4 * pl S + 2
        · rw [if_pos q2, if_pos (Or.inl q2), hz22]
        · rw [if_neg q2, if_neg (by omega)]
    refine ts_iconst hx hb dX0_endTurn_57 ?_
    refine gm_callv (rest := []) cx hK hT hA hw hl (c_X0_drawCards l (pl S) 5 g51 (enL S.2 (pl S)) (by omega) (by omega) hx51) tg_RX0_75 ⟨rfl, rfl⟩ 2 rfl (by decide +kernel) ⟨Nat.le_of_ble_eq_true rfl, Nat.le_of_ble_eq_true rfl⟩ ⟨Nat.zero_le _, Nat.zero_le _⟩ (Nat.le_of_ble_eq_true rfl) dX0_endTurn_58 (by rw [show z54 = ((pl S : Nat) : Int) by omega]; rfl) (fun g58 H locs hq58 hw => ?_)
    have r58 : ∀ j : Nat, g58 4 j = g 4 j := fun j => by rw [hq58.2.2.2]; exact e51 j
    refine lv_aload_n hx hb dX0_endTurn_61 rfl (lv_at hl 1 rfl) ?_
    refine lv_aload_n hx hb dX0_endTurn_62 rfl (lv_at hl 1 rfl) ?_
    refine gm_get10 cx hK hw tl_RX0_49 dX0_endTurn_63 (fun z63 hz63 => ?_)
    refine lv_aload_n hx hb dX0_endTurn_66 rfl (lv_at hl 1 rfl) ?_
    refine gm_get11 cx hK hw tl_RX0_52 dX0_endTurn_67 (fun z67 hz67 => ?_)
    rw [r58 10] at hz63
    rw [r58 11] at hz67
    refine ts_iadd hx hb dX0_endTurn_70 (fun z70 hz70 => ?_)
    refine ts_bipush hx hb dX0_endTurn_71 (by decide) ?_
    refine ts_irem hx hb (by omega) dX0_endTurn_73 (fun z73 hz73 => ?_)
    refine gm_put10 cx hK hw tl_RX0_49 dX0_endTurn_74 (fun g74 H locs hg74 hw => ?_)
    have r74 : ∀ j : Nat, g74 4 j = if j = 10 then z73 else g 4 j := fun j => by rw [hg74, u2_4, r58 j]
    have q74 : g74 4 4 = g 4 4 := r74 4
    refine lv_aload_n hx hb dX0_endTurn_77 rfl (lv_at hl 1 rfl) ?_
    refine lv_aload_n hx hb dX0_endTurn_78 rfl (lv_at hl 1 rfl) ?_
    refine lv_aload_n hx hb dX0_endTurn_79 rfl (lv_at hl 1 rfl) ?_
    refine gm_get5 cx hK hw tl_RX0_34 dX0_endTurn_80 (fun z80 hz80 => ?_)
    have q745 : g74 4 5 = g 4 5 := r74 5
    rw [q745] at hz80
    refine gm_callr (rest := [.ref (ad 0)]) cx hK hT hA hw hl (c_X0_playerBehind l z80 g74 (by rw [q74]; omega) (by rw [q74]; omega)) tg_RX0_115 ⟨rfl, rfl⟩ 1 rfl (by decide +kernel) ⟨Nat.le_of_ble_eq_true rfl, Nat.le_of_ble_eq_true rfl⟩ ⟨Nat.zero_le _, Nat.zero_le _⟩ (Nat.le_of_ble_eq_true rfl) dX0_endTurn_83 (rfl) (fun z83 hz83 => ?_)
    rw [q74] at hz83
    refine gm_put5 cx hK hw tl_RX0_34 dX0_endTurn_86 (fun g86 H locs hg86 hw => ?_)
    have r86 : ∀ j : Nat, g86 4 j = if j = 5 then z83 else if j = 10 then z73 else g 4 j := fun j => by rw [hg86, u2_4, r74 j]
    refine lv_aload_n hx hb dX0_endTurn_89 rfl (lv_at hl 1 rfl) ?_
    refine gm_callv (rest := []) cx hK hT hA hw hl (c_X0_beginTurn l g86) tg_RX0_79 ⟨rfl, rfl⟩ 0 rfl (by decide +kernel) ⟨Nat.le_of_ble_eq_true rfl, Nat.le_of_ble_eq_true rfl⟩ ⟨Nat.zero_le _, Nat.zero_le _⟩ (Nat.le_of_ble_eq_true rfl) dX0_endTurn_90 (rfl) (fun g90 H locs hq90 hw => ?_)
    have r90 : ∀ j : Nat, g90 4 j = if j = 9 then 0 else if j = 8 then 1 else if j = 7 then 1 else if j = 6 then 0 else if j = 5 then z83 else if j = 10 then z73 else g 4 j := fun j => by rw [hq90, u2_4, u2_4, u2_4, u2_4, r86 j]
    refine lv_aload_n hx hb dX0_endTurn_93 rfl (lv_at hl 1 rfl) ?_
    refine lv_dup hx hb dX0_endTurn_94 rfl ?_
    refine gm_get12 cx hK hw tl_RX0_55 dX0_endTurn_95 (fun z95 hz95 => ?_)
    have hz95b : z95 = g 4 12 := hz95.trans (r90 12)
    refine ts_iconst hx hb dX0_endTurn_98 ?_
    refine ts_iadd hx hb dX0_endTurn_99 (fun z99 hz99 => ?_)
    refine gm_put12 cx hK hw tl_RX0_55 dX0_endTurn_100 (fun g100 H locs hg100 hw => ?_)
    have r100 : ∀ j : Nat, g100 4 j = if j = 12 then z99 else if j = 9 then 0 else if j = 8 then 1 else if j = 7 then 1 else if j = 6 then 0 else if j = 5 then z83 else if j = 10 then z73 else g 4 j := fun j => by rw [hg100, u2_4, r90 j]
    have e100 : ∀ j : Nat, g100 2 j = g 2 j := fun j => by rw [hg100, u2_row _ (by decide), hq90, u2_row _ (by decide), u2_row _ (by decide), u2_row _ (by decide), u2_row _ (by decide), hg86, u2_row _ (by decide), hg74, u2_row _ (by decide), hq58.2.1, hg51, u2_row _ (by decide), hg37, u2_row _ (by decide)]
    have f100 : ∀ j : Nat, g100 3 j = g 3 j := fun j => by rw [hg100, u2_row _ (by decide), hq90, u2_row _ (by decide), u2_row _ (by decide), u2_row _ (by decide), u2_row _ (by decide), hg86, u2_row _ (by decide), hg74, u2_row _ (by decide), hq58.2.2.1, hg51, u2_row _ (by decide), hg37, u2_row _ (by decide)]
    have x100 : PX g100 (lx (endA S).2) := PX_row hq58.1 (by rw [hg100, u2_row _ (by decide), hq90, u2_row _ (by decide), u2_row _ (by decide), u2_row _ (by decide), u2_row _ (by decide), hg86, u2_row _ (by decide), hg74, u2_row _ (by decide)]) (by rw [hg100, u2_row _ (by decide), hq90, u2_row _ (by decide), u2_row _ (by decide), u2_row _ (by decide), u2_row _ (by decide), hg86, u2_row _ (by decide), hg74, u2_row _ (by decide)])
    have hO : endO S = ((endA S).1 1, endA S) := by
      unfold endO
      rw [if_neg (by omega)]
    have hpb4 := hpb 4 (by omega)
    have hp4 : g 2 4 = S.1 14 := hp 4 (by omega)
    have e1004 := e100 4
    have hend1 : z83 = (S.1 1 + 1) % S.1 0 := by omega
    have hend6 : z73 = (S.1 6 + S.1 9) % 10 := by rw [hz73, hz70, hz63, hz67, h6, h9]
    have hend7 : z99 = S.1 7 + 1 := by rw [hz99, hz95b, h7]
    refine lv_aload_n hx hb dX0_endTurn_103 rfl (lv_at hl 1 rfl) ?_
    have cut126 : ∀ (ov : Int) (hov : ov = if S.1 14 = 0 ∨ 3 ≤ emp S.1 then 1 else 0) (H : Heap) (locs : List Loc) (hw : gmB D A s cI ad g100 H locs) (ls : Array Slot) (hl : lv_has ls 2 [(0, .ref (ad 0))]), W p l e ({ frames := 3, cells := 0, slots := 0, locals := 111 } : Room) s m args below meth c H locs 0 0 (gmQi D cI ad A below args s (fun z g1 => z = (endO S).1 ∧ RX g1 (endO S).2)) (F0 m 126 ls [.int (iN ov), .ref (ad 0)]) := by
      intro ov hov H locs hw ls hl
      refine gm_put13 cx hK hw (by first | omega | (rw [hov]; split <;> omega)) tl_RX0_58 dX0_endTurn_126 (fun g126 H locs hg126 hw => ?_)
      have r126 : ∀ j : Nat, g126 4 j = if j = 13 then ov else if j = 12 then z99 else if j = 9 then 0 else if j = 8 then 1 else if j = 7 then 1 else if j = 6 then 0 else if j = 5 then z83 else if j = 10 then z73 else g 4 j := fun j => by rw [hg126, u2_4, r100 j]
      have hR : RS g126 (enS S.1) := ⟨(r126 4).trans (h0), (r126 5).trans (hend1), (r126 6).trans (rfl), (r126 7).trans (rfl), (r126 8).trans (rfl), (r126 9).trans (rfl), (r126 10).trans (hend6), (r126 11).trans (h9), (r126 12).trans (hend7), (r126 13).trans (hov), fun j hj => by rw [enS_hi _ (by omega), ← hp j hj, ← e100 j, hg126, u2_row _ (by decide)], fun j hj => by rw [enS_hi _ (by omega), ← hs j hj, ← f100 j, hg126, u2_row _ (by decide)]⟩
      have x126 : PX g126 (lx (endA S).2) := PX_row x100 (by rw [hg126, u2_row _ (by decide)]) (by rw [hg126, u2_row _ (by decide)])
      have q130 : g126 4 5 = z83 := r126 5
      refine lv_aload_n hx hb dX0_endTurn_129 rfl (lv_at hl 0 rfl) ?_
      refine gm_get5 cx hK hw tl_RX0_34 dX0_endTurn_130 (fun z130 hz130 => ?_)
      exact gm_ret cx hr hlocks hw (by rw [hO]; exact ⟨by show z130 = (endA S).1 1; rw [hz130, q130]; exact hend1, hR, x126⟩) dX0_endTurn_133
    refine lv_aload_n hx hb dX0_endTurn_104 rfl (lv_at hl 1 rfl) ?_
    refine gm_get2 cx hK hw tl_RX0_18 dX0_endTurn_105 ?_
    refine ts_iconst hx hb dX0_endTurn_108 ?_
    refine gm_ld2 cx hK hw (4) (by omega) dX0_endTurn_109 (fun z109 hz109 => ?_)
    refine ts_if_le (tgt := 121) hx hb (by omega) dX0_endTurn_110 (by decide) (fun c110 => ?_) (fun c110 => ?_)
    · skip
      refine ts_iconst hx hb dX0_endTurn_121 ?_
      refine lv_goto (tgt := 126) hx hb dX0_endTurn_122 (by decide) ?_
      exact cut126 (1) (by split <;> omega) _ _ hw _ (lv_sub hl [1] rfl)
    · skip
      refine lv_aload_n hx hb dX0_endTurn_113 rfl (lv_at hl 1 rfl) ?_
      refine gm_callr (rest := [.ref (ad 0)]) cx hK hT hA hw hl (c_X0_emptyPiles l g100 (fun j hj => by rw [e100 j]; exact hpb j hj)) tg_RX0_128 ⟨rfl, rfl⟩ 0 rfl (by decide +kernel) ⟨Nat.le_of_ble_eq_true rfl, Nat.le_of_ble_eq_true rfl⟩ ⟨Nat.zero_le _, Nat.zero_le _⟩ (Nat.le_of_ble_eq_true rfl) dX0_endTurn_114 (rfl) (fun z114 hz114 => ?_)
      have hz114b : z114 = emp S.1 := by
        rw [hz114]
        unfold emp
        apply sumN_congr
        intro j hj
        rw [e100 j, hp j hj]
      have hempb := emp_b S.1
      refine ts_iconst hx hb dX0_endTurn_117 ?_
      refine ts_icmp_lt (tgt := 125) hx hb (by omega) dX0_endTurn_118 (by decide) (fun c118 => ?_) (fun c118 => ?_)
      · skip
        refine ts_iconst hx hb dX0_endTurn_125 ?_
        exact cut126 (0) (by split <;> omega) _ _ hw _ (lv_sub hl [1] rfl)
      · skip
        refine ts_iconst hx hb dX0_endTurn_121 ?_
        refine lv_goto (tgt := 126) hx hb dX0_endTurn_122 (by decide) ?_
        exact cut126 (1) (by split <;> omega) _ _ hw _ (lv_sub hl [1] rfl)
  · skip
    refine ts_ldc (z := -1000002) hx hb cx.2.2.2.1 cx.2.2.2.2 tk_RX0_89 dX0_endTurn_7 ?_
    exact gm_ret cx hr hlocks hw (by unfold endO; rw [if_pos (by omega)]; exact ⟨rfl, hx0⟩) dX0_endTurn_9
