set_option maxHeartbeats 4000000 in
set_option maxRecDepth 100000 in
theorem c_X0_takeFromPile (l : Launch) (w k : Nat) (g : GS) (L : LLT) (hw4 : w < 4) (hk : k < 10) (hx0 : PX g (lx L)) (hp : 0 ≤ g 2 k ∧ g 2 k ≤ 164) (h16 : 0 < g 2 k → g 1 16 < 164) : gmMv l yX0_takeFromPile (wU yX0_takeFromPile cX0_takeFromPile 5 none) ({ frames := 1, cells := 0, slots := 0, locals := 60 } : Room) [.int (iN ((w : Int))), .int (iN ((k : Int)))] g (fun g1 => (0 < g 2 k ∧ PX g1 (lx (ul L w 3 (L w 3 ++ [(k : Int)]))) ∧ (∀ j : Nat, g1 2 j = if j = k then g 2 k - 1 else g 2 j) ∧ g1 3 = g 3 ∧ g1 4 = g 4) ∨ (g 2 k = 0 ∧ g1 = g)) := by
  refine gmMv_of (by decide) (Nat.le_of_ble_eq_true rfl) ?_
  intro p e s m args below meth c D cI tb ad A ls cx hr hlocks hK hA hT hw hl
  have hx := cx.1
  have hb := cx.2.1
  have hl : lv_has ls 5 [(0, .ref (ad 0)), (1, .int (iN ((w : Int)))), (2, .int (iN ((k : Int))))] := hl
  have hm := PX_M hx0
  have hT2 := MX_b hm
  have hqq := MX_le hm (a := 4 * w + 2) (b := 16) (by omega) (by omega)
  refine lv_aload_n hx hb dX0_takeFromPile_0 rfl (lv_at hl 0 rfl) ?_
  refine gm_get1 cx hK hw tl_RX0_15 dX0_takeFromPile_1 ?_
  refine lv_iload_n hx hb dX0_takeFromPile_4 rfl (lv_at hl 1 rfl) ?_
  refine ts_iconst hx hb dX0_takeFromPile_5 ?_
  refine ts_imul hx hb dX0_takeFromPile_6 (fun z6 hz6 => ?_)
  refine ts_iconst hx hb dX0_takeFromPile_7 ?_
  refine ts_iadd hx hb dX0_takeFromPile_8 (fun z8 hz8 => ?_)
  refine gm_ld1 cx hK hw (4 * w + 2) (by omega) dX0_takeFromPile_9 (fun z9 hz9 => ?_)
  have hb9 := hT2 (4 * w + 2) (by omega)
  refine lv_istore_n (lv' := [(3, .int (iN z9)), (0, .ref (ad 0)), (1, .int (iN ((w : Int)))), (2, .int (iN ((k : Int))))]) hx hb dX0_takeFromPile_10 rfl hl (by decide) rfl (fun ls hl => ?_)
  refine lv_aload_n hx hb dX0_takeFromPile_11 rfl (lv_at hl 1 rfl) ?_
  refine gm_get2 cx hK hw tl_RX0_18 dX0_takeFromPile_12 ?_
  refine lv_iload_n hx hb dX0_takeFromPile_15 rfl (lv_at hl 3 rfl) ?_
  refine gm_ld2 cx hK hw (k) (by omega) dX0_takeFromPile_16 (fun z16 hz16 => ?_)
  refine ts_if_le (tgt := 33) hx hb (by omega) dX0_takeFromPile_17 (by decide) (fun c17 => ?_) (fun c17 => ?_)
  · skip
    exact gm_vret cx hr hlocks hw (Or.inr ⟨by omega, rfl⟩) dX0_takeFromPile_33
  · skip
    refine lv_aload_n hx hb dX0_takeFromPile_20 rfl (lv_at hl 1 rfl) ?_
    refine gm_get1 cx hK hw tl_RX0_15 dX0_takeFromPile_21 ?_
    refine ts_bipush hx hb dX0_takeFromPile_24 (by decide) ?_
    refine gm_ld1 cx hK hw (16) (by omega) dX0_takeFromPile_26 (fun z26 hz26 => ?_)
    have hb26 := hT2 (16) (by omega)
    refine ts_sipush hx hb dX0_takeFromPile_27 (by decide) ?_
    refine ts_icmp_lt (tgt := 34) hx hb (by omega) dX0_takeFromPile_30 (by decide) (fun c30 => ?_) (fun c30 => ?_)
    · skip
      refine lv_aload_n hx hb dX0_takeFromPile_34 rfl (lv_at hl 1 rfl) ?_
      refine gm_get0 cx hK hw tl_RX0_9 dX0_takeFromPile_35 ?_
      refine lv_iload_n hx hb dX0_takeFromPile_38 rfl (lv_at hl 0 rfl) ?_
      refine lv_aload_n hx hb dX0_takeFromPile_39 rfl (lv_at hl 1 rfl) ?_
      refine gm_get0 cx hK hw tl_RX0_9 dX0_takeFromPile_40 ?_
      refine lv_iload_n hx hb dX0_takeFromPile_43 rfl (lv_at hl 0 rfl) ?_
      refine ts_iconst hx hb dX0_takeFromPile_44 ?_
      refine ts_iadd hx hb dX0_takeFromPile_45 (fun z45 hz45 => ?_)
      refine lv_aload_n hx hb dX0_takeFromPile_46 rfl (lv_at hl 1 rfl) ?_
      refine gm_get1 cx hK hw tl_RX0_15 dX0_takeFromPile_47 ?_
      refine ts_bipush hx hb dX0_takeFromPile_50 (by decide) ?_
      refine gm_ld1 cx hK hw (16) (by omega) dX0_takeFromPile_52 (fun z52 hz52 => ?_)
      have hb52 := hT2 (16) (by omega)
      refine lv_iload_n hx hb dX0_takeFromPile_53 rfl (lv_at hl 0 rfl) ?_
      refine ts_isub hx hb dX0_takeFromPile_54 (fun z54 hz54 => ?_)
      refine gm_cpy cx hK hw hl (z9).toNat (z45).toNat (z54).toNat (by omega) tc_RX0 ⟨Nat.le_of_ble_eq_true rfl, Nat.le_of_ble_eq_true rfl⟩ dX0_takeFromPile_55 (fun g55 H locs hg55 hw => ?_)
      refine lv_aload_n hx hb dX0_takeFromPile_58 rfl (lv_at hl 1 rfl) ?_
      refine gm_get0 cx hK hw tl_RX0_9 dX0_takeFromPile_59 ?_
      refine lv_iload_n hx hb dX0_takeFromPile_62 rfl (lv_at hl 0 rfl) ?_
      refine lv_iload_n hx hb dX0_takeFromPile_63 rfl (lv_at hl 3 rfl) ?_
      refine gm_st0 cx hK hw (z9.toNat) (by omega) dX0_takeFromPile_64 (fun g64 H locs hg64 hw => ?_)
      refine lv_iload_n hx hb dX0_takeFromPile_65 rfl (lv_at hl 2 rfl) ?_
      refine ts_iconst hx hb dX0_takeFromPile_66 ?_
      refine ts_imul hx hb dX0_takeFromPile_67 (fun z67 hz67 => ?_)
      refine ts_iconst hx hb dX0_takeFromPile_68 ?_
      refine ts_iadd hx hb dX0_takeFromPile_69 (fun z69 hz69 => ?_)
      refine lv_istore (lv' := [(4, .int (iN z69)), (3, .int (iN z9)), (0, .ref (ad 0)), (1, .int (iN ((w : Int)))), (2, .int (iN ((k : Int))))]) hx hb dX0_takeFromPile_70 hl (by decide) rfl (fun ls hl => ?_)
      have cut72 : ∀ (fu : Nat) (i : Int) (ga : GS) (hmu : (17 - i).toNat < fu) (hi : (4 * w + 2 : Int) ≤ i ∧ i ≤ 17) (ha : ∀ j : Nat, ga 1 j = if 4 * w + 2 ≤ j ∧ (j : Int) < i then g 1 j + 1 else g 1 j) (hb0 : ga 0 = g64 0 ∧ ga 2 = g 2 ∧ ga 3 = g 3 ∧ ga 4 = g 4) (H : Heap) (locs : List Loc) (hw : gmB D A s cI ad ga H locs) (ls : Array Slot) (hl : lv_has ls 5 [(0, .ref (ad 0)), (2, .int (iN ((k : Int)))), (4, .int (iN i))]), W p l e ({ frames := 1, cells := 0, slots := 0, locals := 60 } : Room) s m args below meth c H locs 0 0 (gmQv D cI ad A below args s (fun g1 => (0 < g 2 k ∧ PX g1 (lx (ul L w 3 (L w 3 ++ [(k : Int)]))) ∧ (∀ j : Nat, g1 2 j = if j = k then g 2 k - 1 else g 2 j) ∧ g1 3 = g 3 ∧ g1 4 = g 4) ∨ (g 2 k = 0 ∧ g1 = g))) (F0 m 72 ls []) := by
        intro fu
        induction fu with
        | zero => intro i ga hmu; exact absurd hmu (Nat.not_lt_zero _)
        | succ fu ih72 =>
          intro i ga hmu hi ha hb0 H locs hw ls hl
          refine lv_iload hx hb dX0_takeFromPile_72 (lv_at hl 2 rfl) ?_
          refine ts_bipush hx hb dX0_takeFromPile_74 (by decide) ?_
          refine ts_icmp_gt (tgt := 96) hx hb (by omega) dX0_takeFromPile_76 (by decide) (fun c76 => ?_) (fun c76 => ?_)
          · skip
            refine lv_aload_n hx hb dX0_takeFromPile_96 rfl (lv_at hl 0 rfl) ?_
            refine gm_get2 cx hK hw tl_RX0_18 dX0_takeFromPile_97 ?_
            refine lv_iload_n hx hb dX0_takeFromPile_100 rfl (lv_at hl 1 rfl) ?_
            refine lv_dup2_11 hx hb dX0_takeFromPile_101 rfl rfl ?_
            refine gm_ld2 cx hK hw (k) (by omega) dX0_takeFromPile_102 (fun z102 hz102 => ?_)
            refine ts_iconst hx hb dX0_takeFromPile_103 ?_
            refine ts_isub hx hb dX0_takeFromPile_104 (fun z104 hz104 => ?_)
            refine gm_st2 cx hK hw (k) (by omega) dX0_takeFromPile_105 (fun g105 H locs hg105 hw => ?_)
            have hp1 : ∀ j : Nat, g105 1 j = if (4 * w + 1) + 1 ≤ j ∧ j ≤ 16 then g 1 j + 1 else g 1 j := by
              intro j
              rw [hg105, u2_row _ (by decide), ha j]
              by_cases hj : 4 * w + 2 ≤ j ∧ j ≤ 16
              · rw [if_pos hj, if_pos (by omega)]
              · rw [if_neg (by omega), if_neg (by omega)]
            have hp0 : ∀ j : Nat, g105 0 j = if g 1 ((4 * w + 1) + 1) < j ∧ (j : Int) ≤ g 1 16 then g 0 (j - 1) else if (j : Int) = g 1 ((4 * w + 1) + 1) then (k : Int) else g 0 j := by
              intro j
              rw [hg105, u2_row _ (by decide), hb0.1, hg64, u2_r, show (4 * w + 1) + 1 = 4 * w + 2 by omega]
              by_cases hj : j = z9.toNat
              · rw [hj, if_pos rfl, if_neg (by omega), if_pos (by omega)]
              · rw [if_neg hj, hg55]
                show (if 0 = 0 ∧ z45.toNat ≤ j ∧ j < z45.toNat + z54.toNat then g 0 (z9.toNat + (j - z45.toNat)) else g 0 j) = _
                by_cases hj2 : z45.toNat ≤ j ∧ j < z45.toNat + z54.toNat
                · rw [if_pos ⟨rfl, hj2⟩, if_pos (by omega)]
                  congr 1
                  omega
                · rw [if_neg (fun q => hj2 q.2), if_neg (by omega), if_neg (by omega)]
            have hput : PX g105 (lx (ul L w 3 (L w 3 ++ [(k : Int)]))) := by
              rw [show (3 : Nat) = wx 1 from rfl, lx_ul _ w 1 _ (by omega)]
              have e : (fun q => if q = 4 * w + 1 then L w (wx 1) ++ [(k : Int)] else lx L q) = ptX (lx L) (4 * w + 1) (k : Int) := by
                funext q
                unfold ptX
                rw [lx_at L w 1 (by omega)]
              rw [e]
              exact PX_put hx0 (by omega) (h16 (by omega)) hp1 hp0
            have hp2 : ∀ j : Nat, g105 2 j = if j = k then g 2 k - 1 else g 2 j := by
              intro j
              rw [hg105, u2_r, hz104, hz102, hb0.2.1]
            exact gm_vret cx hr hlocks hw (Or.inl ⟨by omega, hput, hp2, by rw [hg105, u2_row _ (by decide)]; exact hb0.2.2.1, by rw [hg105, u2_row _ (by decide)]; exact hb0.2.2.2⟩) dX0_takeFromPile_106
          · skip
            refine lv_aload_n hx hb dX0_takeFromPile_79 rfl (lv_at hl 0 rfl) ?_
            refine gm_get1 cx hK hw tl_RX0_15 dX0_takeFromPile_80 ?_
            refine lv_iload hx hb dX0_takeFromPile_83 (lv_at hl 2 rfl) ?_
            refine lv_dup2_11 hx hb dX0_takeFromPile_85 rfl rfl ?_
            have hai := ha i.toNat
            rw [if_neg (by omega)] at hai
            have hbi := hT2 i.toNat (by omega)
            refine gm_ld1 cx hK hw (i.toNat) (by omega) dX0_takeFromPile_86 (fun z86 hz86 => ?_)
            have hb86 := hT2 (i.toNat) (by omega)
            refine ts_iconst hx hb dX0_takeFromPile_87 ?_
            refine ts_iadd hx hb dX0_takeFromPile_88 (fun z88 hz88 => ?_)
            refine gm_st1 cx hK hw (i.toNat) (by omega) dX0_takeFromPile_89 (fun g89 H locs hg89 hw => ?_)
            obtain ⟨z90, hz90⟩ : ∃ z : Int, z = i + 1 := ⟨_, rfl⟩
            refine lv_iinc (v := iN z90) (lv' := [(4, .int (iN z90)), (0, .ref (ad 0)), (2, .int (iN ((k : Int))))]) hx hb dX0_takeFromPile_90 hl (k := 2) rfl (by rw [hz90]; exact iN_add _ _) (by decide) rfl (fun ls hl => ?_)
            have hnew : ∀ j : Nat, g89 1 j = if 4 * w + 2 ≤ j ∧ (j : Int) < z90 then g 1 j + 1 else g 1 j := by
              intro j
              rw [hg89, u2_r]
              by_cases hj : j = i.toNat
              · rw [hj, if_pos rfl, if_pos (by omega)]
                omega
              · rw [if_neg hj, ha j]
                by_cases hj2 : 4 * w + 2 ≤ j ∧ (j : Int) < i
                · rw [if_pos hj2, if_pos (by omega)]
                · rw [if_neg hj2, if_neg (by omega)]
            refine lv_goto (tgt := 72) hx hb dX0_takeFromPile_93 (by decide) ?_
            exact ih72 (z90) (g89) (by omega) (by omega) (hnew) (⟨by rw [hg89, u2_row _ (by decide)]; exact hb0.1, by rw [hg89, u2_row _ (by decide)]; exact hb0.2.1, by rw [hg89, u2_row _ (by decide)]; exact hb0.2.2.1, by rw [hg89, u2_row _ (by decide)]; exact hb0.2.2.2⟩) _ _ hw _ (lv_sub hl [1, 2, 0] rfl)
      exact cut72 _ (z69) (g64) (Nat.lt_succ_self _) (by omega) (fun j => by rw [if_neg (by omega), hg64, u2_row _ (by decide), hg55, uc_a _ (by decide)]) (⟨rfl, by rw [hg64, u2_row _ (by decide), hg55, uc_a _ (by decide)], by rw [hg64, u2_row _ (by decide), hg55, uc_a _ (by decide)], by rw [hg64, u2_row _ (by decide), hg55, uc_a _ (by decide)]⟩) _ _ hw _ (lv_sub hl [2, 4, 0] rfl)
    · exfalso
      omega
