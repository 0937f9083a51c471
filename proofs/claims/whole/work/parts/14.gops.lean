set_option maxHeartbeats 4000000 in
set_option maxRecDepth 100000 in
theorem c_X0_takeFromPile (l : Launch) (w k : Nat) (g : GS) (L : LLT) (hw4 : w < 4) (hk : k < 10) (hx0 : PX g (lx L)) (hp : 0 ≤ g 2 k ∧ g 2 k ≤ 164) (h16 : 0 < g 2 k → g 1 16 < 164) : gmMv l yX0_takeFromPile (wU yX0_takeFromPile cX0_takeFromPile 6 none) ({ frames := 1, cells := 0, slots := 0, locals := 60 } : Room) [.int (iN ((w : Int))), .int (iN ((k : Int)))] g (fun g1 => (0 < g 2 k ∧ PX g1 (lx (ul L w 3 (L w 3 ++ [(k : Int)]))) ∧ (∀ j : Nat, g1 2 j = if j = k then g 2 k - 1 else g 2 j) ∧ g1 3 = g 3 ∧ g1 4 = g 4 ∧ g1 1 16 = g 1 16 + 1) ∨ (g 2 k = 0 ∧ g1 = g)) := by
  refine gmMv_of (by decide) (Nat.le_of_ble_eq_true rfl) ?_
  intro p e s m args below meth c D cI tb ad A ls cx hr hlocks hK hA hT hw hl
  have hx := cx.1
  have hb := cx.2.1
  have hl : lv_has ls 6 [(0, .ref (ad 0)), (1, .int (iN ((w : Int)))), (2, .int (iN ((k : Int))))] := hl
  have hm := PX_M hx0
  have hT2 := MX_b hm
  have hqq := MX_le hm (a := 4 * w + 2) (b := 16) (by omega) (by omega)
  refine lv_aload_n hx hb dX0_takeFromPile_0 rfl (lv_at hl 0 rfl) ?_
  refine gm_get1 cx hK hw tl_RX0_15 dX0_takeFromPile_1 ?_
  refine lv_iload_n hx hb dX0_takeFromPile_4 rfl (lv_at hl 1 rfl) ?_
  refine ts_iconst hx hb dX0_takeFromPile_5 ?_
  refine ts_imul hx hb dX0_takeFromPile_6 (fun z6 hz6 => ?_)
  refine ts_iconst hx hb dX0_takeFromPile_7 ?_
  refine ts_iadd hx hb dX0_takeFromPile_8 (fun z8 hz8 => ?_)
  refine gm_ld1 cx hK hw (4 * w + 2) (by omega) dX0_takeFromPile_9 (fun z9 hz9 => ?_)
  have hb9 := hT2 (4 * w + 2) (by omega)
  refine lv_istore_n (lv' := [(3, .int (iN z9)), (0, .ref (ad 0)), (1, .int (iN ((w : Int)))), (2, .int (iN ((k : Int))))]) hx hb dX0_takeFromPile_10 rfl hl (by decide) rfl (fun ls hl => ?_)
  refine lv_aload_n hx hb dX0_takeFromPile_11 rfl (lv_at hl 1 rfl) ?_
  refine gm_get1 cx hK hw tl_RX0_15 dX0_takeFromPile_12 ?_
  refine ts_bipush hx hb dX0_takeFromPile_15 (by decide) ?_
  refine gm_ld1 cx hK hw (16) (by omega) dX0_takeFromPile_17 (fun z17 hz17 => ?_)
  have hb17 := hT2 (16) (by omega)
  refine lv_istore (lv' := [(4, .int (iN z17)), (3, .int (iN z9)), (0, .ref (ad 0)), (1, .int (iN ((w : Int)))), (2, .int (iN ((k : Int))))]) hx hb dX0_takeFromPile_18 hl (by decide) rfl (fun ls hl => ?_)
  refine lv_aload_n hx hb dX0_takeFromPile_20 rfl (lv_at hl 2 rfl) ?_
  refine gm_get2 cx hK hw tl_RX0_18 dX0_takeFromPile_21 ?_
  refine lv_iload_n hx hb dX0_takeFromPile_24 rfl (lv_at hl 4 rfl) ?_
  refine gm_ld2 cx hK hw (k) (by omega) dX0_takeFromPile_25 (fun z25 hz25 => ?_)
  refine ts_if_le (tgt := 47) hx hb (by omega) dX0_takeFromPile_26 (by decide) (fun c26 => ?_) (fun c26 => ?_)
  · skip
    exact gm_vret cx hr hlocks hw (Or.inr ⟨by omega, rfl⟩) dX0_takeFromPile_47
  · skip
    refine lv_iload_n hx hb dX0_takeFromPile_29 rfl (lv_at hl 1 rfl) ?_
    refine ts_if_lt (tgt := 47) hx hb (by omega) dX0_takeFromPile_30 (by decide) (fun c30 => ?_) (fun c30 => ?_)
    · exfalso
      omega
    · skip
      refine lv_iload_n hx hb dX0_takeFromPile_33 rfl (lv_at hl 1 rfl) ?_
      refine lv_iload hx hb dX0_takeFromPile_34 (lv_at hl 0 rfl) ?_
      refine ts_icmp_gt (tgt := 47) hx hb (by omega) dX0_takeFromPile_36 (by decide) (fun c36 => ?_) (fun c36 => ?_)
      · exfalso
        omega
      · skip
        refine lv_iload hx hb dX0_takeFromPile_39 (lv_at hl 0 rfl) ?_
        refine ts_sipush hx hb dX0_takeFromPile_41 (by decide) ?_
        refine ts_icmp_lt (tgt := 48) hx hb (by omega) dX0_takeFromPile_44 (by decide) (fun c44 => ?_) (fun c44 => ?_)
        · skip
          refine lv_aload_n hx hb dX0_takeFromPile_48 rfl (lv_at hl 2 rfl) ?_
          refine gm_get0 cx hK hw tl_RX0_9 dX0_takeFromPile_49 ?_
          refine lv_iload_n hx hb dX0_takeFromPile_52 rfl (lv_at hl 1 rfl) ?_
          refine lv_aload_n hx hb dX0_takeFromPile_53 rfl (lv_at hl 2 rfl) ?_
          refine gm_get0 cx hK hw tl_RX0_9 dX0_takeFromPile_54 ?_
          refine lv_iload_n hx hb dX0_takeFromPile_57 rfl (lv_at hl 1 rfl) ?_
          refine ts_iconst hx hb dX0_takeFromPile_58 ?_
          refine ts_iadd hx hb dX0_takeFromPile_59 (fun z59 hz59 => ?_)
          refine lv_iload hx hb dX0_takeFromPile_60 (lv_at hl 0 rfl) ?_
          refine lv_iload_n hx hb dX0_takeFromPile_62 rfl (lv_at hl 1 rfl) ?_
          refine ts_isub hx hb dX0_takeFromPile_63 (fun z63 hz63 => ?_)
          refine gm_cpy cx hK hw hl (z9).toNat (z59).toNat (z63).toNat (by omega) tc_RX0 ⟨Nat.le_of_ble_eq_true rfl, Nat.le_of_ble_eq_true rfl⟩ dX0_takeFromPile_64 (fun g64 H locs hg64 hw => ?_)
          refine lv_aload_n hx hb dX0_takeFromPile_67 rfl (lv_at hl 2 rfl) ?_
          refine gm_get0 cx hK hw tl_RX0_9 dX0_takeFromPile_68 ?_
          refine lv_iload_n hx hb dX0_takeFromPile_71 rfl (lv_at hl 1 rfl) ?_
          refine lv_iload_n hx hb dX0_takeFromPile_72 rfl (lv_at hl 4 rfl) ?_
          refine gm_st0 cx hK hw (z9.toNat) (by omega) dX0_takeFromPile_73 (fun g73 H locs hg73 hw => ?_)
          refine lv_iload_n hx hb dX0_takeFromPile_74 rfl (lv_at hl 3 rfl) ?_
          refine ts_iconst hx hb dX0_takeFromPile_75 ?_
          refine ts_imul hx hb dX0_takeFromPile_76 (fun z76 hz76 => ?_)
          refine ts_iconst hx hb dX0_takeFromPile_77 ?_
          refine ts_iadd hx hb dX0_takeFromPile_78 (fun z78 hz78 => ?_)
          refine lv_istore (lv' := [(5, .int (iN z78)), (4, .int (iN z17)), (3, .int (iN z9)), (0, .ref (ad 0)), (1, .int (iN ((w : Int)))), (2, .int (iN ((k : Int))))]) hx hb dX0_takeFromPile_79 hl (by decide) rfl (fun ls hl => ?_)
          have cut81 : ∀ (fu : Nat) (i : Int) (ga : GS) (hmu : (17 - i).toNat < fu) (hi : (4 * w + 2 : Int) ≤ i ∧ i ≤ 17) (ha : ∀ j : Nat, ga 1 j = if 4 * w + 2 ≤ j ∧ (j : Int) < i then g 1 j + 1 else g 1 j) (hb0 : ga 0 = g73 0 ∧ ga 2 = g 2 ∧ ga 3 = g 3 ∧ ga 4 = g 4) (H : Heap) (locs : List Loc) (hw : gmB D A s cI ad ga H locs) (ls : Array Slot) (hl : lv_has ls 6 [(0, .ref (ad 0)), (2, .int (iN ((k : Int)))), (5, .int (iN i))]), W p l e ({ frames := 1, cells := 0, slots := 0, locals := 60 } : Room) s m args below meth c H locs 0 0 (gmQv D cI ad A below args s (fun g1 => (0 < g 2 k ∧ PX g1 (lx (ul L w 3 (L w 3 ++ [(k : Int)]))) ∧ (∀ j : Nat, g1 2 j = if j = k then g 2 k - 1 else g 2 j) ∧ g1 3 = g 3 ∧ g1 4 = g 4 ∧ g1 1 16 = g 1 16 + 1) ∨ (g 2 k = 0 ∧ g1 = g))) (F0 m 81 ls []) := by
            intro fu
            induction fu with
            | zero => intro i ga hmu; exact absurd hmu (Nat.not_lt_zero _)
            | succ fu ih81 =>
              intro i ga hmu hi ha hb0 H locs hw ls hl
              refine lv_iload hx hb dX0_takeFromPile_81 (lv_at hl 2 rfl) ?_
              refine ts_bipush hx hb dX0_takeFromPile_83 (by decide) ?_
              refine ts_icmp_gt (tgt := 105) hx hb (by omega) dX0_takeFromPile_85 (by decide) (fun c85 => ?_) (fun c85 => ?_)
              · skip
                refine lv_aload_n hx hb dX0_takeFromPile_105 rfl (lv_at hl 0 rfl) ?_
                refine gm_get2 cx hK hw tl_RX0_18 dX0_takeFromPile_106 ?_
                refine lv_iload_n hx hb dX0_takeFromPile_109 rfl (lv_at hl 1 rfl) ?_
                refine lv_dup2_11 hx hb dX0_takeFromPile_110 rfl rfl ?_
                refine gm_ld2 cx hK hw (k) (by omega) dX0_takeFromPile_111 (fun z111 hz111 => ?_)
                refine ts_iconst hx hb dX0_takeFromPile_112 ?_
                refine ts_isub hx hb dX0_takeFromPile_113 (fun z113 hz113 => ?_)
                refine gm_st2 cx hK hw (k) (by omega) dX0_takeFromPile_114 (fun g114 H locs hg114 hw => ?_)
                have hp1 : ∀ j : Nat, g114 1 j = if (4 * w + 1) + 1 ≤ j ∧ j ≤ 16 then g 1 j + 1 else g 1 j := by
                  intro j
                  rw [hg114, u2_row _ (by decide), ha j]
                  by_cases hj : 4 * w + 2 ≤ j ∧ j ≤ 16
                  · rw [if_pos hj, if_pos (by omega)]
                  · rw [if_neg (by omega), if_neg (by omega)]
                have hp0 : ∀ j : Nat, g114 0 j = if g 1 ((4 * w + 1) + 1) < j ∧ (j : Int) ≤ g 1 16 then g 0 (j - 1) else if (j : Int) = g 1 ((4 * w + 1) + 1) then (k : Int) else g 0 j := by
                  intro j
                  rw [hg114, u2_row _ (by decide), hb0.1, hg73, u2_r, show (4 * w + 1) + 1 = 4 * w + 2 by omega]
                  by_cases hj : j = z9.toNat
                  · rw [hj, if_pos rfl, if_neg (by omega), if_pos (by omega)]
                  · rw [if_neg hj, hg64]
                    show (if 0 = 0 ∧ z59.toNat ≤ j ∧ j < z59.toNat + z63.toNat then g 0 (z9.toNat + (j - z59.toNat)) else g 0 j) = _
                    by_cases hj2 : z59.toNat ≤ j ∧ j < z59.toNat + z63.toNat
                    · rw [if_pos ⟨rfl, hj2⟩, if_pos (by omega)]
                      congr 1
                      omega
                    · rw [if_neg (fun q => hj2 q.2), if_neg (by omega), if_neg (by omega)]
                have hput : PX g114 (lx (ul L w 3 (L w 3 ++ [(k : Int)]))) := by
                  rw [show (3 : Nat) = wx 1 from rfl, lx_ul _ w 1 _ (by omega)]
                  have e : (fun q => if q = 4 * w + 1 then L w (wx 1) ++ [(k : Int)] else lx L q) = ptX (lx L) (4 * w + 1) (k : Int) := by
                    funext q
                    unfold ptX
                    rw [lx_at L w 1 (by omega)]
                  rw [e]
                  exact PX_put hx0 (by omega) (h16 (by omega)) hp1 hp0
                have hp2 : ∀ j : Nat, g114 2 j = if j = k then g 2 k - 1 else g 2 j := by
                  intro j
                  rw [hg114, u2_r, hz113, hz111, hb0.2.1]
                exact gm_vret cx hr hlocks hw (Or.inl ⟨by omega, hput, hp2, by rw [hg114, u2_row _ (by decide)]; exact hb0.2.2.1, by rw [hg114, u2_row _ (by decide)]; exact hb0.2.2.2, by rw [hp1 16, if_pos (by omega)]⟩) dX0_takeFromPile_115
              · skip
                refine lv_aload_n hx hb dX0_takeFromPile_88 rfl (lv_at hl 0 rfl) ?_
                refine gm_get1 cx hK hw tl_RX0_15 dX0_takeFromPile_89 ?_
                refine lv_iload hx hb dX0_takeFromPile_92 (lv_at hl 2 rfl) ?_
                refine lv_dup2_11 hx hb dX0_takeFromPile_94 rfl rfl ?_
                have hai := ha i.toNat
                rw [if_neg (by omega)] at hai
                have hbi := hT2 i.toNat (by omega)
                refine gm_ld1 cx hK hw (i.toNat) (by omega) dX0_takeFromPile_95 (fun z95 hz95 => ?_)
                have hb95 := hT2 (i.toNat) (by omega)
                refine ts_iconst hx hb dX0_takeFromPile_96 ?_
                refine ts_iadd hx hb dX0_takeFromPile_97 (fun z97 hz97 => ?_)
                refine gm_st1 cx hK hw (i.toNat) (by omega) dX0_takeFromPile_98 (fun g98 H locs hg98 hw => ?_)
                obtain ⟨z99, hz99⟩ : ∃ z : Int, z = i + 1 := ⟨_, rfl⟩
                refine lv_iinc (v := iN z99) (lv' := [(5, .int (iN z99)), (0, .ref (ad 0)), (2, .int (iN ((k : Int))))]) hx hb dX0_takeFromPile_99 hl (k := 2) rfl (by rw [hz99]; exact iN_add _ _) (by decide) rfl (fun ls hl => ?_)
                have hnew : ∀ j : Nat, g98 1 j = if 4 * w + 2 ≤ j ∧ (j : Int) < z99 then g 1 j + 1 else g 1 j := by
                  intro j
                  rw [hg98, u2_r]
                  by_cases hj : j = i.toNat
                  · rw [hj, if_pos rfl, if_pos (by omega)]
                    omega
                  · rw [if_neg hj, ha j]
                    by_cases hj2 : 4 * w + 2 ≤ j ∧ (j : Int) < i
                    · rw [if_pos hj2, if_pos (by omega)]
                    · rw [if_neg hj2, if_neg (by omega)]
                refine lv_goto (tgt := 81) hx hb dX0_takeFromPile_102 (by decide) ?_
                exact ih81 (z99) (g98) (by omega) (by omega) (hnew) (⟨by rw [hg98, u2_row _ (by decide)]; exact hb0.1, by rw [hg98, u2_row _ (by decide)]; exact hb0.2.1, by rw [hg98, u2_row _ (by decide)]; exact hb0.2.2.1, by rw [hg98, u2_row _ (by decide)]; exact hb0.2.2.2⟩) _ _ hw _ (lv_sub hl [1, 2, 0] rfl)
          exact cut81 _ (z78) (g73) (Nat.lt_succ_self _) (by omega) (fun j => by rw [if_neg (by omega), hg73, u2_row _ (by decide), hg64, uc_a _ (by decide)]) (⟨rfl, by rw [hg73, u2_row _ (by decide), hg64, uc_a _ (by decide)], by rw [hg73, u2_row _ (by decide), hg64, uc_a _ (by decide)], by rw [hg73, u2_row _ (by decide), hg64, uc_a _ (by decide)]⟩) _ _ hw _ (lv_sub hl [3, 5, 0] rfl)
        · exfalso
          omega
theorem PX_row {g g1 : GS} {LX : Nat → List Int} (h : PX g LX) (h0 : g1 0 = g 0) (h1 : g1 1 = g 1) : PX g1 LX := by
  unfold PX
  rw [h0, h1]
  exact h
theorem mod_next {x n : Int} (hn : 2 ≤ n ∧ n ≤ 4) : (0 ≤ x % n ∧ x % n < n) ∧ (x % n + 1 < n → (x + 1) % n = x % n + 1) ∧ (x % n + 1 = n → (x + 1) % n = 0) := by
  have : n = 2 ∨ n = 3 ∨ n = 4 := by omega
  rcases this with rfl | rfl | rfl <;> omega
theorem why_0 {sc : SCT} {k : Nat} (h : why sc k = 0) : sc 8 ≠ 1 ∧ sc (10 + k) ≠ 0 ∧ sc 3 ≠ 0 ∧ tv 0 k ≤ sc 2 := by
  unfold why at h
  repeat' split at h
  all_goals first | omega | (refine ⟨by assumption, by assumption, by assumption, by omega⟩)
theorem PX_end {g g1 : GS} {L : LLT} {p : Nat} (hp : p < 4) (h : PX g (lx L)) (h1 : ∀ j : Nat, g1 1 j = if j = 4 * p + 2 ∨ j = 4 * p + 3 then g 1 (4 * p + 4) else g 1 j) (hc : g1 0 = g 0) : PX g1 (lx (enL L p)) := by
  have a1 := h.2.1 (4 * p + 1) (by omega)
  have a2 := h.2.1 (4 * p + 2) (by omega)
  have a3 := h.2.1 (4 * p + 3) (by omega)
  rw [show lx L (4 * p + 1) = L p 3 from lx_at L p 1 (by omega)] at a1
  rw [show lx L (4 * p + 2) = L p 1 from lx_at L p 2 (by omega)] at a2
  rw [show lx L (4 * p + 3) = L p 2 from lx_at L p 3 (by omega)] at a3
  let LY : Nat → List Int := fun q => if q = 4 * p + 2 then L p 1 ++ L p 2 else if q = 4 * p + 3 then [] else lx L q
  let ga : GS := fun a j => if a = 1 ∧ j = 4 * p + 3 then g 1 (4 * p + 4) else g a j
  have hA : PX ga LY := by
    refine PX_cut h (r := 4 * p + 2) (by omega) (fun q h2 h3 => by show (if q = 4 * p + 2 then _ else if q = 4 * p + 3 then _ else lx L q) = _; rw [if_neg h2, if_neg h3]) ?_ (fun j => ?_) (fun j => by show (if 0 = 1 ∧ _ then _ else _) = _; rw [if_neg (by omega)])
    · show (if 4 * p + 2 = 4 * p + 2 then _ else _) ++ (if 4 * p + 2 + 1 = 4 * p + 2 then _ else if 4 * p + 2 + 1 = 4 * p + 3 then _ else _) = _
      rw [if_pos rfl, if_neg (by omega), if_pos (by omega), List.append_nil, show lx L (4 * p + 2) = L p 1 from lx_at L p 2 (by omega), show lx L (4 * p + 2 + 1) = L p 2 from lx_at L p 3 (by omega)]
    · show (if 1 = 1 ∧ j = 4 * p + 3 then _ else _) = if j = 4 * p + 2 + 1 then g 1 (4 * p + 2) + (((if 4 * p + 2 = 4 * p + 2 then L p 1 ++ L p 2 else _ : List Int).length : Nat) : Int) else g 1 j
      by_cases hj : j = 4 * p + 3
      · rw [if_pos ⟨rfl, hj⟩, if_pos hj, if_pos rfl, List.length_append]
        rw [show 4 * p + 1 + 1 = 4 * p + 2 by omega] at a1
        rw [show 4 * p + 2 + 1 = 4 * p + 3 by omega] at a2
        rw [show 4 * p + 3 + 1 = 4 * p + 4 by omega] at a3
        omega
      · rw [if_neg (fun z => hj z.2), if_neg (by omega)]
  refine PX_cut hA (r := 4 * p + 1) (by omega) (fun q h2 h3 => ?_) ?_ (fun j => ?_) (fun j => by rw [hc]; show _ = (if 0 = 1 ∧ _ then _ else _); rw [if_neg (by omega)])
  · show lx (enL L p) q = (if q = 4 * p + 2 then _ else if q = 4 * p + 3 then _ else lx L q)
    have e : enL L p = ul (ul (ul L p (wx 1) (L p 3 ++ L p 1 ++ L p 2)) p (wx 2) []) p (wx 3) [] := rfl
    rw [e, lx_ul _ p 3 _ (by omega), lx_ul _ p 2 _ (by omega), lx_ul _ p 1 _ (by omega)]
    dsimp only
    rw [if_neg (show ¬ q = 4 * p + 2 by omega), if_neg (show ¬ q = 4 * p + 2 by omega), if_neg (show ¬ q = 4 * p + 1 by omega)]
  · have e : enL L p = ul (ul (ul L p (wx 1) (L p 3 ++ L p 1 ++ L p 2)) p (wx 2) []) p (wx 3) [] := rfl
    rw [show lx (enL L p) (4 * p + 1) = (enL L p) p 3 from lx_at _ p 1 (by omega), show lx (enL L p) (4 * p + 1 + 1) = (enL L p) p 1 from lx_at _ p 2 (by omega)]
    show _ = (if 4 * p + 1 = 4 * p + 2 then _ else if 4 * p + 1 = 4 * p + 3 then _ else lx L (4 * p + 1)) ++ (if 4 * p + 1 + 1 = 4 * p + 2 then L p 1 ++ L p 2 else _)
    rw [if_neg (by omega), if_neg (by omega), if_pos (by omega), show lx L (4 * p + 1) = L p 3 from lx_at L p 1 (by omega)]
    unfold enL
    rw [ul_w _ _ (by decide), ul_w _ _ (by decide), ul_s, ul_w _ _ (by decide), ul_s, List.append_nil, List.append_assoc]
  · have e3 : lx (enL L p) (4 * p + 1) = L p 3 ++ L p 1 ++ L p 2 := by
      rw [show lx (enL L p) (4 * p + 1) = (enL L p) p 3 from lx_at _ p 1 (by omega)]
      unfold enL
      rw [ul_w _ _ (by decide), ul_w _ _ (by decide), ul_s]
    rw [h1 j, e3, List.length_append, List.length_append]
    show _ = if j = 4 * p + 1 + 1 then (if 1 = 1 ∧ 4 * p + 1 = 4 * p + 3 then _ else g 1 (4 * p + 1)) + _ else (if 1 = 1 ∧ j = 4 * p + 3 then g 1 (4 * p + 4) else g 1 j)
    rw [show 4 * p + 1 + 1 = 4 * p + 2 by omega] at a1 ⊢
    rw [show 4 * p + 2 + 1 = 4 * p + 3 by omega] at a2
    rw [show 4 * p + 3 + 1 = 4 * p + 4 by omega] at a3
    by_cases hj : j = 4 * p + 2
    · rw [if_pos (Or.inl hj), if_pos hj, if_neg (by omega)]
      omega
    · rw [if_neg hj]
      by_cases hj3 : j = 4 * p + 3
      · rw [if_pos (Or.inr hj3), if_pos ⟨rfl, hj3⟩]
      · rw [if_neg (by omega), if_neg (fun z => hj3 z.2)]
set_option maxHeartbeats 4000000 in
set_option maxRecDepth 100000 in
theorem c_X0_giveCurses (l : Launch) (g : GS) (L : LLT) (hx0 : PX g (lx L)) (hn : 2 ≤ g 4 4 ∧ g 4 4 ≤ 4) (hn2 : 0 ≤ g 4 5 ∧ g 4 5 < g 4 4) (hp : 0 ≤ g 2 5) (hsum : g 1 16 + g 2 5 ≤ 164) : gmMv l yX0_giveCurses (wU yX0_giveCurses cX0_giveCurses 3 none) ({ frames := 2, cells := 0, slots := 0, locals := 85 } : Room) [] g (fun g1 => PX g1 (lx (cuN (g 4 5) (g 4 4) (g 4 4 - 1).toNat (g 2 5, L)).2) ∧ (∀ j : Nat, g1 2 j = if j = 5 then (cuN (g 4 5) (g 4 4) (g 4 4 - 1).toNat (g 2 5, L)).1 else g 2 j) ∧ g1 3 = g 3 ∧ g1 4 = g 4) := by
  refine gmMv_of (by decide) (Nat.le_of_ble_eq_true rfl) ?_
  intro p e s m args below meth c D cI tb ad A ls cx hr hlocks hK hA hT hw hl
  have hx := cx.1
  have hb := cx.2.1
  have hl : lv_has ls 3 [(0, .ref (ad 0))] := hl
  have hmn := mod_next (x := g 4 5) hn
  rw [Int.emod_eq_of_lt hn2.1 hn2.2] at hmn
  have h16a := (MX_b (PX_M hx0) 16 (by omega))
  refine lv_aload_n hx hb dX0_giveCurses_0 rfl (lv_at hl 0 rfl) ?_
  refine lv_aload_n hx hb dX0_giveCurses_1 rfl (lv_at hl 0 rfl) ?_
  refine gm_get5 cx hK hw tl_RX0_34 dX0_giveCurses_2 (fun z2 hz2 => ?_)
  refine gm_callr (rest := []) cx hK hT hA hw hl (c_X0_playerBehind l z2 g (by omega) hn) tg_RX0_115 ⟨rfl, rfl⟩ 1 rfl (by decide +kernel) ⟨Nat.le_of_ble_eq_true rfl, Nat.le_of_ble_eq_true rfl⟩ ⟨Nat.zero_le _, Nat.zero_le _⟩ (Nat.le_of_ble_eq_true rfl) dX0_giveCurses_5 (rfl) (fun z5 hz5 => ?_)
  refine lv_istore_n (lv' := [(1, .int (iN z5)), (0, .ref (ad 0))]) hx hb dX0_giveCurses_8 rfl hl (by decide) rfl (fun ls hl => ?_)
  refine ts_iconst hx hb dX0_giveCurses_9 ?_
  refine lv_istore_n (lv' := [(2, .int (iN 1)), (1, .int (iN z5)), (0, .ref (ad 0))]) hx hb dX0_giveCurses_10 rfl hl (by decide) rfl (fun ls hl => ?_)
  have cut11 : ∀ (fu : Nat) (x : Int) (i : Int) (ga : GS) (ci : Int × LLT) (hmu : (5 - i).toNat < fu) (hi : 1 ≤ i ∧ i ≤ g 4 4) (hxx : x = (g 4 5 + i) % g 4 4) (hxb : 0 ≤ x ∧ x < g 4 4) (hci : ci = cuN (g 4 5) (g 4 4) (i - 1).toNat (g 2 5, L)) (hxi : PX ga (lx ci.2)) (hpi : ∀ j : Nat, ga 2 j = if j = 5 then ci.1 else g 2 j) (hcb : 0 ≤ ci.1 ∧ ga 1 16 + ci.1 ≤ 164) (hr3 : ga 3 = g 3) (hr4 : ga 4 = g 4) (H : Heap) (locs : List Loc) (hw : gmB D A s cI ad ga H locs) (ls : Array Slot) (hl : lv_has ls 3 [(0, .ref (ad 0)), (1, .int (iN x)), (2, .int (iN i))]), W p l e ({ frames := 2, cells := 0, slots := 0, locals := 85 } : Room) s m args below meth c H locs 0 0 (gmQv D cI ad A below args s (fun g1 => PX g1 (lx (cuN (g 4 5) (g 4 4) (g 4 4 - 1).toNat (g 2 5, L)).2) ∧ (∀ j : Nat, g1 2 j = if j = 5 then (cuN (g 4 5) (g 4 4) (g 4 4 - 1).toNat (g 2 5, L)).1 else g 2 j) ∧ g1 3 = g 3 ∧ g1 4 = g 4)) (F0 m 11 ls []) := by
    intro fu
    induction fu with
    | zero => intro x i ga ci hmu; exact absurd hmu (Nat.not_lt_zero _)
    | succ fu ih11 =>
      intro x i ga ci hmu hi hxx hxb hci hxi hpi hcb hr3 hr4 H locs hw ls hl
      refine lv_iload_n hx hb dX0_giveCurses_11 rfl (lv_at hl 2 rfl) ?_
      refine lv_aload_n hx hb dX0_giveCurses_12 rfl (lv_at hl 0 rfl) ?_
      refine gm_get4 cx hK hw tl_RX0_30 dX0_giveCurses_13 (fun z13 hz13 => ?_)
      rw [hr4] at hz13
      refine ts_icmp_ge (tgt := 37) hx hb (by omega) dX0_giveCurses_16 (by decide) (fun c16 => ?_) (fun c16 => ?_)
      · skip
        have hie : i = g 4 4 := by omega
        rw [hie] at hci
        exact gm_vret cx hr hlocks hw (⟨by rw [← hci]; exact hxi, by rw [← hci]; exact hpi, hr3, hr4⟩) dX0_giveCurses_37
      · skip
        have h16b := (MX_b (PX_M hxi) 16 (by omega))
        have hmx := mod_next (x := g 4 5 + i) hn
        rw [← hxx] at hmx
        refine lv_aload_n hx hb dX0_giveCurses_19 rfl (lv_at hl 0 rfl) ?_
        refine lv_iload_n hx hb dX0_giveCurses_20 rfl (lv_at hl 1 rfl) ?_
        refine ts_iconst hx hb dX0_giveCurses_21 ?_
        refine gm_callv (rest := []) cx hK hT hA hw hl (c_X0_takeFromPile l x.toNat 5 ga ci.2 (by omega) (by omega) hxi (by rw [hpi 5, if_pos rfl]; omega) (by rw [hpi 5, if_pos rfl]; omega)) tg_RX0_119 ⟨rfl, rfl⟩ 2 rfl (by decide +kernel) ⟨Nat.le_of_ble_eq_true rfl, Nat.le_of_ble_eq_true rfl⟩ ⟨Nat.zero_le _, Nat.zero_le _⟩ (Nat.le_of_ble_eq_true rfl) dX0_giveCurses_22 (by rw [show x = ((x.toNat : Nat) : Int) by omega]; rfl) (fun g22 H locs hq22 hw => ?_)
        have h224 : g22 4 = g 4 := by
          rcases hq22 with q | q
          · exact q.2.2.2.2.1.trans hr4
          · rw [q.2]; exact hr4
        have hr3n : g22 3 = g 3 := by
          rcases hq22 with q | q
          · exact q.2.2.2.1.trans hr3
          · rw [q.2]; exact hr3
        have hc5 : ga 2 5 = ci.1 := by rw [hpi 5, if_pos rfl]
        rw [hc5] at hq22
        have hxn : PX g22 (lx (cu1 ci x.toNat).2) := by
          rcases hq22 with q | q
          · unfold cu1
            rw [if_pos q.1]
            exact q.2.1
          · unfold cu1
            rw [if_neg (by omega), q.2]
            exact hxi
        have hpn : ∀ j : Nat, g22 2 j = if j = 5 then (cu1 ci x.toNat).1 else g 2 j := by
          intro j
          rcases hq22 with q | q
          · rw [q.2.2.1 j]
            unfold cu1
            rw [if_pos q.1]
            by_cases hj : j = 5
            · rw [if_pos hj, if_pos hj]
            · rw [if_neg hj, if_neg hj, hpi j, if_neg hj]
          · have e0 : cu1 ci x.toNat = ci := if_neg (by omega)
            rw [e0, q.2]
            exact hpi j
        have hcbn : 0 ≤ (cu1 ci x.toNat).1 ∧ g22 1 16 + (cu1 ci x.toNat).1 ≤ 164 := by
          rcases hq22 with q | q
          · unfold cu1
            rw [if_pos q.1]
            have := q.2.2.2.2.2
            omega
          · unfold cu1
            rw [if_neg (by omega), q.2]
            exact hcb
        refine lv_aload_n hx hb dX0_giveCurses_25 rfl (lv_at hl 0 rfl) ?_
        refine lv_iload_n hx hb dX0_giveCurses_26 rfl (lv_at hl 1 rfl) ?_
        refine gm_callr (rest := []) cx hK hT hA hw hl (c_X0_playerBehind l x g22 (by rw [h224]; omega) (by rw [h224]; omega)) tg_RX0_115 ⟨rfl, rfl⟩ 1 rfl (by decide +kernel) ⟨Nat.le_of_ble_eq_true rfl, Nat.le_of_ble_eq_true rfl⟩ ⟨Nat.zero_le _, Nat.zero_le _⟩ (Nat.le_of_ble_eq_true rfl) dX0_giveCurses_27 (rfl) (fun z27 hz27 => ?_)
        rw [h224] at hz27
        refine lv_istore_n (lv' := [(1, .int (iN z27)), (0, .ref (ad 0)), (2, .int (iN i))]) hx hb dX0_giveCurses_30 rfl hl (by decide) rfl (fun ls hl => ?_)
        obtain ⟨z31, hz31⟩ : ∃ z : Int, z = i + 1 := ⟨_, rfl⟩
        refine lv_iinc (v := iN z31) (lv' := [(2, .int (iN z31)), (1, .int (iN z27)), (0, .ref (ad 0))]) hx hb dX0_giveCurses_31 hl (k := 2) rfl (by rw [hz31]; exact iN_add _ _) (by decide) rfl (fun ls hl => ?_)
        have hcn : cu1 ci x.toNat = cuN (g 4 5) (g 4 4) (z31 - 1).toNat (g 2 5, L) := by
          rw [show (z31 - 1).toNat = (i - 1).toNat + 1 by omega]
          show _ = cu1 (cuN (g 4 5) (g 4 4) (i - 1).toNat (g 2 5, L)) ((g 4 5 + (((i - 1).toNat : Nat) + 1)) % g 4 4).toNat
          rw [← hci, show (((i - 1).toNat : Nat) : Int) + 1 = i by omega, ← hxx]
        refine lv_goto (tgt := 11) hx hb dX0_giveCurses_34 (by decide) ?_
        exact ih11 (z27) (z31) (g22) (cu1 ci x.toNat) (by omega) (by omega) (by rw [hz31, show g 4 5 + (i + 1) = g 4 5 + i + 1 by omega]; omega) (by omega) (hcn) (hxn) (hpn) (hcbn) (hr3n) (h224) _ _ hw _ (lv_sub hl [2, 1, 0] rfl)
  exact cut11 _ (z5) (1) (g) ((g 2 5, L)) (Nat.lt_succ_self _) (by omega) (by omega) (by omega) (rfl) (hx0) (fun j => by by_cases hj : j = 5 <;> simp [hj]) (⟨hp, hsum⟩) (rfl) (rfl) _ _ hw _ (lv_sub hl [2, 1, 0] rfl)
