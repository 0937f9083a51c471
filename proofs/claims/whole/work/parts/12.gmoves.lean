set_option maxHeartbeats 4000000 in
set_option maxRecDepth 100000 in
theorem c_X0_beginTurn (l : Launch) (g : GS) : gmMv l yX0_beginTurn (wU yX0_beginTurn cX0_beginTurn 1 none) ({ frames := 0, cells := 0, slots := 0, locals := 0 } : Room) [] g (fun g1 => g1 = u2 (u2 (u2 (u2 g 4 6 0) 4 7 1) 4 8 1) 4 9 0) := by
  refine gmMv_of (by decide) (Nat.le_of_ble_eq_true rfl) ?_
  intro p e s m args below meth c D cI tb ad A ls cx hr hlocks hK hA hT hw hl
  have hx := cx.1
  have hb := cx.2.1
  have hl : lv_has ls 1 [(0, .ref (ad 0))] := hl
  refine lv_aload_n hx hb dX0_beginTurn_0 rfl (lv_at hl 0 rfl) ?_
  refine ts_iconst hx hb dX0_beginTurn_1 ?_
  refine gm_put6 cx hK hw tl_RX0_37 dX0_beginTurn_2 (fun g2 H locs hg2 hw => ?_)
  refine lv_aload_n hx hb dX0_beginTurn_5 rfl (lv_at hl 0 rfl) ?_
  refine ts_iconst hx hb dX0_beginTurn_6 ?_
  refine gm_put7 cx hK hw tl_RX0_40 dX0_beginTurn_7 (fun g7 H locs hg7 hw => ?_)
  refine lv_aload_n hx hb dX0_beginTurn_10 rfl (lv_at hl 0 rfl) ?_
  refine ts_iconst hx hb dX0_beginTurn_11 ?_
  refine gm_put8 cx hK hw tl_RX0_43 dX0_beginTurn_12 (fun g12 H locs hg12 hw => ?_)
  refine lv_aload_n hx hb dX0_beginTurn_15 rfl (lv_at hl 0 rfl) ?_
  refine ts_iconst hx hb dX0_beginTurn_16 ?_
  refine gm_put9 cx hK hw tl_RX0_46 dX0_beginTurn_17 (fun g17 H locs hg17 hw => ?_)
  exact gm_vret cx hr hlocks hw (by rw [hg17, hg12, hg7, hg2]) dX0_beginTurn_20
set_option maxHeartbeats 4000000 in
set_option maxRecDepth 100000 in
theorem c_X0_moveToEnd (l : Launch) (r k r2 : Nat) (g : GS) (hrr : r < r2 ∧ r2 < 16) (hm : MX g) (hk : (k : Int) < g 1 (r + 1) - g 1 r) : gmMv l yX0_moveToEnd (wU yX0_moveToEnd cX0_moveToEnd 8 none) ({ frames := 1, cells := 0, slots := 0, locals := 60 } : Room) [.int (iN ((r : Int))), .int (iN ((k : Int))), .int (iN ((r2 : Int)))] g (fun g1 => (∀ j : Nat, g1 1 j = if r + 1 ≤ j ∧ j ≤ r2 then g 1 j - 1 else g 1 j) ∧ (∀ j : Nat, g1 0 j = if (g 1 r).toNat + k ≤ j ∧ (j : Int) < g 1 (r2 + 1) - 1 then g 0 (j + 1) else if (j : Int) = g 1 (r2 + 1) - 1 then g 0 ((g 1 r).toNat + k) else g 0 j) ∧ g1 2 = g 2 ∧ g1 3 = g 3 ∧ g1 4 = g 4) := by
  refine gmMv_of (by decide) (Nat.le_of_ble_eq_true rfl) ?_
  intro p e s m args below meth c D cI tb ad A ls cx hr hlocks hK hA hT hw hl
  have hx := cx.1
  have hb := cx.2.1
  have hl : lv_has ls 8 [(0, .ref (ad 0)), (1, .int (iN ((r : Int)))), (2, .int (iN ((k : Int)))), (3, .int (iN ((r2 : Int))))] := hl
  have hT2 := MX_b hm
  have hq := MX_le hm (a := r + 1) (b := r2) (by omega) (by omega)
  have hq2 := hm.2.1 r2 (by omega)
  refine lv_aload_n hx hb dX0_moveToEnd_0 rfl (lv_at hl 0 rfl) ?_
  refine gm_get1 cx hK hw tl_RX0_15 dX0_moveToEnd_1 ?_
  refine lv_iload_n hx hb dX0_moveToEnd_4 rfl (lv_at hl 1 rfl) ?_
  refine gm_ld1 cx hK hw (r) (by omega) dX0_moveToEnd_5 (fun z5 hz5 => ?_)
  have hb5 := hT2 (r) (by omega)
  refine lv_iload_n hx hb dX0_moveToEnd_6 rfl (lv_at hl 2 rfl) ?_
  refine ts_iadd hx hb dX0_moveToEnd_7 (fun z7 hz7 => ?_)
  refine lv_istore (lv' := [(4, .int (iN z7)), (0, .ref (ad 0)), (1, .int (iN ((r : Int)))), (2, .int (iN ((k : Int)))), (3, .int (iN ((r2 : Int))))]) hx hb dX0_moveToEnd_8 hl (by decide) rfl (fun ls hl => ?_)
  refine lv_aload_n hx hb dX0_moveToEnd_10 rfl (lv_at hl 1 rfl) ?_
  refine gm_get1 cx hK hw tl_RX0_15 dX0_moveToEnd_11 ?_
  refine lv_iload_n hx hb dX0_moveToEnd_14 rfl (lv_at hl 4 rfl) ?_
  refine ts_iconst hx hb dX0_moveToEnd_15 ?_
  refine ts_iadd hx hb dX0_moveToEnd_16 (fun z16 hz16 => ?_)
  refine gm_ld1 cx hK hw (r2 + 1) (by omega) dX0_moveToEnd_17 (fun z17 hz17 => ?_)
  have hb17 := hT2 (r2 + 1) (by omega)
  refine ts_iconst hx hb dX0_moveToEnd_18 ?_
  refine ts_isub hx hb dX0_moveToEnd_19 (fun z19 hz19 => ?_)
  refine lv_istore (lv' := [(5, .int (iN z19)), (4, .int (iN z7)), (0, .ref (ad 0)), (1, .int (iN ((r : Int)))), (2, .int (iN ((k : Int)))), (3, .int (iN ((r2 : Int))))]) hx hb dX0_moveToEnd_20 hl (by decide) rfl (fun ls hl => ?_)
  refine lv_iload hx hb dX0_moveToEnd_22 (lv_at hl 1 rfl) ?_
  refine ts_if_lt (tgt := 53) hx hb (by omega) dX0_moveToEnd_24 (by decide) (fun c24 => ?_) (fun c24 => ?_)
  · exfalso
    omega
  · skip
    refine lv_iload hx hb dX0_moveToEnd_27 (lv_at hl 1 rfl) ?_
    refine lv_aload_n hx hb dX0_moveToEnd_29 rfl (lv_at hl 2 rfl) ?_
    refine gm_get1 cx hK hw tl_RX0_15 dX0_moveToEnd_30 ?_
    refine lv_iload_n hx hb dX0_moveToEnd_33 rfl (lv_at hl 3 rfl) ?_
    refine gm_ld1 cx hK hw (r) (by omega) dX0_moveToEnd_34 (fun z34 hz34 => ?_)
    have hb34 := hT2 (r) (by omega)
    refine ts_icmp_lt (tgt := 53) hx hb (by omega) dX0_moveToEnd_35 (by decide) (fun c35 => ?_) (fun c35 => ?_)
    · exfalso
      omega
    · skip
      refine lv_iload hx hb dX0_moveToEnd_38 (lv_at hl 1 rfl) ?_
      refine lv_iload hx hb dX0_moveToEnd_40 (lv_at hl 0 rfl) ?_
      refine ts_icmp_gt (tgt := 53) hx hb (by omega) dX0_moveToEnd_42 (by decide) (fun c42 => ?_) (fun c42 => ?_)
      · exfalso
        omega
      · skip
        refine lv_iload hx hb dX0_moveToEnd_45 (lv_at hl 0 rfl) ?_
        refine ts_sipush hx hb dX0_moveToEnd_47 (by decide) ?_
        refine ts_icmp_lt (tgt := 54) hx hb (by omega) dX0_moveToEnd_50 (by decide) (fun c50 => ?_) (fun c50 => ?_)
        · skip
          refine lv_aload_n hx hb dX0_moveToEnd_54 rfl (lv_at hl 2 rfl) ?_
          refine gm_get0 cx hK hw tl_RX0_9 dX0_moveToEnd_55 ?_
          refine lv_iload hx hb dX0_moveToEnd_58 (lv_at hl 1 rfl) ?_
          refine gm_ld0 cx hK hw ((g 1 r).toNat + k) (by omega) dX0_moveToEnd_60 (fun z60 hz60 => ?_)
          refine lv_istore (lv' := [(6, .int (iN z60)), (5, .int (iN z19)), (4, .int (iN z7)), (0, .ref (ad 0)), (1, .int (iN ((r : Int)))), (2, .int (iN ((k : Int)))), (3, .int (iN ((r2 : Int))))]) hx hb dX0_moveToEnd_61 hl (by decide) rfl (fun ls hl => ?_)
          refine lv_aload_n hx hb dX0_moveToEnd_63 rfl (lv_at hl 3 rfl) ?_
          refine gm_get0 cx hK hw tl_RX0_9 dX0_moveToEnd_64 ?_
          refine lv_iload hx hb dX0_moveToEnd_67 (lv_at hl 2 rfl) ?_
          refine ts_iconst hx hb dX0_moveToEnd_69 ?_
          refine ts_iadd hx hb dX0_moveToEnd_70 (fun z70 hz70 => ?_)
          refine lv_aload_n hx hb dX0_moveToEnd_71 rfl (lv_at hl 3 rfl) ?_
          refine gm_get0 cx hK hw tl_RX0_9 dX0_moveToEnd_72 ?_
          refine lv_iload hx hb dX0_moveToEnd_75 (lv_at hl 2 rfl) ?_
          refine lv_iload hx hb dX0_moveToEnd_77 (lv_at hl 1 rfl) ?_
          refine lv_iload hx hb dX0_moveToEnd_79 (lv_at hl 2 rfl) ?_
          refine ts_isub hx hb dX0_moveToEnd_81 (fun z81 hz81 => ?_)
          refine gm_cpy cx hK hw hl (z70).toNat (z7).toNat (z81).toNat (by omega) tc_RX0 ⟨Nat.le_of_ble_eq_true rfl, Nat.le_of_ble_eq_true rfl⟩ dX0_moveToEnd_82 (fun g82 H locs hg82 hw => ?_)
          refine lv_aload_n hx hb dX0_moveToEnd_85 rfl (lv_at hl 3 rfl) ?_
          refine gm_get0 cx hK hw tl_RX0_9 dX0_moveToEnd_86 ?_
          refine lv_iload hx hb dX0_moveToEnd_89 (lv_at hl 1 rfl) ?_
          refine lv_iload hx hb dX0_moveToEnd_91 (lv_at hl 0 rfl) ?_
          refine gm_st0 cx hK hw (z19.toNat) (by omega) dX0_moveToEnd_93 (fun g93 H locs hg93 hw => ?_)
          refine lv_iload_n hx hb dX0_moveToEnd_94 rfl (lv_at hl 4 rfl) ?_
          refine ts_iconst hx hb dX0_moveToEnd_95 ?_
          refine ts_iadd hx hb dX0_moveToEnd_96 (fun z96 hz96 => ?_)
          refine lv_istore (lv' := [(7, .int (iN z96)), (6, .int (iN z60)), (5, .int (iN z19)), (4, .int (iN z7)), (0, .ref (ad 0)), (1, .int (iN ((r : Int)))), (2, .int (iN ((k : Int)))), (3, .int (iN ((r2 : Int))))]) hx hb dX0_moveToEnd_97 hl (by decide) rfl (fun ls hl => ?_)
          have cut99 : ∀ (fu : Nat) (i : Int) (ga : GS) (hmu : ((r2 : Int) + 1 - i).toNat < fu) (hi : (r : Int) + 1 ≤ i ∧ i ≤ r2 + 1) (ha : ∀ j : Nat, ga 1 j = if r + 1 ≤ j ∧ (j : Int) < i then g 1 j - 1 else g 1 j) (hb0 : ga 0 = g93 0 ∧ ga 2 = g 2 ∧ ga 3 = g 3 ∧ ga 4 = g 4) (H : Heap) (locs : List Loc) (hw : gmB D A s cI ad ga H locs) (ls : Array Slot) (hl : lv_has ls 8 [(0, .ref (ad 0)), (3, .int (iN ((r2 : Int)))), (7, .int (iN i))]), W p l e ({ frames := 1, cells := 0, slots := 0, locals := 60 } : Room) s m args below meth c H locs 0 0 (gmQv D cI ad A below args s (fun g1 => (∀ j : Nat, g1 1 j = if r + 1 ≤ j ∧ j ≤ r2 then g 1 j - 1 else g 1 j) ∧ (∀ j : Nat, g1 0 j = if (g 1 r).toNat + k ≤ j ∧ (j : Int) < g 1 (r2 + 1) - 1 then g 0 (j + 1) else if (j : Int) = g 1 (r2 + 1) - 1 then g 0 ((g 1 r).toNat + k) else g 0 j) ∧ g1 2 = g 2 ∧ g1 3 = g 3 ∧ g1 4 = g 4)) (F0 m 99 ls []) := by
            intro fu
            induction fu with
            | zero => intro i ga hmu; exact absurd hmu (Nat.not_lt_zero _)
            | succ fu ih99 =>
              intro i ga hmu hi ha hb0 H locs hw ls hl
              refine lv_iload hx hb dX0_moveToEnd_99 (lv_at hl 2 rfl) ?_
              refine lv_iload_n hx hb dX0_moveToEnd_101 rfl (lv_at hl 1 rfl) ?_
              refine ts_icmp_gt (tgt := 122) hx hb (by omega) dX0_moveToEnd_102 (by decide) (fun c102 => ?_) (fun c102 => ?_)
              · skip
                have hp1 : ∀ j : Nat, ga 1 j = if r + 1 ≤ j ∧ j ≤ r2 then g 1 j - 1 else g 1 j := by
                  intro j
                  rw [ha j]
                  by_cases hj : r + 1 ≤ j ∧ j ≤ r2
                  · rw [if_pos hj, if_pos (by omega)]
                  · rw [if_neg hj, if_neg (by omega)]
                have hp0 : ∀ j : Nat, ga 0 j = if (g 1 r).toNat + k ≤ j ∧ (j : Int) < g 1 (r2 + 1) - 1 then g 0 (j + 1) else if (j : Int) = g 1 (r2 + 1) - 1 then g 0 ((g 1 r).toNat + k) else g 0 j := by
                  intro j
                  rw [hb0.1, hg93]
                  by_cases hj : j = z19.toNat
                  · rw [hj, u2_s, if_neg (by omega), if_pos (by omega), hz60]
                  · rw [u2_k _ hj, hg82]
                    show (if 0 = 0 ∧ z7.toNat ≤ j ∧ j < z7.toNat + z81.toNat then g 0 (z70.toNat + (j - z7.toNat)) else g 0 j) = _
                    by_cases hj2 : z7.toNat ≤ j ∧ j < z7.toNat + z81.toNat
                    · rw [if_pos ⟨rfl, hj2⟩, if_pos (by omega)]
                      congr 1
                      omega
                    · rw [if_neg (fun q => hj2 q.2), if_neg (by omega), if_neg (by omega)]
                exact gm_vret cx hr hlocks hw (⟨hp1, hp0, hb0.2.1, hb0.2.2.1, hb0.2.2.2⟩) dX0_moveToEnd_122
              · skip
                refine lv_aload_n hx hb dX0_moveToEnd_105 rfl (lv_at hl 0 rfl) ?_
                refine gm_get1 cx hK hw tl_RX0_15 dX0_moveToEnd_106 ?_
                refine lv_iload hx hb dX0_moveToEnd_109 (lv_at hl 2 rfl) ?_
                refine lv_dup2_11 hx hb dX0_moveToEnd_111 rfl rfl ?_
                have hai := ha i.toNat
                rw [if_neg (by omega)] at hai
                have hbi := hT2 i.toNat (by omega)
                refine gm_ld1 cx hK hw (i.toNat) (by omega) dX0_moveToEnd_112 (fun z112 hz112 => ?_)
                have hb112 := hT2 (i.toNat) (by omega)
                refine ts_iconst hx hb dX0_moveToEnd_113 ?_
                refine ts_isub hx hb dX0_moveToEnd_114 (fun z114 hz114 => ?_)
                refine gm_st1 cx hK hw (i.toNat) (by omega) dX0_moveToEnd_115 (fun g115 H locs hg115 hw => ?_)
                obtain ⟨z116, hz116⟩ : ∃ z : Int, z = i + 1 := ⟨_, rfl⟩
                refine lv_iinc (v := iN z116) (lv' := [(7, .int (iN z116)), (0, .ref (ad 0)), (3, .int (iN ((r2 : Int))))]) hx hb dX0_moveToEnd_116 hl (k := 2) rfl (by rw [hz116]; exact iN_add _ _) (by decide) rfl (fun ls hl => ?_)
                have hnew : ∀ j : Nat, g115 1 j = if r + 1 ≤ j ∧ (j : Int) < z116 then g 1 j - 1 else g 1 j := by
                  intro j
                  rw [hg115]
                  by_cases hj : j = i.toNat
                  · rw [hj, u2_s, if_pos (by omega)]
                    omega
                  · rw [u2_k _ hj, ha j]
                    by_cases hj2 : r + 1 ≤ j ∧ (j : Int) < i
                    · rw [if_pos hj2, if_pos (by omega)]
                    · rw [if_neg hj2, if_neg (by omega)]
                refine lv_goto (tgt := 99) hx hb dX0_moveToEnd_119 (by decide) ?_
                exact ih99 (z116) (g115) (by omega) (by omega) (hnew) (⟨by rw [hg115, u2_row _ (by decide)]; exact hb0.1, by rw [hg115, u2_row _ (by decide)]; exact hb0.2.1, by rw [hg115, u2_row _ (by decide)]; exact hb0.2.2.1, by rw [hg115, u2_row _ (by decide)]; exact hb0.2.2.2⟩) _ _ hw _ (lv_sub hl [1, 2, 0] rfl)
          exact cut99 _ (z96) (g93) (Nat.lt_succ_self _) (by omega) (fun j => by rw [if_neg (by omega), hg93, u2_row _ (by decide), hg82, uc_a _ (by decide)]) (⟨rfl, by rw [hg93, u2_row _ (by decide), hg82, uc_a _ (by decide)], by rw [hg93, u2_row _ (by decide), hg82, uc_a _ (by decide)], by rw [hg93, u2_row _ (by decide), hg82, uc_a _ (by decide)]⟩) _ _ hw _ (lv_sub hl [4, 7, 0] rfl)
        · exfalso
          omega
theorem wx_inj {a b : Nat} (ha : a < 4) (hb : b < 4) (h : wx a = wx b) : a = b := by
  unfold wx at h
  repeat' split at h
  all_goals omega
theorem lx_ul (L : LLT) (p r : Nat) (x : List Int) (hr : r < 4) : lx (ul L p (wx r) x) = fun q => if q = 4 * p + r then x else lx L q := by
  funext q
  unfold lx
  by_cases h : q = 4 * p + r
  · subst h
    rw [if_pos rfl, show (4 * p + r) / 4 = p by omega, show (4 * p + r) % 4 = r by omega, ul_s]
  · rw [if_neg h]
    unfold ul
    rw [if_neg]
    intro z
    have := wx_inj (Nat.mod_lt q (by omega)) hr z.2
    omega
theorem lx_mvL (L : LLT) (p r k r2 : Nat) (hr : r < 4) (hr2 : r2 < 4) (hne : r ≠ r2) : lx (mvL L p (wx r) k (wx r2)) = mvX (lx L) (4 * p + r) k (4 * p + r2) := by
  unfold mvL
  rw [lx_ul _ p r2 _ hr2, lx_ul _ p r _ hr]
  funext q
  unfold mvX
  rw [lx_at L p r hr, lx_at L p r2 hr2]
  by_cases h : q = 4 * p + r
  · subst h
    dsimp only
    rw [if_neg (by omega), if_pos rfl, if_pos rfl]
  · rw [if_neg h]
    simp only [if_neg h]
theorem flip_ne {L : LLT} {p : Nat} (h : L p 0 ≠ []) : flipL L p = L := if_neg h
theorem flip_flip {L : LLT} {p : Nat} (h : (flipL L p) p 0 = []) : flipL (flipL L p) p = flipL L p := by
  by_cases h0 : L p 0 = []
  · have e : flipL L p = ul (ul L p 0 (L p 3)) p 3 [] := if_pos h0
    have h3 : L p 3 = [] := by
      rw [e, ul_w _ _ (by decide), ul_s] at h
      exact h
    have e2 : flipL L p = ul (ul L p 0 []) p 3 [] := by rw [e, h3]
    rw [e2]
    unfold flipL
    rw [if_pos (by rw [ul_w _ _ (by decide), ul_s]), ul_s]
    funext p' w'
    by_cases hp : p' = p
    · subst hp
      by_cases hw : w' = 3
      · subst hw; rw [ul_s, ul_s]
      · rw [ul_w _ _ hw, ul_w _ _ hw]
        by_cases hw0 : w' = 0
        · subst hw0; rw [ul_s, ul_s]
        · rw [ul_w _ _ hw0, ul_w _ _ hw, ul_w _ _ hw0]
    · rw [ul_p _ _ hp, ul_p _ _ hp, ul_p _ _ hp, ul_p _ _ hp]
  · rw [flip_ne h0, flip_ne h0]
theorem dr_stop {L : LLT} {p : Nat} (h : (flipL L p) p 0 = []) : ∀ n : Nat, dr (n + 1) L p = flipL L p := by
  have e : dr1 L p = flipL L p := if_pos h
  have k : ∀ n : Nat, dr n (flipL L p) p = flipL L p := by
    intro n
    induction n with
    | zero => rfl
    | succ n ih =>
      show dr n (dr1 (flipL L p) p) p = flipL L p
      have e2 : dr1 (flipL L p) p = flipL (flipL L p) p := if_pos (by rw [flip_flip h]; exact h)
      rw [e2, flip_flip h]
      exact ih
  intro n
  show dr n (dr1 L p) p = _
  rw [e]
  exact k n
theorem PX_flip {g g1 : GS} {L : LLT} {p : Nat} (hp : p < 4) (h : PX g (lx L)) (h0 : L p 0 = []) (h1 : ∀ j : Nat, g1 1 j = if j = 4 * p + 1 then g 1 (4 * p + 2) else g 1 j) (hc : g1 0 = g 0) : PX g1 (lx (flipL L p)) := by
  have e : flipL L p = ul (ul L p (wx 0) (L p 3)) p (wx 1) [] := if_pos h0
  have a0 := h.2.1 (4 * p) (by omega)
  have a1 := h.2.1 (4 * p + 1) (by omega)
  have l0 : lx L (4 * p) = L p 0 := lx_at L p 0 (by omega)
  have l1 : lx L (4 * p + 1) = L p 3 := lx_at L p 1 (by omega)
  rw [l0, h0, List.length_nil] at a0
  rw [l1] at a1
  rw [e, lx_ul _ p 1 _ (by omega), lx_ul _ p 0 _ (by omega)]
  refine PX_cut h (r := 4 * p) (by omega) (fun q h2 h3 => by rw [if_neg h3]; exact if_neg h2) ?_ (fun j => ?_) (fun j => by rw [hc])
  · dsimp only
    rw [if_neg (by omega), if_pos (by omega), if_pos rfl, l0, l1, h0, List.append_nil, List.nil_append]
  · dsimp only
    rw [h1 j, if_neg (show ¬ 4 * p = 4 * p + 1 by omega), if_pos (show 4 * p = 4 * p + 0 by omega)]
    by_cases hj : j = 4 * p + 1
    · rw [if_pos hj, if_pos hj]
      rw [show 4 * p + 1 + 1 = 4 * p + 2 by omega] at a1
      omega
    · rw [if_neg hj, if_neg hj]
set_option maxHeartbeats 4000000 in
set_option maxRecDepth 100000 in
theorem c_X0_drawCards (l : Launch) (w n : Nat) (g : GS) (L : LLT) (hw4 : w < 4) (hn : n ≤ 164) (hx0 : PX g (lx L)) : gmMv l yX0_drawCards (wU yX0_drawCards cX0_drawCards 5 none) ({ frames := 2, cells := 0, slots := 0, locals := 87 } : Room) [.int (iN ((w : Int))), .int (iN ((n : Int)))] g (fun g1 => PX g1 (lx (dr n L w)) ∧ g1 2 = g 2 ∧ g1 3 = g 3 ∧ g1 4 = g 4) := by
  refine gmMv_of (by decide) (Nat.le_of_ble_eq_true rfl) ?_
  intro p e s m args below meth c D cI tb ad A ls cx hr hlocks hK hA hT hw hl
  have hx := cx.1
  have hb := cx.2.1
  have hl : lv_has ls 5 [(0, .ref (ad 0)), (1, .int (iN ((w : Int)))), (2, .int (iN ((n : Int))))] := hl
  refine lv_iload_n hx hb dX0_drawCards_0 rfl (lv_at hl 1 rfl) ?_
  refine ts_iconst hx hb dX0_drawCards_1 ?_
  refine ts_imul hx hb dX0_drawCards_2 (fun z2 hz2 => ?_)
  refine ts_iconst hx hb dX0_drawCards_3 ?_
  refine ts_iadd hx hb dX0_drawCards_4 (fun z4 hz4 => ?_)
  refine lv_istore_n (lv' := [(3, .int (iN z4)), (0, .ref (ad 0)), (1, .int (iN ((w : Int)))), (2, .int (iN ((n : Int))))]) hx hb dX0_drawCards_5 rfl hl (by decide) rfl (fun ls hl => ?_)
  refine ts_iconst hx hb dX0_drawCards_6 ?_
  refine lv_istore (lv' := [(4, .int (iN 0)), (3, .int (iN z4)), (0, .ref (ad 0)), (1, .int (iN ((w : Int)))), (2, .int (iN ((n : Int))))]) hx hb dX0_drawCards_7 hl (by decide) rfl (fun ls hl => ?_)
  have cut9 : ∀ (fu : Nat) (i : Int) (ga : GS) (Li : LLT) (hmu : ((n : Int) - i).toNat < fu) (hi : 0 ≤ i ∧ i ≤ n) (hxi : PX ga (lx Li)) (hdi : dr ((n : Int) - i).toNat Li w = dr n L w) (hri : ga 2 = g 2 ∧ ga 3 = g 3 ∧ ga 4 = g 4) (H : Heap) (locs : List Loc) (hw : gmB D A s cI ad ga H locs) (ls : Array Slot) (hl : lv_has ls 5 [(0, .ref (ad 0)), (2, .int (iN ((n : Int)))), (3, .int (iN z4)), (4, .int (iN i))]), W p l e ({ frames := 2, cells := 0, slots := 0, locals := 87 } : Room) s m args below meth c H locs 0 0 (gmQv D cI ad A below args s (fun g1 => PX g1 (lx (dr n L w)) ∧ g1 2 = g 2 ∧ g1 3 = g 3 ∧ g1 4 = g 4)) (F0 m 9 ls []) := by
    intro fu
    induction fu with
    | zero => intro i ga Li hmu; exact absurd hmu (Nat.not_lt_zero _)
    | succ fu ih9 =>
      intro i ga Li hmu hi hxi hdi hri H locs hw ls hl
      refine lv_iload hx hb dX0_drawCards_9 (lv_at hl 3 rfl) ?_
      refine lv_iload_n hx hb dX0_drawCards_11 rfl (lv_at hl 1 rfl) ?_
      refine ts_icmp_ge (tgt := 81) hx hb (by omega) dX0_drawCards_12 (by decide) (fun c12 => ?_) (fun c12 => ?_)
      · skip
        exact gm_vret cx hr hlocks hw (⟨by rw [← hdi, show ((n : Int) - i).toNat = 0 by omega]; exact hxi, hri⟩) dX0_drawCards_81
      · skip
        have hmi := PX_M hxi
        have hl0 := hxi.2.1 (4 * w) (by omega)
        rw [show lx Li (4 * w) = Li w 0 from lx_at Li w 0 (by omega)] at hl0
        refine lv_aload_n hx hb dX0_drawCards_15 rfl (lv_at hl 0 rfl) ?_
        refine gm_get1 cx hK hw tl_RX0_15 dX0_drawCards_16 ?_
        refine lv_iload_n hx hb dX0_drawCards_19 rfl (lv_at hl 2 rfl) ?_
        refine gm_ld1 cx hK hw (4 * w) (by omega) dX0_drawCards_20 (fun z20 hz20 => ?_)
        have hb20 := MX_b hmi (4 * w) (by omega)
        refine lv_aload_n hx hb dX0_drawCards_21 rfl (lv_at hl 0 rfl) ?_
        refine gm_get1 cx hK hw tl_RX0_15 dX0_drawCards_22 ?_
        refine lv_iload_n hx hb dX0_drawCards_25 rfl (lv_at hl 2 rfl) ?_
        refine ts_iconst hx hb dX0_drawCards_26 ?_
        refine ts_iadd hx hb dX0_drawCards_27 (fun z27 hz27 => ?_)
        refine gm_ld1 cx hK hw (4 * w + 1) (by omega) dX0_drawCards_28 (fun z28 hz28 => ?_)
        have hb28 := MX_b hmi (4 * w + 1) (by omega)
        have cut48 : ∀ (gb : GS) (hxb : PX gb (lx (flipL Li w))) (hrb : gb 2 = g 2 ∧ gb 3 = g 3 ∧ gb 4 = g 4) (H : Heap) (locs : List Loc) (hw : gmB D A s cI ad gb H locs) (ls : Array Slot) (hl : lv_has ls 5 [(0, .ref (ad 0)), (2, .int (iN ((n : Int)))), (3, .int (iN z4)), (4, .int (iN i))]), W p l e ({ frames := 2, cells := 0, slots := 0, locals := 87 } : Room) s m args below meth c H locs 0 0 (gmQv D cI ad A below args s (fun g1 => PX g1 (lx (dr n L w)) ∧ g1 2 = g 2 ∧ g1 3 = g 3 ∧ g1 4 = g 4)) (F0 m 48 ls []) := by
          intro gb hxb hrb H locs hw ls hl
          have hmi := PX_M hxb
          have hl1 := hxb.2.1 (4 * w) (by omega)
          rw [show lx (flipL Li w) (4 * w) = (flipL Li w) w 0 from lx_at (flipL Li w) w 0 (by omega)] at hl1
          refine lv_aload_n hx hb dX0_drawCards_48 rfl (lv_at hl 0 rfl) ?_
          refine gm_get1 cx hK hw tl_RX0_15 dX0_drawCards_49 ?_
          refine lv_iload_n hx hb dX0_drawCards_52 rfl (lv_at hl 2 rfl) ?_
          refine gm_ld1 cx hK hw (4 * w) (by omega) dX0_drawCards_53 (fun z53 hz53 => ?_)
          have hb53 := MX_b hmi (4 * w) (by omega)
          refine lv_aload_n hx hb dX0_drawCards_54 rfl (lv_at hl 0 rfl) ?_
          refine gm_get1 cx hK hw tl_RX0_15 dX0_drawCards_55 ?_
          refine lv_iload_n hx hb dX0_drawCards_58 rfl (lv_at hl 2 rfl) ?_
          refine ts_iconst hx hb dX0_drawCards_59 ?_
          refine ts_iadd hx hb dX0_drawCards_60 (fun z60 hz60 => ?_)
          refine gm_ld1 cx hK hw (4 * w + 1) (by omega) dX0_drawCards_61 (fun z61 hz61 => ?_)
          have hb61 := MX_b hmi (4 * w + 1) (by omega)
          refine ts_icmp_ne (tgt := 66) hx hb (by omega) dX0_drawCards_62 (by decide) (fun c62 => ?_) (fun c62 => ?_)
          · skip
            refine lv_aload_n hx hb dX0_drawCards_66 rfl (lv_at hl 0 rfl) ?_
            refine lv_iload_n hx hb dX0_drawCards_67 rfl (lv_at hl 2 rfl) ?_
            refine ts_iconst hx hb dX0_drawCards_68 ?_
            refine lv_iload_n hx hb dX0_drawCards_69 rfl (lv_at hl 2 rfl) ?_
            refine ts_iconst hx hb dX0_drawCards_70 ?_
            refine ts_iadd hx hb dX0_drawCards_71 (fun z71 hz71 => ?_)
            refine gm_callv (rest := []) cx hK hT hA hw hl (c_X0_moveToEnd l (4 * w) 0 (4 * w + 2) gb (by omega) hmi (by omega)) tg_RX0_90 ⟨rfl, rfl⟩ 3 rfl (by decide +kernel) ⟨Nat.le_of_ble_eq_true rfl, Nat.le_of_ble_eq_true rfl⟩ ⟨Nat.zero_le _, Nat.zero_le _⟩ (Nat.le_of_ble_eq_true rfl) dX0_drawCards_72 (by rw [show z4 = ((4 * w : Nat) : Int) by omega, show z71 = ((4 * w + 2 : Nat) : Int) by omega]; rfl) (fun g72 H locs hq72 hw => ?_)
            have hne : (flipL Li w) w 0 ≠ [] := fun z => by rw [z] at hl1; simp only [List.length_nil] at hl1; omega
            have hpos : 0 < ((flipL Li w) w 0).length := List.length_pos_iff.mpr hne
            have hxn : PX g72 (lx (dr1 Li w)) := by
              have e : dr1 Li w = mvL (flipL Li w) w (wx 0) 0 (wx 2) := if_neg hne
              rw [e, lx_mvL _ w 0 0 2 (by omega) (by omega) (by omega)]
              exact PX_move hxb (by omega) (by rw [show lx (flipL Li w) (4 * w + 0) = (flipL Li w) w 0 from lx_at (flipL Li w) w 0 (by omega)]; exact hpos) hq72.1 hq72.2.1
            obtain ⟨z75, hz75⟩ : ∃ z : Int, z = i + 1 := ⟨_, rfl⟩
            refine lv_iinc (v := iN z75) (lv' := [(4, .int (iN z75)), (0, .ref (ad 0)), (2, .int (iN ((n : Int)))), (3, .int (iN z4))]) hx hb dX0_drawCards_75 hl (k := 3) rfl (by rw [hz75]; exact iN_add _ _) (by decide) rfl (fun ls hl => ?_)
            have hnn : ((n : Int) - i).toNat = ((n : Int) - z75).toNat + 1 := by omega
            refine lv_goto (tgt := 9) hx hb dX0_drawCards_78 (by decide) ?_
            exact ih9 (z75) (g72) (dr1 Li w) (by omega) (by omega) (hxn) (by rw [← hdi, hnn]; show _ = dr (((n : Int) - z75).toNat) (dr1 Li w) w; rfl) (⟨hq72.2.2.1.trans hrb.1, hq72.2.2.2.1.trans hrb.2.1, hq72.2.2.2.2.trans hrb.2.2⟩) _ _ hw _ (lv_sub hl [1, 2, 3, 0] rfl)
          · skip
            have he := dr_stop (List.length_eq_zero_iff.mp (show ((flipL Li w) w 0).length = 0 by omega)) (((n : Int) - i).toNat - 1)
            rw [show ((n : Int) - i).toNat - 1 + 1 = ((n : Int) - i).toNat by omega, hdi] at he
            exact gm_vret cx hr hlocks hw (⟨by rw [he]; exact hxb, hrb⟩) dX0_drawCards_65
        refine ts_icmp_ne (tgt := 48) hx hb (by omega) dX0_drawCards_29 (by decide) (fun c29 => ?_) (fun c29 => ?_)
        · skip
          exact cut48 (ga) (by rw [flip_ne (fun z => by rw [z] at hl0; exact c29 (by rw [hz20, hz28]; simp only [List.length_nil] at hl0; omega))]; exact hxi) (hri) _ _ hw _ (lv_sub hl [0, 1, 2, 3] rfl)
        · skip
          refine lv_aload_n hx hb dX0_drawCards_32 rfl (lv_at hl 0 rfl) ?_
          refine gm_get1 cx hK hw tl_RX0_15 dX0_drawCards_33 ?_
          refine lv_iload_n hx hb dX0_drawCards_36 rfl (lv_at hl 2 rfl) ?_
          refine ts_iconst hx hb dX0_drawCards_37 ?_
          refine ts_iadd hx hb dX0_drawCards_38 (fun z38 hz38 => ?_)
          refine lv_aload_n hx hb dX0_drawCards_39 rfl (lv_at hl 0 rfl) ?_
          refine gm_get1 cx hK hw tl_RX0_15 dX0_drawCards_40 ?_
          refine lv_iload_n hx hb dX0_drawCards_43 rfl (lv_at hl 2 rfl) ?_
          refine ts_iconst hx hb dX0_drawCards_44 ?_
          refine ts_iadd hx hb dX0_drawCards_45 (fun z45 hz45 => ?_)
          refine gm_ld1 cx hK hw (4 * w + 2) (by omega) dX0_drawCards_46 (fun z46 hz46 => ?_)
          have hb46 := MX_b hmi (4 * w + 2) (by omega)
          refine gm_st1 cx hK hw (4 * w + 1) (by omega) dX0_drawCards_47 (fun g47 H locs hg47 hw => ?_)
          have h47j : ∀ j : Nat, g47 1 j = if j = 4 * w + 1 then ga 1 (4 * w + 2) else ga 1 j := by
            intro j
            rw [hg47]
            by_cases hj : j = 4 * w + 1
            · rw [hj, u2_s, if_pos rfl, hz46]
            · rw [u2_k _ hj, if_neg hj]
          exact cut48 (g47) (PX_flip hw4 hxi (List.length_eq_zero_iff.mp (by omega)) h47j (by rw [hg47, u2_row _ (by decide)])) (⟨by rw [hg47, u2_row _ (by decide)]; exact hri.1, by rw [hg47, u2_row _ (by decide)]; exact hri.2.1, by rw [hg47, u2_row _ (by decide)]; exact hri.2.2⟩) _ _ hw _ (lv_sub hl [0, 1, 2, 3] rfl)
  exact cut9 _ (0) (g) (L) (Nat.lt_succ_self _) (by omega) (hx0) (by rw [show ((n : Int) - 0).toNat = n by omega]) (⟨rfl, rfl, rfl⟩) _ _ hw _ (lv_sub hl [2, 4, 1, 0] rfl)
