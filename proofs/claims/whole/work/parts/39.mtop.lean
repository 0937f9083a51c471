set_option maxHeartbeats 4000000 in
set_option maxRecDepth 100000 in
theorem c_X2_know (l : Launch) (g : GS) (n : Nat) (h3 : g 4 3 = (n : Int)) (hn : n ≤ 4) : mmMv l yX2_know (wU yX2_know cX2_know 2 none) ({ frames := 0, cells := 0, slots := 0, locals := 0 } : Room) [] g (fun g1 => KN g1 g n) := by
  refine mmMv_of (by decide) (Nat.le_of_ble_eq_true rfl) ?_
  intro p e s m args below meth c D cI tb ad A ls cx hr hlocks hK hA hw hl
  have hx := cx.1
  have hb := cx.2.1
  have hl : lv_has ls 2 [(0, .ref (ad 0))] := hl
  refine lv_aload_n hx hb dX2_know_0 rfl (lv_at hl 0 rfl) ?_
  have cut49 : ∀ (gb : GS) (q : Nat) (hq : q + 1 = pushN n) (hq3 : q ≤ 3) (hb2 : ∀ j : Nat, j < 2670 * q → gb 2 j = g 2 (j + (if n = 4 then 2670 else 0))) (hbm : gb 0 = g 0 ∧ gb 1 = g 1 ∧ gb 3 = g 3 ∧ (∀ j : Nat, gb 4 j = if j = 3 then (q : Int) else g 4 j)) (H : Heap) (locs : List Loc) (hw : mmB D A s cI ad gb H locs) (ls : Array Slot) (hl : lv_has ls 2 [(0, .ref (ad 0))]), W p l e ({ frames := 0, cells := 0, slots := 0, locals := 0 } : Room) s m args below meth c H locs 0 0 (mmQv D cI ad A below args s (fun g1 => KN g1 g n)) (F0 m 49 ls []) := by
    intro gb q hq hq3 hb2 hbm H locs hw ls hl
    refine ts_iconst hx hb dX2_know_49 ?_
    refine lv_istore_n (lv' := [(1, .int (iN 0)), (0, .ref (ad 0))]) hx hb dX2_know_50 rfl hl (by decide) rfl (fun ls hl => ?_)
    have cut51 : ∀ (fu : Nat) (k : Int) (gc : GS) (hmu : (2670 - k).toNat < fu) (hk : 0 ≤ k ∧ k ≤ 2670) (hc : ∀ j : Nat, gc 2 j = if 2670 * q ≤ j ∧ (j : Int) < 2670 * q + k then g 0 (j - 2670 * q) else gb 2 j) (hcm : gc 0 = g 0 ∧ gc 1 = g 1 ∧ gc 3 = g 3 ∧ (∀ j : Nat, gc 4 j = if j = 3 then (q : Int) else g 4 j)) (H : Heap) (locs : List Loc) (hw : mmB D A s cI ad gc H locs) (ls : Array Slot) (hl : lv_has ls 2 [(0, .ref (ad 0)), (1, .int (iN k))]), W p l e ({ frames := 0, cells := 0, slots := 0, locals := 0 } : Room) s m args below meth c H locs 0 0 (mmQv D cI ad A below args s (fun g1 => KN g1 g n)) (F0 m 51 ls []) := by
      intro fu
      induction fu with
      | zero => intro k gc hmu; exact absurd hmu (Nat.not_lt_zero _)
      | succ fu ih51 =>
        intro k gc hmu hk hc hcm H locs hw ls hl
        refine lv_iload_n hx hb dX2_know_51 rfl (lv_at hl 1 rfl) ?_
        refine ts_sipush hx hb dX2_know_52 (by decide) ?_
        refine ts_icmp_ge (tgt := 85) hx hb (by omega) dX2_know_55 (by decide) (fun c55 => ?_) (fun c55 => ?_)
        · skip
          refine lv_aload_n hx hb dX2_know_85 rfl (lv_at hl 0 rfl) ?_
          refine lv_dup hx hb dX2_know_86 rfl ?_
          refine mm_get3 cx hK hw tl_RX2_44 dX2_know_87 (fun z87 hz87 => ?_)
          have hk3 := hcm.2.2.2 3
          rw [if_pos rfl] at hk3
          rw [hk3] at hz87
          refine ts_iconst hx hb dX2_know_90 ?_
          refine ts_iadd hx hb dX2_know_91 (fun z91 hz91 => ?_)
          refine mm_put3 cx hK hw tl_RX2_44 dX2_know_92 (fun g92 H locs hg92 hw => ?_)
          have hKN : KN g92 g n := by
            refine ⟨by rw [hg92, u2_row _ (by decide)]; exact hcm.1, by rw [hg92, u2_row _ (by decide)]; exact hcm.2.1, by rw [hg92, u2_row _ (by decide)]; exact hcm.2.2.1, fun j => ?_, fun b k' hb hk' => ?_, fun k' hk' => ?_⟩
            · rw [hg92, u2_4, hcm.2.2.2 j]
              by_cases e : j = 3
              · rw [if_pos e, if_pos e]; omega
              · rw [if_neg e, if_neg e, if_neg e]
            · rw [hg92, u2_row _ (by decide), hc, if_neg (by omega), hb2 _ (by omega)]
              congr 1
              split <;> omega
            · rw [hg92, u2_row _ (by decide), hc, if_pos (by omega)]
              congr 1
              omega
          exact mm_vret cx hr hlocks hw (hKN) dX2_know_95
        · skip
          refine lv_aload_n hx hb dX2_know_58 rfl (lv_at hl 0 rfl) ?_
          refine mm_get2 cx hK hw tl_RX2_16 dX2_know_59 ?_
          refine ts_sipush hx hb dX2_know_62 (by decide) ?_
          refine lv_aload_n hx hb dX2_know_65 rfl (lv_at hl 0 rfl) ?_
          refine mm_get3 cx hK hw tl_RX2_44 dX2_know_66 (fun z66 hz66 => ?_)
          have hk3 := hcm.2.2.2 3
          rw [if_pos rfl] at hk3
          refine ts_imul hx hb dX2_know_69 (fun z69 hz69 => ?_)
          refine lv_iload_n hx hb dX2_know_70 rfl (lv_at hl 1 rfl) ?_
          refine ts_iadd hx hb dX2_know_71 (fun z71 hz71 => ?_)
          refine lv_aload_n hx hb dX2_know_72 rfl (lv_at hl 0 rfl) ?_
          refine mm_get0 cx hK hw tl_RX2_7 dX2_know_73 ?_
          refine lv_iload_n hx hb dX2_know_76 rfl (lv_at hl 1 rfl) ?_
          refine mm_ld0 cx hK hw (k.toNat) (by omega) dX2_know_77 (fun z77 hz77 => ?_)
          refine mm_st2 cx hK hw (2670 * q + k.toNat) (by omega) dX2_know_78 (fun g78 H locs hg78 hw => ?_)
          obtain ⟨z79, hz79⟩ : ∃ z : Int, z = k + 1 := ⟨_, rfl⟩
          refine lv_iinc (v := iN z79) (lv' := [(1, .int (iN z79)), (0, .ref (ad 0))]) hx hb dX2_know_79 hl (k := 1) rfl (by rw [hz79]; exact iN_add _ _) (by decide) rfl (fun ls hl => ?_)
          rw [hcm.1] at hz77
          have hcn : ∀ j : Nat, g78 2 j = if 2670 * q ≤ j ∧ (j : Int) < 2670 * q + z79 then g 0 (j - 2670 * q) else gb 2 j := by
            intro j
            rw [hg78, u2_r]
            by_cases e : j = 2670 * q + k.toNat
            · rw [if_pos e, if_pos (by omega), hz77]
              congr 1
              omega
            · rw [if_neg e, hc j]
              by_cases e2 : 2670 * q ≤ j ∧ (j : Int) < 2670 * q + k
              · rw [if_pos e2, if_pos (by omega)]
              · rw [if_neg e2, if_neg (by omega)]
          refine lv_goto (tgt := 51) hx hb dX2_know_82 (by decide) ?_
          exact ih51 (z79) (g78) (by omega) (by omega) (hcn) (⟨by rw [hg78, u2_row _ (by decide)]; exact hcm.1, by rw [hg78, u2_row _ (by decide)]; exact hcm.2.1, by rw [hg78, u2_row _ (by decide)]; exact hcm.2.2.1, by rw [hg78, u2_row _ (by decide)]; exact hcm.2.2.2⟩) _ _ hw _ (lv_sub hl [1, 0] rfl)
    exact cut51 _ (0) (gb) (Nat.lt_succ_self _) (by omega) (fun j => by rw [if_neg (by omega)]) (hbm) _ _ hw _ (lv_sub hl [1, 0] rfl)
  refine mm_get3 cx hK hw tl_RX2_44 dX2_know_1 (fun z1 hz1 => ?_)
  refine ts_iconst hx hb dX2_know_4 ?_
  refine ts_icmp_ne (tgt := 49) hx hb (by omega) dX2_know_5 (by decide) (fun c5 => ?_) (fun c5 => ?_)
  · skip
    have hbm0 : g 0 = g 0 ∧ g 1 = g 1 ∧ g 3 = g 3 ∧ (∀ j : Nat, g 4 j = if j = 3 then (n:Int) else g 4 j) := by
      refine ⟨rfl, rfl, rfl, fun j => ?_⟩
      by_cases ej : j = 3
      · rw [if_pos ej, ej]; exact h3
      · rw [if_neg ej]
    exact cut49 (g) (n) (by unfold pushN; rw [if_neg (by omega)]) (by omega) (fun j hj => by rw [if_neg (by omega)]; rfl) (hbm0) _ _ hw _ (lv_sub hl [0] rfl)
  · skip
    refine ts_iconst hx hb dX2_know_8 ?_
    refine lv_istore_n (lv' := [(1, .int (iN 0)), (0, .ref (ad 0))]) hx hb dX2_know_9 rfl hl (by decide) rfl (fun ls hl => ?_)
    have cut10 : ∀ (fu : Nat) (i : Int) (ga : GS) (hmu : (8010 - i).toNat < fu) (hi : 0 ≤ i ∧ i ≤ 8010) (ha : ∀ j : Nat, ga 2 j = if (j : Int) < i then g 2 (2670 + j) else g 2 j) (hm : ga 0 = g 0 ∧ ga 1 = g 1 ∧ ga 3 = g 3 ∧ ga 4 = g 4) (H : Heap) (locs : List Loc) (hw : mmB D A s cI ad ga H locs) (ls : Array Slot) (hl : lv_has ls 2 [(0, .ref (ad 0)), (1, .int (iN i))]), W p l e ({ frames := 0, cells := 0, slots := 0, locals := 0 } : Room) s m args below meth c H locs 0 0 (mmQv D cI ad A below args s (fun g1 => KN g1 g n)) (F0 m 10 ls []) := by
      intro fu
      induction fu with
      | zero => intro i ga hmu; exact absurd hmu (Nat.not_lt_zero _)
      | succ fu ih10 =>
        intro i ga hmu hi ha hm H locs hw ls hl
        refine lv_iload_n hx hb dX2_know_10 rfl (lv_at hl 1 rfl) ?_
        refine ts_sipush hx hb dX2_know_11 (by decide) ?_
        refine ts_icmp_ge (tgt := 39) hx hb (by omega) dX2_know_14 (by decide) (fun c14 => ?_) (fun c14 => ?_)
        · skip
          refine lv_aload_n hx hb dX2_know_39 rfl (lv_at hl 0 rfl) ?_
          refine lv_dup hx hb dX2_know_40 rfl ?_
          refine mm_get3 cx hK hw tl_RX2_44 dX2_know_41 (fun z41 hz41 => ?_)
          rw [hm.2.2.2, h3] at hz41
          refine ts_iconst hx hb dX2_know_44 ?_
          refine ts_isub hx hb dX2_know_45 (fun z45 hz45 => ?_)
          refine mm_put3 cx hK hw tl_RX2_44 dX2_know_46 (fun g46 H locs hg46 hw => ?_)
          have hn4 : n = 4 := by omega
          have hb2x : ∀ j : Nat, j < 2670 * 3 → g46 2 j = g 2 (j + (if n = 4 then 2670 else 0)) := fun j hj => by rw [hg46, u2_row _ (by decide), ha j, if_pos (by omega), if_pos hn4, Nat.add_comm]
          have hbmx : g46 0 = g 0 ∧ g46 1 = g 1 ∧ g46 3 = g 3 ∧ (∀ j : Nat, g46 4 j = if j = 3 then ((3 : Nat) : Int) else g 4 j) := ⟨by rw [hg46, u2_row _ (by decide)]; exact hm.1, by rw [hg46, u2_row _ (by decide)]; exact hm.2.1, by rw [hg46, u2_row _ (by decide)]; exact hm.2.2.1, fun j => by rw [hg46, u2_4, hm.2.2.2, show z45 = ((3 : Nat) : Int) by omega]⟩
          exact cut49 (g46) (3) (by unfold pushN; rw [if_pos (by omega)]) (by omega) (hb2x) (hbmx) _ _ hw _ (lv_sub hl [0] rfl)
        · skip
          refine lv_aload_n hx hb dX2_know_17 rfl (lv_at hl 0 rfl) ?_
          refine mm_get2 cx hK hw tl_RX2_16 dX2_know_18 ?_
          refine lv_iload_n hx hb dX2_know_21 rfl (lv_at hl 1 rfl) ?_
          refine lv_aload_n hx hb dX2_know_22 rfl (lv_at hl 0 rfl) ?_
          refine mm_get2 cx hK hw tl_RX2_16 dX2_know_23 ?_
          refine ts_sipush hx hb dX2_know_26 (by decide) ?_
          refine lv_iload_n hx hb dX2_know_29 rfl (lv_at hl 1 rfl) ?_
          refine ts_iadd hx hb dX2_know_30 (fun z30 hz30 => ?_)
          refine mm_ld2 cx hK hw (2670 + i.toNat) (by omega) dX2_know_31 (fun z31 hz31 => ?_)
          refine mm_st2 cx hK hw (i.toNat) (by omega) dX2_know_32 (fun g32 H locs hg32 hw => ?_)
          obtain ⟨z33, hz33⟩ : ∃ z : Int, z = i + 1 := ⟨_, rfl⟩
          refine lv_iinc (v := iN z33) (lv' := [(1, .int (iN z33)), (0, .ref (ad 0))]) hx hb dX2_know_33 hl (k := 1) rfl (by rw [hz33]; exact iN_add _ _) (by decide) rfl (fun ls hl => ?_)
          have han : ∀ j : Nat, g32 2 j = if (j : Int) < z33 then g 2 (2670 + j) else g 2 j := by
            intro j
            rw [hg32, u2_r]
            by_cases e : j = i.toNat
            · rw [if_pos e, if_pos (by omega), hz31, ha, if_neg (by omega), e]
            · rw [if_neg e, ha j]
              by_cases e2 : (j : Int) < i
              · rw [if_pos e2, if_pos (by omega)]
              · rw [if_neg e2, if_neg (by omega)]
          refine lv_goto (tgt := 10) hx hb dX2_know_36 (by decide) ?_
          exact ih10 (z33) (g32) (by omega) (by omega) (han) (⟨by rw [hg32, u2_row _ (by decide)]; exact hm.1, by rw [hg32, u2_row _ (by decide)]; exact hm.2.1, by rw [hg32, u2_row _ (by decide)]; exact hm.2.2.1, by rw [hg32, u2_row _ (by decide)]; exact hm.2.2.2⟩) _ _ hw _ (lv_sub hl [1, 0] rfl)
    exact cut10 _ (0) (g) (Nat.lt_succ_self _) (by omega) (fun j => by rw [if_neg (by omega)]) (⟨rfl, rfl, rfl, rfl⟩) _ _ hw _ (lv_sub hl [1, 0] rfl)
