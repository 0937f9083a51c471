theorem VS_nums {S : StT} (h : VS S) : (2 ≤ S.1 0 ∧ S.1 0 ≤ 4) ∧ (0 ≤ S.1 1 ∧ S.1 1 < S.1 0) ∧ (0 ≤ S.1 2 ∧ S.1 2 ≤ 1000) ∧ (0 ≤ S.1 3 ∧ S.1 3 ≤ 1000) ∧ (0 ≤ S.1 4 ∧ S.1 4 ≤ 1000) ∧ (0 ≤ S.1 5 ∧ S.1 5 ≤ 1000) ∧ (0 ≤ S.1 6 ∧ S.1 6 ≤ 9) ∧ (S.1 8 = 0 ∨ S.1 8 = 1) ∧ (0 ≤ S.1 9 ∧ S.1 9 ≤ 9) := by
  have hl := VS_len h (p := pl S) (w := 2) (VS_pl h).1 (by omega)
  obtain ⟨v0, v1, v6, v9, v8, vp, v2, v3, v4, v5, -, -, -⟩ := h
  omega
theorem VS_pb {S : StT} (h : VS S) (k : Nat) (hk : k < 20) : 0 ≤ S.1 (10 + k) ∧ S.1 (10 + k) ≤ 164 := by
  have h1 := VS_pile h k hk
  have h2 := lenS_nonneg S.2
  omega
theorem ts_ior0 {p : Program} {l : Launch} {e : Env} {R : Room} {s : State} {m : MethodId} {args : Array Value} {below : List Frame} {meth : Method} {c : Code} {H : Heap} {locs : List Loc} {cells slots : Nat} {Q : State → Prop} {cc : ByteArray} {pc : Nat} {ls : Array Slot} {rest : List Value} (hx : p.tables.exec = Jvm.exec) (hb : c.code = cc) {a : Int} (hdg : decode cc pc = .ok (.ior, 1)) (kk : W p l e R s m args below meth c H locs cells slots Q (F0 m (pc + 1) ls (.int (iN a) :: rest))) : W p l e R s m args below meth c H locs cells slots Q (F0 m pc ls (.int (iN 0) :: .int (iN a) :: rest)) := lv_ior hx hb hdg (by rw [iN_z, Int32.or_zero]; exact kk)
set_option maxHeartbeats 4000000 in
set_option maxRecDepth 100000 in
theorem c_X2_moveAll (l : Launch) (x y1 y2 : Int) (pq w1 w2 : Nat) (h : (x = (pq : Int) ∧ pq < 4) ∧ (y1 = (w1 : Int) ∧ w1 < 4) ∧ (y2 = (w2 : Int) ∧ w2 < 4) ∧ w1 ≠ w2) (g : GS) (L : LLT) (hq : QM g L) (hlen : (L pq w1).length + (L pq w2).length ≤ 164) : mmMv l yX2_moveAll (wU yX2_moveAll cX2_moveAll 6 none) ({ frames := 2, cells := 0, slots := 0, locals := 45 } : Room) [.int (iN x), .int (iN y1), .int (iN y2)] g (fun g1 => QM g1 (ul (ul L pq w2 (L pq w2 ++ L pq w1)) pq w1 []) ∧ MR g1 g) := by
  refine mmMv_of (by decide) (Nat.le_of_ble_eq_true rfl) ?_
  intro p e s m args below meth c D cI tb ad A ls cx hr hlocks hK hA hw hl
  have hx := cx.1
  have hb := cx.2.1
  have hl : lv_has ls 6 [(0, .ref (ad 0)), (1, .int (iN x)), (2, .int (iN y1)), (3, .int (iN y2))] := hl
  refine lv_iload_n hx hb dX2_moveAll_0 rfl (lv_at hl 1 rfl) ?_
  refine lv_iload_n hx hb dX2_moveAll_1 rfl (lv_at hl 2 rfl) ?_
  refine ps_call (rest := []) cx hl (c_X2_placeOf l x y1 pq w1 (by omega)) tg_RX2_26 ⟨rfl, rfl⟩ 2 rfl (by decide +kernel) ⟨Nat.le_of_ble_eq_true rfl, Nat.le_of_ble_eq_true rfl⟩ ⟨Nat.zero_le _, Nat.zero_le _⟩ (Nat.le_of_ble_eq_true rfl) dX2_moveAll_2 (rfl) (fun z2 hz2 => ?_)
  refine lv_istore (lv' := [(4, .int (iN z2)), (0, .ref (ad 0)), (1, .int (iN x)), (2, .int (iN y1)), (3, .int (iN y2))]) hx hb dX2_moveAll_5 hl (by decide) rfl (fun ls hl => ?_)
  refine ts_iconst hx hb dX2_moveAll_7 ?_
  refine lv_istore (lv' := [(5, .int (iN 1)), (4, .int (iN z2)), (0, .ref (ad 0)), (1, .int (iN x)), (2, .int (iN y1)), (3, .int (iN y2))]) hx hb dX2_moveAll_8 hl (by decide) rfl (fun ls hl => ?_)
  have hq1 : QM g (ul L pq w2 (L pq w2 ++ (L pq w1).take ((1 : Int) - 1).toNat)) := by
    rw [show ((1 : Int) - 1).toNat = 0 by omega, List.take_zero, List.append_nil]
    refine QM_congr hq (fun p' w' _ _ => ?_)
    unfold ul
    split
    · rename_i q
      rw [q.1, q.2]
    · rfl
  have hb1 := (hq pq w1 h.1.2 h.2.1.2).2.1
  have cut10 : ∀ (fu : Nat) (i : Int) (ga : GS) (hmu : ((L pq w1).length + 1 - i).toNat < fu) (hi : 1 ≤ i ∧ i ≤ (L pq w1).length + 1) (hqi : QM ga (ul L pq w2 (L pq w2 ++ (L pq w1).take (i - 1).toNat))) (hmr : MR ga g) (H : Heap) (locs : List Loc) (hw : mmB D A s cI ad ga H locs) (ls : Array Slot) (hl : lv_has ls 6 [(0, .ref (ad 0)), (1, .int (iN x)), (3, .int (iN y2)), (4, .int (iN z2)), (5, .int (iN i))]), W p l e ({ frames := 2, cells := 0, slots := 0, locals := 45 } : Room) s m args below meth c H locs 0 0 (mmQv D cI ad A below args s (fun g1 => QM g1 (ul (ul L pq w2 (L pq w2 ++ L pq w1)) pq w1 []) ∧ MR g1 g)) (F0 m 10 ls []) := by
    intro fu
    induction fu with
    | zero => intro i ga hmu; exact absurd hmu (Nat.not_lt_zero _)
    | succ fu ih10 =>
      intro i ga hmu hi hqi hmr H locs hw ls hl
      refine lv_iload hx hb dX2_moveAll_10 (lv_at hl 4 rfl) ?_
      refine lv_aload_n hx hb dX2_moveAll_12 rfl (lv_at hl 0 rfl) ?_
      refine mm_get0 cx hK hw tl_RX2_7 dX2_moveAll_13 ?_
      refine lv_iload hx hb dX2_moveAll_16 (lv_at hl 3 rfl) ?_
      refine mm_ld0 cx hK hw (30 + 165 * (4 * pq + w1)) (by omega) dX2_moveAll_18 (fun z18 hz18 => ?_)
      obtain ⟨b1, b2, b3⟩ := hqi pq w1 h.1.2 h.2.1.2
      rw [ul_w _ _ h.2.2.2] at b1 b2 b3
      rw [b1] at hz18
      refine ts_icmp_gt (tgt := 44) hx hb (by omega) dX2_moveAll_19 (by decide) (fun c19 => ?_) (fun c19 => ?_)
      · skip
        refine lv_aload_n hx hb dX2_moveAll_44 rfl (lv_at hl 0 rfl) ?_
        refine mm_get0 cx hK hw tl_RX2_7 dX2_moveAll_45 ?_
        refine lv_iload hx hb dX2_moveAll_48 (lv_at hl 3 rfl) ?_
        refine ts_iconst hx hb dX2_moveAll_50 ?_
        refine mm_st0 cx hK hw (30 + 165 * (4 * pq + w1)) (by omega) dX2_moveAll_51 (fun g51 H locs hg51 hw => ?_)
        have hie : (i - 1).toNat = (L pq w1).length := by omega
        rw [hie, List.take_length] at hqi
        have hj : ∀ j : Nat, g51 0 j = if j = 30 + 165 * (4 * pq + w1) then 0 else ga 0 j := fun j => by rw [hg51, u2_r]
        have hMR : MR g51 ga := ⟨fun i hi => by rw [hj i, if_neg (by omega)], by rw [hg51, u2_row _ (by decide)], by rw [hg51, u2_row _ (by decide)], by rw [hg51, u2_row _ (by decide)], by rw [hg51, u2_row _ (by decide)]⟩
        exact mm_vret cx hr hlocks hw (⟨QM_zero hqi h.1.2 h.2.1.2 hj, MR_tr hMR hmr⟩) dX2_moveAll_52
      · skip
        refine lv_aload_n hx hb dX2_moveAll_22 rfl (lv_at hl 0 rfl) ?_
        refine lv_iload_n hx hb dX2_moveAll_23 rfl (lv_at hl 1 rfl) ?_
        refine lv_iload_n hx hb dX2_moveAll_24 rfl (lv_at hl 2 rfl) ?_
        refine lv_aload_n hx hb dX2_moveAll_25 rfl (lv_at hl 0 rfl) ?_
        refine mm_get0 cx hK hw tl_RX2_7 dX2_moveAll_26 ?_
        refine lv_iload hx hb dX2_moveAll_29 (lv_at hl 3 rfl) ?_
        refine lv_iload hx hb dX2_moveAll_31 (lv_at hl 4 rfl) ?_
        refine ts_iadd hx hb dX2_moveAll_33 (fun z33 hz33 => ?_)
        refine mm_ld0 cx hK hw (30 + 165 * (4 * pq + w1) + i.toNat) (by omega) dX2_moveAll_34 (fun z34 hz34 => ?_)
        have hz34b : z34 = (L pq w1).getD (i - 1).toNat 0 := by
          have := b3 (i - 1).toNat (by omega)
          rw [← this, hz34]
          congr 1
          omega
        refine mm_callv (rest := []) cx hK hA hw hl (c_X2_put l x y2 pq w2 ⟨h.1, h.2.2.1⟩ z34 ga (ul L pq w2 (L pq w2 ++ (L pq w1).take (i - 1).toNat)) hqi (by rw [ul_s, List.length_append, List.length_take]; omega)) tg_RX2_30 ⟨rfl, rfl⟩ 3 rfl (by decide +kernel) ⟨Nat.le_of_ble_eq_true rfl, Nat.le_of_ble_eq_true rfl⟩ ⟨Nat.zero_le _, Nat.zero_le _⟩ (Nat.le_of_ble_eq_true rfl) dX2_moveAll_35 (rfl) (fun g35 H locs hq35 hw => ?_)
        obtain ⟨z38, hz38⟩ : ∃ z : Int, z = i + 1 := ⟨_, rfl⟩
        refine lv_iinc (v := iN z38) (lv' := [(5, .int (iN z38)), (0, .ref (ad 0)), (1, .int (iN x)), (3, .int (iN y2)), (4, .int (iN z2))]) hx hb dX2_moveAll_38 hl (k := 4) rfl (by rw [hz38]; exact iN_add _ _) (by decide) rfl (fun ls hl => ?_)
        have hqn : QM g35 (ul L pq w2 (L pq w2 ++ (L pq w1).take (z38 - 1).toNat)) := by
          have q := hq35.1
          rw [ul_ul, ul_s, List.append_assoc, hz34b] at q
          rw [show (z38 - 1).toNat = (i - 1).toNat + 1 by omega]
          have e : (L pq w1).take ((i - 1).toNat + 1) = (L pq w1).take (i - 1).toNat ++ [(L pq w1).getD (i - 1).toNat 0] := by
            rw [List.take_add_one, List.getD_eq_getElem?_getD, List.getElem?_eq_getElem (by omega)]
            rfl
          rw [e]
          exact q
        refine lv_goto (tgt := 10) hx hb dX2_moveAll_41 (by decide) ?_
        exact ih10 (z38) (g35) (by omega) (by omega) (hqn) (MR_tr hq35.2 hmr) _ _ hw _ (lv_sub hl [1, 2, 3, 4, 0] rfl)
  exact cut10 _ (1) (g) (Nat.lt_succ_self _) (by omega) (hq1) (MR_rf g) _ _ hw _ (lv_sub hl [2, 3, 5, 1, 0] rfl)
set_option maxHeartbeats 4000000 in
set_option maxRecDepth 100000 in
theorem c_X2_draw (l : Launch) (x y : Int) (pq n : Nat) (h : (x = (pq : Int) ∧ pq < 4) ∧ (y = (n : Int) ∧ n ≤ 1000)) (g : GS) (L : LLT) (hq : QM g L) (hs : lenS L ≤ 164) : mmMv l yX2_draw (wU yX2_draw cX2_draw 4 none) ({ frames := 3, cells := 0, slots := 0, locals := 70 } : Room) [.int (iN x), .int (iN y)] g (fun g1 => QM g1 (dr n L pq) ∧ MR g1 g) := by
  refine mmMv_of (by decide) (Nat.le_of_ble_eq_true rfl) ?_
  intro p e s m args below meth c D cI tb ad A ls cx hr hlocks hK hA hw hl
  have hx := cx.1
  have hb := cx.2.1
  have hl : lv_has ls 4 [(0, .ref (ad 0)), (1, .int (iN x)), (2, .int (iN y))] := hl
  refine ts_iconst hx hb dX2_draw_0 ?_
  refine lv_istore_n (lv' := [(3, .int (iN 0)), (0, .ref (ad 0)), (1, .int (iN x)), (2, .int (iN y))]) hx hb dX2_draw_1 rfl hl (by decide) rfl (fun ls hl => ?_)
  have cut2 : ∀ (fu : Nat) (i : Int) (ga : GS) (Li : LLT) (hmu : ((n : Int) - i).toNat < fu) (hi : 0 ≤ i ∧ i ≤ n) (hqi : QM ga Li) (hsi : lenS Li ≤ 164) (hdi : dr ((n : Int) - i).toNat Li pq = dr n L pq) (hmr : MR ga g) (H : Heap) (locs : List Loc) (hw : mmB D A s cI ad ga H locs) (ls : Array Slot) (hl : lv_has ls 4 [(0, .ref (ad 0)), (1, .int (iN x)), (2, .int (iN y)), (3, .int (iN i))]), W p l e ({ frames := 3, cells := 0, slots := 0, locals := 70 } : Room) s m args below meth c H locs 0 0 (mmQv D cI ad A below args s (fun g1 => QM g1 (dr n L pq) ∧ MR g1 g)) (F0 m 2 ls []) := by
    intro fu
    induction fu with
    | zero => intro i ga Li hmu; exact absurd hmu (Nat.not_lt_zero _)
    | succ fu ih2 =>
      intro i ga Li hmu hi hqi hsi hdi hmr H locs hw ls hl
      refine lv_iload_n hx hb dX2_draw_2 rfl (lv_at hl 3 rfl) ?_
      refine lv_iload_n hx hb dX2_draw_3 rfl (lv_at hl 2 rfl) ?_
      refine ts_icmp_ge (tgt := 51) hx hb (by omega) dX2_draw_4 (by decide) (fun c4 => ?_) (fun c4 => ?_)
      · skip
        exact mm_vret cx hr hlocks hw (⟨by rw [← hdi, show ((n : Int) - i).toNat = 0 by omega]; exact hqi, hmr⟩) dX2_draw_51
      · skip
        have hl3 := (hqi pq 3 h.1.2 (by omega)).2.1
        have hl5 := (hqi pq 0 h.1.2 (by omega)).2.1
        have hfl := lenS_flip Li h.1.2
        refine lv_aload_n hx hb dX2_draw_7 rfl (lv_at hl 0 rfl) ?_
        refine lv_iload_n hx hb dX2_draw_8 rfl (lv_at hl 1 rfl) ?_
        refine ts_iconst hx hb dX2_draw_9 ?_
        refine mm_callr (rest := []) cx hK hA hw hl (c_X2_manyAt l x 0 pq 0 (by omega) ga Li hqi) tg_RX2_34 ⟨rfl, rfl⟩ 2 rfl (by decide +kernel) ⟨Nat.le_of_ble_eq_true rfl, Nat.le_of_ble_eq_true rfl⟩ ⟨Nat.zero_le _, Nat.zero_le _⟩ (Nat.le_of_ble_eq_true rfl) dX2_draw_10 (rfl) (fun z10 hz10 => ?_)
        have cut23 : ∀ (gb : GS) (hqb : QM gb (flipL Li pq)) (hmb : MR gb g) (H : Heap) (locs : List Loc) (hw : mmB D A s cI ad gb H locs) (ls : Array Slot) (hl : lv_has ls 4 [(0, .ref (ad 0)), (1, .int (iN x)), (2, .int (iN y)), (3, .int (iN i))]), W p l e ({ frames := 3, cells := 0, slots := 0, locals := 70 } : Room) s m args below meth c H locs 0 0 (mmQv D cI ad A below args s (fun g1 => QM g1 (dr n L pq) ∧ MR g1 g)) (F0 m 23 ls []) := by
          intro gb hqb hmb H locs hw ls hl
          have hl4 := (hqb pq 0 h.1.2 (by omega)).2.1
          refine lv_aload_n hx hb dX2_draw_23 rfl (lv_at hl 0 rfl) ?_
          refine lv_iload_n hx hb dX2_draw_24 rfl (lv_at hl 1 rfl) ?_
          refine ts_iconst hx hb dX2_draw_25 ?_
          refine mm_callr (rest := []) cx hK hA hw hl (c_X2_manyAt l x 0 pq 0 (by omega) gb (flipL Li pq) hqb) tg_RX2_34 ⟨rfl, rfl⟩ 2 rfl (by decide +kernel) ⟨Nat.le_of_ble_eq_true rfl, Nat.le_of_ble_eq_true rfl⟩ ⟨Nat.zero_le _, Nat.zero_le _⟩ (Nat.le_of_ble_eq_true rfl) dX2_draw_26 (rfl) (fun z26 hz26 => ?_)
          refine ts_if_le (tgt := 45) hx hb (by omega) dX2_draw_29 (by decide) (fun c29 => ?_) (fun c29 => ?_)
          · skip
            obtain ⟨z45, hz45⟩ : ∃ z : Int, z = i + 1 := ⟨_, rfl⟩
            refine lv_iinc (v := iN z45) (lv' := [(3, .int (iN z45)), (0, .ref (ad 0)), (1, .int (iN x)), (2, .int (iN y))]) hx hb dX2_draw_45 hl (k := 3) rfl (by rw [hz45]; exact iN_add _ _) (by decide) rfl (fun ls hl => ?_)
            have hnil : (flipL Li pq) pq 0 = [] := List.length_eq_zero_iff.mp (by omega)
            have hqn : QM gb (dr1 Li pq) := by
              have e : dr1 Li pq = flipL Li pq := if_pos hnil
              rw [e]
              exact hqb
            have hmn : MR gb g := hmb
            refine lv_goto (tgt := 2) hx hb dX2_draw_48 (by decide) ?_
            exact ih2 (z45) (gb) (dr1 Li pq) (by omega) (by omega) (hqn) (by rw [lenS_dr1 Li h.1.2]; exact hsi) (by rw [← hdi, show ((n : Int) - i).toNat = ((n : Int) - z45).toNat + 1 by omega]; rfl) (hmn) _ _ hw _ (lv_sub hl [1, 2, 3, 0] rfl)
          · skip
            have hl2 := lenS_two (flipL Li pq) h.1.2 (w := 0) (w' := 1) (by omega) (by omega) (by decide)
            refine lv_aload_n hx hb dX2_draw_32 rfl (lv_at hl 0 rfl) ?_
            refine lv_iload_n hx hb dX2_draw_33 rfl (lv_at hl 1 rfl) ?_
            refine ts_iconst hx hb dX2_draw_34 ?_
            refine lv_aload_n hx hb dX2_draw_35 rfl (lv_at hl 0 rfl) ?_
            refine lv_iload_n hx hb dX2_draw_36 rfl (lv_at hl 1 rfl) ?_
            refine ts_iconst hx hb dX2_draw_37 ?_
            refine ts_iconst hx hb dX2_draw_38 ?_
            refine mm_calli (rest := [.int (iN 1), .int (iN x), .ref (ad 0)]) cx hK hA hw hl (c_X2_take l x 0 pq 0 (by omega) 0 0 rfl gb (flipL Li pq) hqb (by omega)) tg_RX2_40 ⟨rfl, rfl⟩ 3 rfl (by decide +kernel) ⟨Nat.le_of_ble_eq_true rfl, Nat.le_of_ble_eq_true rfl⟩ ⟨Nat.zero_le _, Nat.zero_le _⟩ (Nat.le_of_ble_eq_true rfl) dX2_draw_39 (rfl) (fun z39 g39 H locs hq39 hw => ?_)
            refine mm_callv (rest := []) cx hK hA hw hl (c_X2_put l x 1 pq 1 (by omega) z39 g39 (ul (flipL Li pq) pq 0 (((flipL Li pq) pq 0).eraseIdx 0)) hq39.2.1 (by rw [ul_w _ _ (by decide)]; omega)) tg_RX2_30 ⟨rfl, rfl⟩ 3 rfl (by decide +kernel) ⟨Nat.le_of_ble_eq_true rfl, Nat.le_of_ble_eq_true rfl⟩ ⟨Nat.zero_le _, Nat.zero_le _⟩ (Nat.le_of_ble_eq_true rfl) dX2_draw_42 (rfl) (fun g42 H locs hq42 hw => ?_)
            obtain ⟨z45, hz45⟩ : ∃ z : Int, z = i + 1 := ⟨_, rfl⟩
            refine lv_iinc (v := iN z45) (lv' := [(3, .int (iN z45)), (0, .ref (ad 0)), (1, .int (iN x)), (2, .int (iN y))]) hx hb dX2_draw_45 hl (k := 3) rfl (by rw [hz45]; exact iN_add _ _) (by decide) rfl (fun ls hl => ?_)
            have hne : (flipL Li pq) pq 0 ≠ [] := fun z => by rw [z] at hz26; simp only [List.length_nil] at hz26; omega
            have hqn : QM g42 (dr1 Li pq) := by
              have e : dr1 Li pq = mvL (flipL Li pq) pq 0 0 1 := if_neg hne
              rw [e]
              have q := hq42.1
              rw [hq39.1, ul_w _ _ (by decide)] at q
              exact q
            have hmn : MR g42 g := MR_tr hq42.2 (MR_tr hq39.2.2 hmb)
            refine lv_goto (tgt := 2) hx hb dX2_draw_48 (by decide) ?_
            exact ih2 (z45) (g42) (dr1 Li pq) (by omega) (by omega) (hqn) (by rw [lenS_dr1 Li h.1.2]; exact hsi) (by rw [← hdi, show ((n : Int) - i).toNat = ((n : Int) - z45).toNat + 1 by omega]; rfl) (hmn) _ _ hw _ (lv_sub hl [1, 2, 3, 0] rfl)
        refine ts_if_ne (tgt := 23) hx hb (by omega) dX2_draw_13 (by decide) (fun c13 => ?_) (fun c13 => ?_)
        · skip
          exact cut23 (ga) (by rw [flip_ne (fun z => by rw [z] at hz10; exact c13 (by rw [hz10]; rfl))]; exact hqi) (hmr) _ _ hw _ (lv_sub hl [0, 1, 2, 3] rfl)
        · skip
          have hl0 : (Li pq 0).length = 0 := by omega
          refine lv_aload_n hx hb dX2_draw_16 rfl (lv_at hl 0 rfl) ?_
          refine lv_iload_n hx hb dX2_draw_17 rfl (lv_at hl 1 rfl) ?_
          refine ts_iconst hx hb dX2_draw_18 ?_
          refine ts_iconst hx hb dX2_draw_19 ?_
          refine mm_callv (rest := []) cx hK hA hw hl (c_X2_moveAll l x 3 0 pq 3 0 (by omega) ga Li hqi (by omega)) tg_RX2_37 ⟨rfl, rfl⟩ 3 rfl (by decide +kernel) ⟨Nat.le_of_ble_eq_true rfl, Nat.le_of_ble_eq_true rfl⟩ ⟨Nat.zero_le _, Nat.zero_le _⟩ (Nat.le_of_ble_eq_true rfl) dX2_draw_20 (rfl) (fun g20 H locs hq20 hw => ?_)
          have hnil : Li pq 0 = [] := List.length_eq_zero_iff.mp (by omega)
          have hqf : QM g20 (flipL Li pq) := by
            have e : flipL Li pq = ul (ul Li pq 0 (Li pq 3)) pq 3 [] := if_pos hnil
            rw [e]
            have q := hq20.1
            rw [hnil, List.nil_append] at q
            exact q
          exact cut23 (g20) (hqf) (MR_tr hq20.2 hmr) _ _ hw _ (lv_sub hl [0, 1, 2, 3] rfl)
  exact cut2 _ (0) (g) (L) (Nat.lt_succ_self _) (by omega) (hq) (hs) (by rw [show ((n : Int) - 0).toNat = n by omega]) (MR_rf g) _ _ hw _ (lv_sub hl [1, 2, 3, 0] rfl)
set_option maxHeartbeats 4000000 in
set_option maxRecDepth 100000 in
theorem c_X2_isInHand (l : Launch) (place : Int) (g : GS) (S : StT) (hx0 : RM g S) (hv0 : VS S) (hkb : (-2147483648 ≤ place ∧ place ≤ 2147483647)) : mmRi l yX2_isInHand (wU yX2_isInHand cX2_isInHand 2 (some .boolean)) ({ frames := 2, cells := 0, slots := 0, locals := 43 } : Room) [.int (iN place)] g (fun z => (z = 1 ∧ 0 ≤ place ∧ place < (hand S).length) ∨ (z = 0 ∧ ¬ (0 ≤ place ∧ place < (hand S).length))) := by
  refine mmRi_of (by decide) (Nat.le_of_ble_eq_true rfl) ?_
  intro p e s m args below meth c D cI tb ad A ls cx hr hlocks hK hA hw hl
  have hx := cx.1
  have hb := cx.2.1
  have hl : lv_has ls 2 [(0, .ref (ad 0)), (1, .int (iN place))] := hl
  have hpl := VS_pl hv0
  have s0 := hx0.1 0 (by omega)
  have s1 := hx0.1 1 (by omega)
  have s2 := hx0.1 2 (by omega)
  have s3 := hx0.1 3 (by omega)
  have s4 := hx0.1 4 (by omega)
  have s5 := hx0.1 5 (by omega)
  have s6 := hx0.1 6 (by omega)
  have s8 := hx0.1 8 (by omega)
  have hvb := VS_nums hv0
  obtain ⟨hh1, hh2, hh3⟩ := hx0.2 (pl S) 1 hpl.1 (by omega)
  have hhl : (S.2 (pl S) 1).length = (hand S).length := rfl
  refine lv_iload_n hx hb dX2_isInHand_0 rfl (lv_at hl 1 rfl) ?_
  refine ts_iconst hx hb dX2_isInHand_1 ?_
  refine lv_aload_n hx hb dX2_isInHand_2 rfl (lv_at hl 0 rfl) ?_
  refine lv_aload_n hx hb dX2_isInHand_3 rfl (lv_at hl 0 rfl) ?_
  refine mm_get0 cx hK hw tl_RX2_7 dX2_isInHand_4 ?_
  refine ts_iconst hx hb dX2_isInHand_7 ?_
  refine mm_ld0 cx hK hw (1) (by omega) dX2_isInHand_8 (fun z8 hz8 => ?_)
  refine ts_iconst hx hb dX2_isInHand_9 ?_
  refine mm_callr (rest := [.int (iN 0), .int (iN place)]) cx hK hA hw hl (c_X2_manyAt l z8 1 (pl S) 1 (by omega) g S.2 hx0.2) tg_RX2_34 ⟨rfl, rfl⟩ 2 rfl (by decide +kernel) ⟨Nat.le_of_ble_eq_true rfl, Nat.le_of_ble_eq_true rfl⟩ ⟨Nat.zero_le _, Nat.zero_le _⟩ (Nat.le_of_ble_eq_true rfl) dX2_isInHand_10 (rfl) (fun z10 hz10 => ?_)
  refine ts_iconst hx hb dX2_isInHand_13 ?_
  refine ts_isub hx hb dX2_isInHand_14 (fun z14 hz14 => ?_)
  refine ps_call (rest := []) cx hl (c_X2_in l place 0 z14 (by omega)) tg_RX2_48 ⟨rfl, rfl⟩ 3 rfl (by decide +kernel) ⟨Nat.le_of_ble_eq_true rfl, Nat.le_of_ble_eq_true rfl⟩ ⟨Nat.zero_le _, Nat.zero_le _⟩ (Nat.le_of_ble_eq_true rfl) dX2_isInHand_15 (rfl) (fun z15 hz15 => ?_)
  exact ro_retz cx hr hlocks (by omega) (by omega) dX2_isInHand_18
set_option maxHeartbeats 4000000 in
set_option maxRecDepth 100000 in
theorem c_X2_inHand (l : Launch) (x : Int) (i : Nat) (g : GS) (S : StT) (hx0 : RM g S) (hv0 : VS S) (hi : x = (i : Int) ∧ i < (hand S).length) : mmRi l yX2_inHand (wU yX2_inHand cX2_inHand 2 (some .int)) ({ frames := 1, cells := 0, slots := 0, locals := 21 } : Room) [.int (iN x)] g (fun z => z = (hand S).getD i 0) := by
  refine mmRi_of (by decide) (Nat.le_of_ble_eq_true rfl) ?_
  intro p e s m args below meth c D cI tb ad A ls cx hr hlocks hK hA hw hl
  have hx := cx.1
  have hb := cx.2.1
  have hl : lv_has ls 2 [(0, .ref (ad 0)), (1, .int (iN x))] := hl
  have hpl := VS_pl hv0
  have s0 := hx0.1 0 (by omega)
  have s1 := hx0.1 1 (by omega)
  have s2 := hx0.1 2 (by omega)
  have s3 := hx0.1 3 (by omega)
  have s4 := hx0.1 4 (by omega)
  have s5 := hx0.1 5 (by omega)
  have s6 := hx0.1 6 (by omega)
  have s8 := hx0.1 8 (by omega)
  have hvb := VS_nums hv0
  obtain ⟨hh1, hh2, hh3⟩ := hx0.2 (pl S) 1 hpl.1 (by omega)
  have hhl : (S.2 (pl S) 1).length = (hand S).length := rfl
  refine lv_aload_n hx hb dX2_inHand_0 rfl (lv_at hl 0 rfl) ?_
  refine mm_get0 cx hK hw tl_RX2_7 dX2_inHand_1 ?_
  refine lv_aload_n hx hb dX2_inHand_4 rfl (lv_at hl 0 rfl) ?_
  refine mm_get0 cx hK hw tl_RX2_7 dX2_inHand_5 ?_
  refine ts_iconst hx hb dX2_inHand_8 ?_
  refine mm_ld0 cx hK hw (1) (by omega) dX2_inHand_9 (fun z9 hz9 => ?_)
  refine ts_iconst hx hb dX2_inHand_10 ?_
  refine ps_call (rest := [.ref (ad 1)]) cx hl (c_X2_placeOf l z9 1 (pl S) 1 (by omega)) tg_RX2_26 ⟨rfl, rfl⟩ 2 rfl (by decide +kernel) ⟨Nat.le_of_ble_eq_true rfl, Nat.le_of_ble_eq_true rfl⟩ ⟨Nat.zero_le _, Nat.zero_le _⟩ (Nat.le_of_ble_eq_true rfl) dX2_inHand_11 (rfl) (fun z11 hz11 => ?_)
  refine ts_iconst hx hb dX2_inHand_14 ?_
  refine ts_iadd hx hb dX2_inHand_15 (fun z15 hz15 => ?_)
  refine lv_iload_n hx hb dX2_inHand_16 rfl (lv_at hl 1 rfl) ?_
  refine ts_iadd hx hb dX2_inHand_17 (fun z17 hz17 => ?_)
  refine mm_ld0 cx hK hw (31 + 165 * (4 * pl S + 1) + i) (by omega) dX2_inHand_18 (fun z18 hz18 => ?_)
  exact ro_ret cx hr hlocks (by rw [hz18]; exact hh3 i hi.2) dX2_inHand_19
set_option maxHeartbeats 4000000 in
set_option maxRecDepth 100000 in
theorem c_X2_isInRow (l : Launch) (x : Int) (k : Nat) (g : GS) (S : StT) (hx0 : RM g S) (hv0 : VS S) (hk : x = (k : Int) ∧ k < 10) : mmRi l yX2_isInRow (wU yX2_isInRow cX2_isInRow 2 (some .boolean)) ({ frames := 0, cells := 0, slots := 0, locals := 0 } : Room) [.int (iN x)] g (fun z => ((k : Int) - S.1 6 + 10) % 10 < 6 ∧ z = 1 ∨ 6 ≤ ((k : Int) - S.1 6 + 10) % 10 ∧ z = 0) := by
  refine mmRi_of (by decide) (Nat.le_of_ble_eq_true rfl) ?_
  intro p e s m args below meth c D cI tb ad A ls cx hr hlocks hK hA hw hl
  have hx := cx.1
  have hb := cx.2.1
  have hl : lv_has ls 2 [(0, .ref (ad 0)), (1, .int (iN x))] := hl
  have hpl := VS_pl hv0
  have s0 := hx0.1 0 (by omega)
  have s1 := hx0.1 1 (by omega)
  have s2 := hx0.1 2 (by omega)
  have s3 := hx0.1 3 (by omega)
  have s4 := hx0.1 4 (by omega)
  have s5 := hx0.1 5 (by omega)
  have s6 := hx0.1 6 (by omega)
  have s8 := hx0.1 8 (by omega)
  have hvb := VS_nums hv0
  obtain ⟨hh1, hh2, hh3⟩ := hx0.2 (pl S) 1 hpl.1 (by omega)
  have hhl : (S.2 (pl S) 1).length = (hand S).length := rfl
  refine lv_iload_n hx hb dX2_isInRow_0 rfl (lv_at hl 1 rfl) ?_
  refine lv_aload_n hx hb dX2_isInRow_1 rfl (lv_at hl 0 rfl) ?_
  refine mm_get0 cx hK hw tl_RX2_7 dX2_isInRow_2 ?_
  refine ts_bipush hx hb dX2_isInRow_5 (by decide) ?_
  refine mm_ld0 cx hK hw (6) (by omega) dX2_isInRow_7 (fun z7 hz7 => ?_)
  refine ts_isub hx hb dX2_isInRow_8 (fun z8 hz8 => ?_)
  refine ts_bipush hx hb dX2_isInRow_9 (by decide) ?_
  refine ts_iadd hx hb dX2_isInRow_11 (fun z11 hz11 => ?_)
  refine ts_bipush hx hb dX2_isInRow_12 (by decide) ?_
  have hzm : z11 % 10 = ((k : Int) - S.1 6 + 10) % 10 := by rw [hz11, hz8, hz7, s6, hk.1]
  refine ts_irem hx hb (by omega) dX2_isInRow_14 (fun z14 hz14 => ?_)
  refine ts_bipush hx hb dX2_isInRow_15 (by decide) ?_
  refine ts_icmp_ge (tgt := 24) hx hb (by omega) dX2_isInRow_17 (by decide) (fun c17 => ?_) (fun c17 => ?_)
  · skip
    refine ts_iconst hx hb dX2_isInRow_24 ?_
    exact ro_retz cx hr hlocks (by omega) (by omega) dX2_isInRow_25
  · skip
    refine ts_iconst hx hb dX2_isInRow_20 ?_
    refine lv_goto (tgt := 25) hx hb dX2_isInRow_21 (by decide) ?_
    exact ro_retz cx hr hlocks (by omega) (by omega) dX2_isInRow_25
set_option maxHeartbeats 4000000 in
set_option maxRecDepth 100000 in
theorem c_X2_whyNot (l : Launch) (x : Int) (k : Nat) (g : GS) (S : StT) (hx0 : RM g S) (hv0 : VS S) (hk : x = (k : Int) ∧ k < 10) : mmRi l yX2_whyNot (wU yX2_whyNot cX2_whyNot 2 (some .int)) ({ frames := 1, cells := 0, slots := 0, locals := 21 } : Room) [.int (iN x)] g (fun z => z = why S.1 k) := by
  refine mmRi_of (by decide) (Nat.le_of_ble_eq_true rfl) ?_
  intro p e s m args below meth c D cI tb ad A ls cx hr hlocks hK hA hw hl
  have hx := cx.1
  have hb := cx.2.1
  have hl : lv_has ls 2 [(0, .ref (ad 0)), (1, .int (iN x))] := hl
  have hpl := VS_pl hv0
  have s0 := hx0.1 0 (by omega)
  have s1 := hx0.1 1 (by omega)
  have s2 := hx0.1 2 (by omega)
  have s3 := hx0.1 3 (by omega)
  have s4 := hx0.1 4 (by omega)
  have s5 := hx0.1 5 (by omega)
  have s6 := hx0.1 6 (by omega)
  have s8 := hx0.1 8 (by omega)
  have hvb := VS_nums hv0
  obtain ⟨hh1, hh2, hh3⟩ := hx0.2 (pl S) 1 hpl.1 (by omega)
  have hhl : (S.2 (pl S) 1).length = (hand S).length := rfl
  have hpk := VS_pb hv0 k (by omega)
  have spk := hx0.1 (10 + k) (by omega)
  have htv := tv_b 0 k
  refine lv_aload_n hx hb dX2_whyNot_0 rfl (lv_at hl 0 rfl) ?_
  refine mm_get0 cx hK hw tl_RX2_7 dX2_whyNot_1 ?_
  refine ts_bipush hx hb dX2_whyNot_4 (by decide) ?_
  refine mm_ld0 cx hK hw (8) (by omega) dX2_whyNot_6 (fun z6 hz6 => ?_)
  refine ts_iconst hx hb dX2_whyNot_7 ?_
  refine ts_icmp_ne (tgt := 15) hx hb (by omega) dX2_whyNot_8 (by decide) (fun c8 => ?_) (fun c8 => ?_)
  · skip
    refine lv_aload_n hx hb dX2_whyNot_15 rfl (lv_at hl 0 rfl) ?_
    refine lv_iload_n hx hb dX2_whyNot_16 rfl (lv_at hl 1 rfl) ?_
    refine mm_callr (rest := []) cx hK hA hw hl (c_X2_isInRow l x k g S hx0 hv0 hk) tg_RX2_74 ⟨rfl, rfl⟩ 1 rfl (by decide +kernel) ⟨Nat.le_of_ble_eq_true rfl, Nat.le_of_ble_eq_true rfl⟩ ⟨Nat.zero_le _, Nat.zero_le _⟩ (Nat.le_of_ble_eq_true rfl) dX2_whyNot_17 (rfl) (fun z17 hz17 => ?_)
    refine ts_if_ne (tgt := 27) hx hb (by omega) dX2_whyNot_20 (by decide) (fun c20 => ?_) (fun c20 => ?_)
    · skip
      refine lv_aload_n hx hb dX2_whyNot_27 rfl (lv_at hl 0 rfl) ?_
      refine mm_get0 cx hK hw tl_RX2_7 dX2_whyNot_28 ?_
      refine ts_bipush hx hb dX2_whyNot_31 (by decide) ?_
      refine lv_iload_n hx hb dX2_whyNot_33 rfl (lv_at hl 1 rfl) ?_
      refine ts_iadd hx hb dX2_whyNot_34 (fun z34 hz34 => ?_)
      refine mm_ld0 cx hK hw (10 + k) (by omega) dX2_whyNot_35 (fun z35 hz35 => ?_)
      refine ts_if_ne (tgt := 43) hx hb (by omega) dX2_whyNot_36 (by decide) (fun c36 => ?_) (fun c36 => ?_)
      · skip
        refine lv_aload_n hx hb dX2_whyNot_43 rfl (lv_at hl 0 rfl) ?_
        refine mm_get0 cx hK hw tl_RX2_7 dX2_whyNot_44 ?_
        refine ts_iconst hx hb dX2_whyNot_47 ?_
        refine mm_ld0 cx hK hw (3) (by omega) dX2_whyNot_48 (fun z48 hz48 => ?_)
        refine ts_if_ne (tgt := 56) hx hb (by omega) dX2_whyNot_49 (by decide) (fun c49 => ?_) (fun c49 => ?_)
        · skip
          refine lv_aload_n hx hb dX2_whyNot_56 rfl (lv_at hl 0 rfl) ?_
          refine mm_get0 cx hK hw tl_RX2_7 dX2_whyNot_57 ?_
          refine ts_iconst hx hb dX2_whyNot_60 ?_
          refine mm_ld0 cx hK hw (2) (by omega) dX2_whyNot_61 (fun z61 hz61 => ?_)
          refine lv_iload_n hx hb dX2_whyNot_62 rfl (lv_at hl 1 rfl) ?_
          refine ps_call (rest := [.int (iN z61)]) cx hl (c_X2_price l x k hk) tg_RX2_77 ⟨rfl, rfl⟩ 1 rfl (by decide +kernel) ⟨Nat.le_of_ble_eq_true rfl, Nat.le_of_ble_eq_true rfl⟩ ⟨Nat.zero_le _, Nat.zero_le _⟩ (Nat.le_of_ble_eq_true rfl) dX2_whyNot_63 (rfl) (fun z63 hz63 => ?_)
          refine ts_icmp_ge (tgt := 73) hx hb (by omega) dX2_whyNot_66 (by decide) (fun c66 => ?_) (fun c66 => ?_)
          · skip
            refine ts_iconst hx hb dX2_whyNot_73 ?_
            exact ro_ret cx hr hlocks (by unfold why; (repeat' split) <;> omega) dX2_whyNot_74
          · skip
            refine ts_iconst hx hb dX2_whyNot_69 ?_
            refine lv_goto (tgt := 74) hx hb dX2_whyNot_70 (by decide) ?_
            exact ro_ret cx hr hlocks (by unfold why; (repeat' split) <;> omega) dX2_whyNot_74
        · skip
          refine ts_iconst hx hb dX2_whyNot_52 ?_
          refine lv_goto (tgt := 74) hx hb dX2_whyNot_53 (by decide) ?_
          exact ro_ret cx hr hlocks (by unfold why; (repeat' split) <;> omega) dX2_whyNot_74
      · skip
        refine ts_iconst hx hb dX2_whyNot_39 ?_
        refine lv_goto (tgt := 74) hx hb dX2_whyNot_40 (by decide) ?_
        exact ro_ret cx hr hlocks (by unfold why; (repeat' split) <;> omega) dX2_whyNot_74
    · skip
      refine ts_iconst hx hb dX2_whyNot_23 ?_
      refine lv_goto (tgt := 74) hx hb dX2_whyNot_24 (by decide) ?_
      exact ro_ret cx hr hlocks (by unfold why; (repeat' split) <;> omega) dX2_whyNot_74
  · skip
    refine ts_iconst hx hb dX2_whyNot_11 ?_
    refine lv_goto (tgt := 74) hx hb dX2_whyNot_12 (by decide) ?_
    exact ro_ret cx hr hlocks (by unfold why; (repeat' split) <;> omega) dX2_whyNot_74
set_option maxHeartbeats 4000000 in
set_option maxRecDepth 100000 in
theorem c_X2_emptyPiles (l : Launch) (g : GS) (sc : SCT) (hs0 : SM g sc) (hp : ∀ k : Nat, k < 10 → 0 ≤ sc (10 + k) ∧ sc (10 + k) ≤ 164) : mmRi l yX2_emptyPiles (wU yX2_emptyPiles cX2_emptyPiles 3 (some .int)) ({ frames := 0, cells := 0, slots := 0, locals := 0 } : Room) [] g (fun z => z = emp sc) := by
  refine mmRi_of (by decide) (Nat.le_of_ble_eq_true rfl) ?_
  intro p e s m args below meth c D cI tb ad A ls cx hr hlocks hK hA hw hl
  have hx := cx.1
  have hb := cx.2.1
  have hl : lv_has ls 3 [(0, .ref (ad 0))] := hl
  have sp := fun k (hk : k < 10) => hs0 (10 + k) (by omega)
  refine ts_iconst hx hb dX2_emptyPiles_0 ?_
  refine lv_istore_n (lv' := [(1, .int (iN 0)), (0, .ref (ad 0))]) hx hb dX2_emptyPiles_1 rfl hl (by decide) rfl (fun ls hl => ?_)
  refine ts_iconst hx hb dX2_emptyPiles_2 ?_
  refine lv_istore_n (lv' := [(2, .int (iN 0)), (1, .int (iN 0)), (0, .ref (ad 0))]) hx hb dX2_emptyPiles_3 rfl hl (by decide) rfl (fun ls hl => ?_)
  have cut4 : ∀ (fu : Nat) (n : Int) (i : Int) (hmu : (10 - i).toNat < fu) (hi : 0 ≤ i ∧ i ≤ 10) (hq : n = sumN (fun k => if sc (10 + k) = 0 then 1 else 0) i.toNat) (hq2 : 0 ≤ n ∧ n ≤ i) (ls : Array Slot) (hl : lv_has ls 3 [(0, .ref (ad 0)), (1, .int (iN n)), (2, .int (iN i))]), W p l e ({ frames := 0, cells := 0, slots := 0, locals := 0 } : Room) s m args below meth c s.heap [] 0 0 (roQ below args s (fun z => z = emp sc)) (F0 m 4 ls []) := by
    intro fu
    induction fu with
    | zero => intro n i hmu; exact absurd hmu (Nat.not_lt_zero _)
    | succ fu ih4 =>
      intro n i hmu hi hq hq2 ls hl
      refine lv_iload_n hx hb dX2_emptyPiles_4 rfl (lv_at hl 2 rfl) ?_
      refine ts_bipush hx hb dX2_emptyPiles_5 (by decide) ?_
      refine ts_icmp_ge (tgt := 36) hx hb (by omega) dX2_emptyPiles_7 (by decide) (fun c7 => ?_) (fun c7 => ?_)
      · skip
        refine lv_iload_n hx hb dX2_emptyPiles_36 rfl (lv_at hl 1 rfl) ?_
        exact ro_ret cx hr hlocks (by rw [hq]; unfold emp; congr 1; omega) dX2_emptyPiles_37
      · skip
        refine lv_iload_n hx hb dX2_emptyPiles_10 rfl (lv_at hl 1 rfl) ?_
        refine lv_aload_n hx hb dX2_emptyPiles_11 rfl (lv_at hl 0 rfl) ?_
        refine mm_get0 cx hK hw tl_RX2_7 dX2_emptyPiles_12 ?_
        refine ts_bipush hx hb dX2_emptyPiles_15 (by decide) ?_
        refine lv_iload_n hx hb dX2_emptyPiles_17 rfl (lv_at hl 2 rfl) ?_
        refine ts_iadd hx hb dX2_emptyPiles_18 (fun z18 hz18 => ?_)
        refine mm_ld0 cx hK hw (10 + i.toNat) (by omega) dX2_emptyPiles_19 (fun z19 hz19 => ?_)
        have hpi := hp i.toNat (by omega)
        have spi := sp i.toNat (by omega)
        refine ts_if_ne (tgt := 27) hx hb (by omega) dX2_emptyPiles_20 (by decide) (fun c20 => ?_) (fun c20 => ?_)
        · skip
          refine ts_iconst hx hb dX2_emptyPiles_27 ?_
          refine ts_iadd hx hb dX2_emptyPiles_28 (fun z28 hz28 => ?_)
          refine lv_istore_n (lv' := [(1, .int (iN z28)), (0, .ref (ad 0)), (2, .int (iN i))]) hx hb dX2_emptyPiles_29 rfl hl (by decide) rfl (fun ls hl => ?_)
          have hs := sumN_s (f := fun k => if sc (10 + k) = 0 then 1 else 0) (a := (i + 1).toNat) (b := i.toNat) (by omega)
          rw [← spi, ← hz19] at hs
          obtain ⟨z30, hz30⟩ : ∃ z : Int, z = i + 1 := ⟨_, rfl⟩
          refine lv_iinc (v := iN z30) (lv' := [(2, .int (iN z30)), (1, .int (iN z28)), (0, .ref (ad 0))]) hx hb dX2_emptyPiles_30 hl (k := 2) rfl (by rw [hz30]; exact iN_add _ _) (by decide) rfl (fun ls hl => ?_)
          have hsn : z28 = sumN (fun k => if sc (10 + k) = 0 then 1 else 0) z30.toNat := by
            rw [hz30, hs]
            by_cases hk : z19 = 0
            · rw [if_pos hk]; omega
            · rw [if_neg hk]; omega
          refine lv_goto (tgt := 4) hx hb dX2_emptyPiles_33 (by decide) ?_
          exact ih4 (z28) (z30) (by omega) (by omega) (hsn) (by omega) _ (lv_sub hl [2, 1, 0] rfl)
        · skip
          refine ts_iconst hx hb dX2_emptyPiles_23 ?_
          refine lv_goto (tgt := 28) hx hb dX2_emptyPiles_24 (by decide) ?_
          refine ts_iadd hx hb dX2_emptyPiles_28 (fun z28 hz28 => ?_)
          refine lv_istore_n (lv' := [(1, .int (iN z28)), (0, .ref (ad 0)), (2, .int (iN i))]) hx hb dX2_emptyPiles_29 rfl hl (by decide) rfl (fun ls hl => ?_)
          have hs := sumN_s (f := fun k => if sc (10 + k) = 0 then 1 else 0) (a := (i + 1).toNat) (b := i.toNat) (by omega)
          rw [← spi, ← hz19] at hs
          obtain ⟨z30, hz30⟩ : ∃ z : Int, z = i + 1 := ⟨_, rfl⟩
          refine lv_iinc (v := iN z30) (lv' := [(2, .int (iN z30)), (1, .int (iN z28)), (0, .ref (ad 0))]) hx hb dX2_emptyPiles_30 hl (k := 2) rfl (by rw [hz30]; exact iN_add _ _) (by decide) rfl (fun ls hl => ?_)
          have hsn : z28 = sumN (fun k => if sc (10 + k) = 0 then 1 else 0) z30.toNat := by
            rw [hz30, hs]
            by_cases hk : z19 = 0
            · rw [if_pos hk]; omega
            · rw [if_neg hk]; omega
          refine lv_goto (tgt := 4) hx hb dX2_emptyPiles_33 (by decide) ?_
          exact ih4 (z28) (z30) (by omega) (by omega) (hsn) (by omega) _ (lv_sub hl [2, 1, 0] rfl)
  exact cut4 _ (0) (0) (Nat.lt_succ_self _) (by omega) (by rfl) (by omega) _ (lv_sub hl [2, 1, 0] rfl)
set_option maxHeartbeats 4000000 in
set_option maxRecDepth 100000 in
theorem c_X2_buyFault (l : Launch) (k : Int) (g : GS) (S : StT) (hx0 : RM g S) (hv0 : VS S) (hkb : (-2147483648 ≤ k ∧ k ≤ 2147483647)) : mmRi l yX2_buyFault (wU yX2_buyFault cX2_buyFault 2 (some .int)) ({ frames := 2, cells := 0, slots := 0, locals := 42 } : Room) [.int (iN k)] g (fun z => (z < 0 ∧ buyO S k = (z, S)) ∨ (z = 0 ∧ (0 ≤ k ∧ k ≤ 9) ∧ why S.1 k.toNat = 0)) := by
  refine mmRi_of (by decide) (Nat.le_of_ble_eq_true rfl) ?_
  intro p e s m args below meth c D cI tb ad A ls cx hr hlocks hK hA hw hl
  have hx := cx.1
  have hb := cx.2.1
  have hl : lv_has ls 2 [(0, .ref (ad 0)), (1, .int (iN k))] := hl
  refine lv_iload_n hx hb dX2_buyFault_0 rfl (lv_at hl 1 rfl) ?_
  refine ts_iconst hx hb dX2_buyFault_1 ?_
  refine ts_bipush hx hb dX2_buyFault_2 (by decide) ?_
  refine ps_call (rest := []) cx hl (c_X2_in l k 0 9 (by omega)) tg_RX2_48 ⟨rfl, rfl⟩ 3 rfl (by decide +kernel) ⟨Nat.le_of_ble_eq_true rfl, Nat.le_of_ble_eq_true rfl⟩ ⟨Nat.zero_le _, Nat.zero_le _⟩ (Nat.le_of_ble_eq_true rfl) dX2_buyFault_4 (rfl) (fun z4 hz4 => ?_)
  refine ts_if_ne (tgt := 15) hx hb (by omega) dX2_buyFault_7 (by decide) (fun c7 => ?_) (fun c7 => ?_)
  · skip
    refine lv_aload_n hx hb dX2_buyFault_15 rfl (lv_at hl 0 rfl) ?_
    refine lv_iload_n hx hb dX2_buyFault_16 rfl (lv_at hl 1 rfl) ?_
    refine mm_callr (rest := []) cx hK hA hw hl (c_X2_whyNot l k k.toNat g S hx0 hv0 (by omega)) tg_RX2_80 ⟨rfl, rfl⟩ 1 rfl (by decide +kernel) ⟨Nat.le_of_ble_eq_true rfl, Nat.le_of_ble_eq_true rfl⟩ ⟨Nat.zero_le _, Nat.zero_le _⟩ (Nat.le_of_ble_eq_true rfl) dX2_buyFault_17 (rfl) (fun z17 hz17 => ?_)
    have hwb : 0 ≤ why S.1 k.toNat ∧ why S.1 k.toNat ≤ 5 := by unfold why; (repeat' split) <;> omega
    refine ts_if_le (tgt := 28) hx hb (by omega) dX2_buyFault_20 (by decide) (fun c20 => ?_) (fun c20 => ?_)
    · skip
      refine ts_iconst hx hb dX2_buyFault_28 ?_
      exact ro_ret cx hr hlocks (Or.inr ⟨rfl, by omega, by omega⟩) dX2_buyFault_29
    · skip
      refine ts_ldc (z := -1000002) hx hb cx.2.2.2.1 cx.2.2.2.2 tk_RX2_67 dX2_buyFault_23 ?_
      refine lv_goto (tgt := 29) hx hb dX2_buyFault_25 (by decide) ?_
      exact ro_ret cx hr hlocks (Or.inl ⟨by omega, by unfold buyO; rw [if_neg (by omega), if_pos (by omega)]⟩) dX2_buyFault_29
  · skip
    refine ts_ldc (z := -1000001) hx hb cx.2.2.2.1 cx.2.2.2.2 tk_RX2_63 dX2_buyFault_10 ?_
    refine lv_goto (tgt := 29) hx hb dX2_buyFault_12 (by decide) ?_
    exact ro_ret cx hr hlocks (Or.inl ⟨by omega, by unfold buyO; rw [if_pos (by omega)]⟩) dX2_buyFault_29
set_option maxHeartbeats 4000000 in
set_option maxRecDepth 100000 in
theorem c_X2_scrapFault (l : Launch) (k : Int) (g : GS) (S : StT) (hx0 : RM g S) (hv0 : VS S) (hkb : (-2147483648 ≤ k ∧ k ≤ 2147483647)) : mmRi l yX2_scrapFault (wU yX2_scrapFault cX2_scrapFault 2 (some .int)) ({ frames := 3, cells := 0, slots := 0, locals := 64 } : Room) [.int (iN k)] g (fun z => (z < 0 ∧ scrO S k = (z, S)) ∨ (z = 0 ∧ (0 ≤ k ∧ k < (hand S).length) ∧ S.1 8 ≠ 1 ∧ 0 < S.1 5)) := by
  refine mmRi_of (by decide) (Nat.le_of_ble_eq_true rfl) ?_
  intro p e s m args below meth c D cI tb ad A ls cx hr hlocks hK hA hw hl
  have hx := cx.1
  have hb := cx.2.1
  have hl : lv_has ls 2 [(0, .ref (ad 0)), (1, .int (iN k))] := hl
  have hpl := VS_pl hv0
  have s0 := hx0.1 0 (by omega)
  have s1 := hx0.1 1 (by omega)
  have s2 := hx0.1 2 (by omega)
  have s3 := hx0.1 3 (by omega)
  have s4 := hx0.1 4 (by omega)
  have s5 := hx0.1 5 (by omega)
  have s6 := hx0.1 6 (by omega)
  have s8 := hx0.1 8 (by omega)
  have hvb := VS_nums hv0
  obtain ⟨hh1, hh2, hh3⟩ := hx0.2 (pl S) 1 hpl.1 (by omega)
  have hhl : (S.2 (pl S) 1).length = (hand S).length := rfl
  refine lv_aload_n hx hb dX2_scrapFault_0 rfl (lv_at hl 0 rfl) ?_
  refine lv_iload_n hx hb dX2_scrapFault_1 rfl (lv_at hl 1 rfl) ?_
  refine mm_callr (rest := []) cx hK hA hw hl (c_X2_isInHand l k g S hx0 hv0 hkb) tg_RX2_59 ⟨rfl, rfl⟩ 1 rfl (by decide +kernel) ⟨Nat.le_of_ble_eq_true rfl, Nat.le_of_ble_eq_true rfl⟩ ⟨Nat.zero_le _, Nat.zero_le _⟩ (Nat.le_of_ble_eq_true rfl) dX2_scrapFault_2 (rfl) (fun z2 hz2 => ?_)
  refine ts_if_ne (tgt := 13) hx hb (by omega) dX2_scrapFault_5 (by decide) (fun c5 => ?_) (fun c5 => ?_)
  · skip
    refine lv_aload_n hx hb dX2_scrapFault_13 rfl (lv_at hl 0 rfl) ?_
    refine mm_get0 cx hK hw tl_RX2_7 dX2_scrapFault_14 ?_
    refine ts_iconst hx hb dX2_scrapFault_17 ?_
    refine mm_ld0 cx hK hw (5) (by omega) dX2_scrapFault_18 (fun z18 hz18 => ?_)
    refine ts_if_eq (tgt := 33) hx hb (by omega) dX2_scrapFault_19 (by decide) (fun c19 => ?_) (fun c19 => ?_)
    · skip
      refine ts_ldc (z := -1000002) hx hb cx.2.2.2.1 cx.2.2.2.2 tk_RX2_67 dX2_scrapFault_33 ?_
      refine lv_goto (tgt := 39) hx hb dX2_scrapFault_35 (by decide) ?_
      exact ro_ret cx hr hlocks (Or.inl ⟨by omega, by unfold scrO; rw [if_neg (by omega), if_pos (by omega)]⟩) dX2_scrapFault_39
    · skip
      refine lv_aload_n hx hb dX2_scrapFault_22 rfl (lv_at hl 0 rfl) ?_
      refine mm_get0 cx hK hw tl_RX2_7 dX2_scrapFault_23 ?_
      refine ts_bipush hx hb dX2_scrapFault_26 (by decide) ?_
      refine mm_ld0 cx hK hw (8) (by omega) dX2_scrapFault_28 (fun z28 hz28 => ?_)
      refine ts_iconst hx hb dX2_scrapFault_29 ?_
      refine ts_icmp_ne (tgt := 38) hx hb (by omega) dX2_scrapFault_30 (by decide) (fun c30 => ?_) (fun c30 => ?_)
      · skip
        refine ts_iconst hx hb dX2_scrapFault_38 ?_
        exact ro_ret cx hr hlocks (Or.inr ⟨rfl, by omega, by omega, by omega⟩) dX2_scrapFault_39
      · skip
        refine ts_ldc (z := -1000002) hx hb cx.2.2.2.1 cx.2.2.2.2 tk_RX2_67 dX2_scrapFault_33 ?_
        refine lv_goto (tgt := 39) hx hb dX2_scrapFault_35 (by decide) ?_
        exact ro_ret cx hr hlocks (Or.inl ⟨by omega, by unfold scrO; rw [if_neg (by omega), if_pos (by omega)]⟩) dX2_scrapFault_39
  · skip
    refine ts_ldc (z := -1000001) hx hb cx.2.2.2.1 cx.2.2.2.2 tk_RX2_63 dX2_scrapFault_8 ?_
    refine lv_goto (tgt := 39) hx hb dX2_scrapFault_10 (by decide) ?_
    exact ro_ret cx hr hlocks (Or.inl ⟨by omega, by unfold scrO; rw [if_pos (by omega)]⟩) dX2_scrapFault_39
set_option maxHeartbeats 4000000 in
set_option maxRecDepth 100000 in
theorem c_X2_playFault (l : Launch) (k : Int) (g : GS) (S : StT) (hx0 : RM g S) (hv0 : VS S) (hkb : (-2147483648 ≤ k ∧ k ≤ 2147483647)) : mmRi l yX2_playFault (wU yX2_playFault cX2_playFault 4 (some .int)) ({ frames := 3, cells := 0, slots := 0, locals := 64 } : Room) [.int (iN k)] g (fun z => (z < 0 ∧ playO S k = (z, S)) ∨ (z = 0 ∧ (0 ≤ k ∧ k < (hand S).length) ∧ S.1 8 ≠ 1 ∧ ((hand S).getD k.toNat 0 ≤ 2 ∨ (6 ≤ (hand S).getD k.toNat 0 ∧ 0 < S.1 4)))) := by
  refine mmRi_of (by decide) (Nat.le_of_ble_eq_true rfl) ?_
  intro p e s m args below meth c D cI tb ad A ls cx hr hlocks hK hA hw hl
  have hx := cx.1
  have hb := cx.2.1
  have hl : lv_has ls 4 [(0, .ref (ad 0)), (1, .int (iN k))] := hl
  have hpl := VS_pl hv0
  have s0 := hx0.1 0 (by omega)
  have s1 := hx0.1 1 (by omega)
  have s2 := hx0.1 2 (by omega)
  have s3 := hx0.1 3 (by omega)
  have s4 := hx0.1 4 (by omega)
  have s5 := hx0.1 5 (by omega)
  have s6 := hx0.1 6 (by omega)
  have s8 := hx0.1 8 (by omega)
  have hvb := VS_nums hv0
  obtain ⟨hh1, hh2, hh3⟩ := hx0.2 (pl S) 1 hpl.1 (by omega)
  have hhl : (S.2 (pl S) 1).length = (hand S).length := rfl
  refine lv_aload_n hx hb dX2_playFault_0 rfl (lv_at hl 0 rfl) ?_
  refine lv_iload_n hx hb dX2_playFault_1 rfl (lv_at hl 1 rfl) ?_
  refine mm_callr (rest := []) cx hK hA hw hl (c_X2_isInHand l k g S hx0 hv0 hkb) tg_RX2_59 ⟨rfl, rfl⟩ 1 rfl (by decide +kernel) ⟨Nat.le_of_ble_eq_true rfl, Nat.le_of_ble_eq_true rfl⟩ ⟨Nat.zero_le _, Nat.zero_le _⟩ (Nat.le_of_ble_eq_true rfl) dX2_playFault_2 (rfl) (fun z2 hz2 => ?_)
  refine ts_if_ne (tgt := 11) hx hb (by omega) dX2_playFault_5 (by decide) (fun c5 => ?_) (fun c5 => ?_)
  · skip
    refine lv_aload_n hx hb dX2_playFault_11 rfl (lv_at hl 0 rfl) ?_
    refine lv_iload_n hx hb dX2_playFault_12 rfl (lv_at hl 1 rfl) ?_
    refine mm_callr (rest := []) cx hK hA hw hl (c_X2_inHand l k k.toNat g S hx0 hv0 (by omega)) tg_RX2_64 ⟨rfl, rfl⟩ 1 rfl (by decide +kernel) ⟨Nat.le_of_ble_eq_true rfl, Nat.le_of_ble_eq_true rfl⟩ ⟨Nat.zero_le _, Nat.zero_le _⟩ (Nat.le_of_ble_eq_true rfl) dX2_playFault_13 (rfl) (fun z13 hz13 => ?_)
    have hhb := VS_hand hv0 (k := k.toNat) (by omega)
    refine lv_istore_n (lv' := [(2, .int (iN z13)), (0, .ref (ad 0)), (1, .int (iN k))]) hx hb dX2_playFault_16 rfl hl (by decide) rfl (fun ls hl => ?_)
    refine lv_iload_n hx hb dX2_playFault_17 rfl (lv_at hl 0 rfl) ?_
    refine ts_iconst hx hb dX2_playFault_18 ?_
    refine ts_icmp_lt (tgt := 36) hx hb (by omega) dX2_playFault_19 (by decide) (fun c19 => ?_) (fun c19 => ?_)
    · skip
      refine ts_iconst hx hb dX2_playFault_36 ?_
      refine lv_goto (tgt := 41) hx hb dX2_playFault_37 (by decide) ?_
      refine lv_istore_n (lv' := [(3, .int (iN 1)), (2, .int (iN z13)), (0, .ref (ad 0)), (1, .int (iN k))]) hx hb dX2_playFault_41 rfl hl (by decide) rfl (fun ls hl => ?_)
      refine lv_iload_n hx hb dX2_playFault_42 rfl (lv_at hl 0 rfl) ?_
      refine ts_if_eq (tgt := 60) hx hb (by omega) dX2_playFault_43 (by decide) (fun c43 => ?_) (fun c43 => ?_)
      · exfalso
        omega
      · skip
        refine lv_aload_n hx hb dX2_playFault_46 rfl (lv_at hl 2 rfl) ?_
        refine mm_get0 cx hK hw tl_RX2_7 dX2_playFault_47 ?_
        refine ts_bipush hx hb dX2_playFault_50 (by decide) ?_
        refine mm_ld0 cx hK hw (8) (by omega) dX2_playFault_52 (fun z52 hz52 => ?_)
        refine ts_if_ne (tgt := 60) hx hb (by omega) dX2_playFault_53 (by decide) (fun c53 => ?_) (fun c53 => ?_)
        · skip
          refine ts_ldc (z := -1000002) hx hb cx.2.2.2.1 cx.2.2.2.2 tk_RX2_67 dX2_playFault_60 ?_
          exact ro_ret cx hr hlocks (Or.inl ⟨by omega, by unfold playO; rw [if_neg (by omega), if_pos (by omega)]⟩) dX2_playFault_62
        · skip
          refine ts_iconst hx hb dX2_playFault_56 ?_
          refine lv_goto (tgt := 62) hx hb dX2_playFault_57 (by decide) ?_
          exact ro_ret cx hr hlocks (Or.inr ⟨rfl, by omega, by omega, by omega⟩) dX2_playFault_62
    · skip
      refine lv_iload_n hx hb dX2_playFault_22 rfl (lv_at hl 0 rfl) ?_
      refine ts_iconst hx hb dX2_playFault_23 ?_
      refine ts_icmp_le (tgt := 40) hx hb (by omega) dX2_playFault_24 (by decide) (fun c24 => ?_) (fun c24 => ?_)
      · skip
        refine ts_iconst hx hb dX2_playFault_40 ?_
        refine lv_istore_n (lv' := [(3, .int (iN 0)), (2, .int (iN z13)), (0, .ref (ad 0)), (1, .int (iN k))]) hx hb dX2_playFault_41 rfl hl (by decide) rfl (fun ls hl => ?_)
        refine lv_iload_n hx hb dX2_playFault_42 rfl (lv_at hl 0 rfl) ?_
        refine ts_if_eq (tgt := 60) hx hb (by omega) dX2_playFault_43 (by decide) (fun c43 => ?_) (fun c43 => ?_)
        · skip
          refine ts_ldc (z := -1000002) hx hb cx.2.2.2.1 cx.2.2.2.2 tk_RX2_67 dX2_playFault_60 ?_
          exact ro_ret cx hr hlocks (Or.inl ⟨by omega, by unfold playO; rw [if_neg (by omega), if_pos (by omega)]⟩) dX2_playFault_62
        · exfalso
          omega
      · skip
        refine lv_aload_n hx hb dX2_playFault_27 rfl (lv_at hl 1 rfl) ?_
        refine mm_get0 cx hK hw tl_RX2_7 dX2_playFault_28 ?_
        refine ts_iconst hx hb dX2_playFault_31 ?_
        refine mm_ld0 cx hK hw (4) (by omega) dX2_playFault_32 (fun z32 hz32 => ?_)
        refine ts_if_le (tgt := 40) hx hb (by omega) dX2_playFault_33 (by decide) (fun c33 => ?_) (fun c33 => ?_)
        · skip
          refine ts_iconst hx hb dX2_playFault_40 ?_
          refine lv_istore_n (lv' := [(3, .int (iN 0)), (2, .int (iN z13)), (0, .ref (ad 0)), (1, .int (iN k))]) hx hb dX2_playFault_41 rfl hl (by decide) rfl (fun ls hl => ?_)
          refine lv_iload_n hx hb dX2_playFault_42 rfl (lv_at hl 0 rfl) ?_
          refine ts_if_eq (tgt := 60) hx hb (by omega) dX2_playFault_43 (by decide) (fun c43 => ?_) (fun c43 => ?_)
          · skip
            refine ts_ldc (z := -1000002) hx hb cx.2.2.2.1 cx.2.2.2.2 tk_RX2_67 dX2_playFault_60 ?_
            exact ro_ret cx hr hlocks (Or.inl ⟨by omega, by unfold playO; rw [if_neg (by omega), if_pos (by omega)]⟩) dX2_playFault_62
          · exfalso
            omega
        · skip
          refine ts_iconst hx hb dX2_playFault_36 ?_
          refine lv_goto (tgt := 41) hx hb dX2_playFault_37 (by decide) ?_
          refine lv_istore_n (lv' := [(3, .int (iN 1)), (2, .int (iN z13)), (0, .ref (ad 0)), (1, .int (iN k))]) hx hb dX2_playFault_41 rfl hl (by decide) rfl (fun ls hl => ?_)
          refine lv_iload_n hx hb dX2_playFault_42 rfl (lv_at hl 0 rfl) ?_
          refine ts_if_eq (tgt := 60) hx hb (by omega) dX2_playFault_43 (by decide) (fun c43 => ?_) (fun c43 => ?_)
          · exfalso
            omega
          · skip
            refine lv_aload_n hx hb dX2_playFault_46 rfl (lv_at hl 2 rfl) ?_
            refine mm_get0 cx hK hw tl_RX2_7 dX2_playFault_47 ?_
            refine ts_bipush hx hb dX2_playFault_50 (by decide) ?_
            refine mm_ld0 cx hK hw (8) (by omega) dX2_playFault_52 (fun z52 hz52 => ?_)
            refine ts_if_ne (tgt := 60) hx hb (by omega) dX2_playFault_53 (by decide) (fun c53 => ?_) (fun c53 => ?_)
            · skip
              refine ts_ldc (z := -1000002) hx hb cx.2.2.2.1 cx.2.2.2.2 tk_RX2_67 dX2_playFault_60 ?_
              exact ro_ret cx hr hlocks (Or.inl ⟨by omega, by unfold playO; rw [if_neg (by omega), if_pos (by omega)]⟩) dX2_playFault_62
            · skip
              refine ts_iconst hx hb dX2_playFault_56 ?_
              refine lv_goto (tgt := 62) hx hb dX2_playFault_57 (by decide) ?_
              exact ro_ret cx hr hlocks (Or.inr ⟨rfl, by omega, by omega, by omega⟩) dX2_playFault_62
  · skip
    refine ts_ldc (z := -1000001) hx hb cx.2.2.2.1 cx.2.2.2.2 tk_RX2_63 dX2_playFault_8 ?_
    exact ro_ret cx hr hlocks (Or.inl ⟨by omega, by unfold playO; rw [if_pos (by omega)]⟩) dX2_playFault_10
