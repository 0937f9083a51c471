set_option maxHeartbeats 4000000 in
set_option maxRecDepth 100000 in
theorem c_X2_plays (l : Launch) (x : Int) (i : Nat) (g : GS) (S : StT) (hx0 : RM g S) (hv0 : VS S) (hi : x = (i : Int) ∧ i < (hand S).length) : mmMi l yX2_plays (wU yX2_plays cX2_plays 5 (some .int)) ({ frames := 4, cells := 0, slots := 0, locals := 93 } : Room) [.int (iN x)] g (fun z g1 => z = (hand S).getD i 0 ∧ RM g1 (playA S i) ∧ ME g1 g) := by
  refine mmMi_of (by decide) (Nat.le_of_ble_eq_true rfl) ?_
  intro p e s m args below meth c D cI tb ad A ls cx hr hlocks hK hA hw hl
  have hx := cx.1
  have hb := cx.2.1
  have hl : lv_has ls 5 [(0, .ref (ad 0)), (1, .int (iN x))] := hl
  have hpl := VS_pl hv0
  have s0 := hx0.1 0 (by omega)
  have s1 := hx0.1 1 (by omega)
  have s2 := hx0.1 2 (by omega)
  have s3 := hx0.1 3 (by omega)
  have s4 := hx0.1 4 (by omega)
  have s5 := hx0.1 5 (by omega)
  have s6 := hx0.1 6 (by omega)
  have s8 := hx0.1 8 (by omega)
  have hvb := VS_nums hv0
  obtain ⟨hh1, hh2, hh3⟩ := hx0.2 (pl S) 1 hpl.1 (by omega)
  have hhl : (S.2 (pl S) 1).length = (hand S).length := rfl
  have hhb := VS_hand hv0 hi.2
  have hl12 := lenS_two S.2 hpl.1 (w := 1) (w' := 2) (by omega) (by omega) (by decide)
  have htt := hv0.2.2.2.2.2.2.2.2.2.2.2.2
  have hto := VS_pos hv0
  have hp5 := VS_pile hv0 5 (by omega)
  have hc5 : S.1 (10 + 5) = S.1 15 := rfl
  have s15 := hx0.1 15 (by omega)
  refine lv_aload_n hx hb dX2_plays_0 rfl (lv_at hl 0 rfl) ?_
  refine mm_get0 cx hK hw tl_RX2_7 dX2_plays_1 ?_
  refine ts_iconst hx hb dX2_plays_4 ?_
  refine mm_ld0 cx hK hw (1) (by omega) dX2_plays_5 (fun z5 hz5 => ?_)
  refine lv_istore_n (lv' := [(2, .int (iN z5)), (0, .ref (ad 0)), (1, .int (iN x))]) hx hb dX2_plays_6 rfl hl (by decide) rfl (fun ls hl => ?_)
  refine lv_aload_n hx hb dX2_plays_7 rfl (lv_at hl 1 rfl) ?_
  refine lv_iload_n hx hb dX2_plays_8 rfl (lv_at hl 0 rfl) ?_
  refine ts_iconst hx hb dX2_plays_9 ?_
  refine lv_iload_n hx hb dX2_plays_10 rfl (lv_at hl 2 rfl) ?_
  refine mm_calli (rest := []) cx hK hA hw hl (c_X2_take l z5 1 (pl S) 1 (by omega) x i hi.1 g S.2 hx0.2 hi.2) tg_RX2_40 ⟨rfl, rfl⟩ 3 rfl (by decide +kernel) ⟨Nat.le_of_ble_eq_true rfl, Nat.le_of_ble_eq_true rfl⟩ ⟨Nat.zero_le _, Nat.zero_le _⟩ (Nat.le_of_ble_eq_true rfl) dX2_plays_11 (rfl) (fun z11 g11 H locs hq11 hw => ?_)
  have hz11 : z11 = (hand S).getD i 0 := hq11.1
  have hs11 := SM_MR hx0.1 hq11.2.2
  obtain ⟨kn, hkn⟩ : ∃ kn : Nat, kn = z11.toNat := ⟨_, rfl⟩
  have hk10 : z11 = (kn : Int) ∧ kn < 10 := by omega
  have ht346 := tv346 kn hk10.2
  have ht2 := tv2_k kn
  have ht5 := tv5_k kn hk10.2
  refine lv_istore_n (lv' := [(3, .int (iN z11)), (2, .int (iN z5)), (0, .ref (ad 0)), (1, .int (iN x))]) hx hb dX2_plays_14 rfl hl (by decide) rfl (fun ls hl => ?_)
  refine lv_aload_n hx hb dX2_plays_15 rfl (lv_at hl 2 rfl) ?_
  refine lv_iload_n hx hb dX2_plays_16 rfl (lv_at hl 1 rfl) ?_
  refine ts_iconst hx hb dX2_plays_17 ?_
  refine lv_iload_n hx hb dX2_plays_18 rfl (lv_at hl 0 rfl) ?_
  refine mm_callv (rest := []) cx hK hA hw hl (c_X2_put l z5 2 (pl S) 2 (by omega) z11 g11 (ul S.2 (pl S) 1 ((S.2 (pl S) 1).eraseIdx i)) hq11.2.1 (by rw [ul_w _ _ (by decide)]; omega)) tg_RX2_30 ⟨rfl, rfl⟩ 3 rfl (by decide +kernel) ⟨Nat.le_of_ble_eq_true rfl, Nat.le_of_ble_eq_true rfl⟩ ⟨Nat.zero_le _, Nat.zero_le _⟩ (Nat.le_of_ble_eq_true rfl) dX2_plays_19 (rfl) (fun g19 H locs hq19 hw => ?_)
  have hs19 := SM_MR hs11 hq19.2
  have hq19b : QM g19 (mvL S.2 (pl S) 1 i 2) := by
    have q := hq19.1
    rw [ul_w _ _ (show (2 : Nat) ≠ 1 by decide), hz11] at q
    exact q
  have hlm : lenS (mvL S.2 (pl S) 1 i 2) = lenS S.2 := lenS_mvL _ hpl.1 (by omega) (by omega) (by decide) hi.2
  have he19 : ME g19 g := ME_tr (ME_MR hq19.2) (ME_MR hq11.2.2)
  refine lv_aload_n hx hb dX2_plays_22 rfl (lv_at hl 2 rfl) ?_
  refine mm_get0 cx hK hw tl_RX2_7 dX2_plays_23 ?_
  refine ts_iconst hx hb dX2_plays_26 ?_
  refine lv_dup2_11 hx hb dX2_plays_27 rfl rfl ?_
  refine mm_ld0 cx hK hw (4) (by omega) dX2_plays_28 (fun z28 hz28 => ?_)
  rw [hs19 4 (by omega)] at hz28
  refine lv_iload_n hx hb dX2_plays_29 rfl (lv_at hl 0 rfl) ?_
  have cut39 : ∀ (o1 : Int) (ho1 : o1 = if 6 ≤ kn then 1 else 0) (H : Heap) (locs : List Loc) (hw : mmB D A s cI ad g19 H locs) (ls : Array Slot) (hl : lv_has ls 5 [(0, .ref (ad 0)), (2, .int (iN z5)), (3, .int (iN z11))]), W p l e ({ frames := 4, cells := 0, slots := 0, locals := 93 } : Room) s m args below meth c H locs 0 0 (mmQi D cI ad A below args s (fun z g1 => z = (hand S).getD i 0 ∧ RM g1 (playA S i) ∧ ME g1 g)) (F0 m 39 ls [.int (iN o1), .int (iN z28), .int (iN 4), .ref (ad 1)]) := by
    intro o1 ho1 H locs hw ls hl
    refine ts_isub hx hb dX2_plays_39 (fun z39 hz39 => ?_)
    refine mm_st0 cx hK hw (4) (by omega) dX2_plays_40 (fun g40 H locs hg40 hw => ?_)
    refine lv_aload_n hx hb dX2_plays_41 rfl (lv_at hl 0 rfl) ?_
    refine mm_get0 cx hK hw tl_RX2_7 dX2_plays_42 ?_
    refine ts_iconst hx hb dX2_plays_45 ?_
    refine lv_dup2_11 hx hb dX2_plays_46 rfl rfl ?_
    refine mm_ld0 cx hK hw (2) (by omega) dX2_plays_47 (fun z47 hz47 => ?_)
    rw [hg40, u2_r, if_neg (by decide), hs19 2 (by omega)] at hz47
    refine lv_iload_n hx hb dX2_plays_48 rfl (lv_at hl 2 rfl) ?_
    refine ps_call (rest := [.int (iN z47), .int (iN 2), .ref (ad 1)]) cx hl (c_X2_coins l z11 kn hk10) tg_RX2_68 ⟨rfl, rfl⟩ 1 rfl (by decide +kernel) ⟨Nat.le_of_ble_eq_true rfl, Nat.le_of_ble_eq_true rfl⟩ ⟨Nat.zero_le _, Nat.zero_le _⟩ (Nat.le_of_ble_eq_true rfl) dX2_plays_49 (rfl) (fun z49 hz49 => ?_)
    refine ts_iadd hx hb dX2_plays_52 (fun z52 hz52 => ?_)
    refine mm_st0 cx hK hw (2) (by omega) dX2_plays_53 (fun g53 H locs hg53 hw => ?_)
    have hs53 : SM g53 (uf (uf S.1 4 z39) 2 z52) := by
      rw [hg53, hg40]
      exact SM_set (SM_set hs19)
    have hq53 : QM g53 (mvL S.2 (pl S) 1 i 2) := by
      rw [hg53, hg40]
      exact QM_set (QM_set hq19b (by omega)) (by omega)
    have he53 : ME g53 g := by
      rw [hg53, hg40]
      exact ME_tr (ME_set _ _ _) (ME_tr (ME_set _ _ _) he19)
    refine lv_aload_n hx hb dX2_plays_54 rfl (lv_at hl 0 rfl) ?_
    refine lv_iload_n hx hb dX2_plays_55 rfl (lv_at hl 1 rfl) ?_
    refine lv_iload_n hx hb dX2_plays_56 rfl (lv_at hl 2 rfl) ?_
    refine ps_call (rest := [.int (iN z5), .ref (ad 0)]) cx hl (c_X2_cards l z11 kn hk10) tg_RX2_71 ⟨rfl, rfl⟩ 1 rfl (by decide +kernel) ⟨Nat.le_of_ble_eq_true rfl, Nat.le_of_ble_eq_true rfl⟩ ⟨Nat.zero_le _, Nat.zero_le _⟩ (Nat.le_of_ble_eq_true rfl) dX2_plays_57 (rfl) (fun z57 hz57 => ?_)
    refine mm_callv (rest := []) cx hK hA hw hl (c_X2_draw l z5 z57 (pl S) (tv 2 kn).toNat (by omega) g53 (mvL S.2 (pl S) 1 i 2) hq53 (by rw [hlm]; omega)) tg_RX2_55 ⟨rfl, rfl⟩ 2 rfl (by decide +kernel) ⟨Nat.le_of_ble_eq_true rfl, Nat.le_of_ble_eq_true rfl⟩ ⟨Nat.zero_le _, Nat.zero_le _⟩ (Nat.le_of_ble_eq_true rfl) dX2_plays_60 (rfl) (fun g60 H locs hq60 hw => ?_)
    have hs60 := SM_MR hs53 hq60.2
    obtain ⟨Ld, hLd⟩ : ∃ Ld, Ld = dr (tv 2 kn).toNat (mvL S.2 (pl S) 1 i 2) (pl S) := ⟨_, rfl⟩
    rw [← hLd] at hq60
    have hlD : lenS Ld = lenS S.2 := by rw [hLd, lenS_dr hpl.1, hlm]
    refine lv_aload_n hx hb dX2_plays_63 rfl (lv_at hl 0 rfl) ?_
    refine mm_get0 cx hK hw tl_RX2_7 dX2_plays_64 ?_
    refine ts_iconst hx hb dX2_plays_67 ?_
    refine lv_dup2_11 hx hb dX2_plays_68 rfl rfl ?_
    refine mm_ld0 cx hK hw (3) (by omega) dX2_plays_69 (fun z69 hz69 => ?_)
    rw [hs60 3 (by omega), uf_n _ _ (by decide), uf_n _ _ (by decide)] at hz69
    refine lv_iload_n hx hb dX2_plays_70 rfl (lv_at hl 2 rfl) ?_
    have cut81 : ∀ (o3 : Int) (ho3 : o3 = if kn = 7 then 1 else 0) (H : Heap) (locs : List Loc) (hw : mmB D A s cI ad g60 H locs) (ls : Array Slot) (hl : lv_has ls 5 [(0, .ref (ad 0)), (2, .int (iN z5)), (3, .int (iN z11))]), W p l e ({ frames := 4, cells := 0, slots := 0, locals := 93 } : Room) s m args below meth c H locs 0 0 (mmQi D cI ad A below args s (fun z g1 => z = (hand S).getD i 0 ∧ RM g1 (playA S i) ∧ ME g1 g)) (F0 m 81 ls [.int (iN o3), .int (iN z69), .int (iN 3), .ref (ad 1)]) := by
      intro o3 ho3 H locs hw ls hl
      refine ts_iadd hx hb dX2_plays_81 (fun z81 hz81 => ?_)
      refine mm_st0 cx hK hw (3) (by omega) dX2_plays_82 (fun g82 H locs hg82 hw => ?_)
      refine lv_aload_n hx hb dX2_plays_83 rfl (lv_at hl 0 rfl) ?_
      refine mm_get0 cx hK hw tl_RX2_7 dX2_plays_84 ?_
      refine ts_iconst hx hb dX2_plays_87 ?_
      refine lv_dup2_11 hx hb dX2_plays_88 rfl rfl ?_
      refine mm_ld0 cx hK hw (4) (by omega) dX2_plays_89 (fun z89 hz89 => ?_)
      rw [hg82, u2_r, if_neg (by decide), hs60 4 (by omega), uf_n _ _ (by decide), uf_s] at hz89
      refine lv_iload_n hx hb dX2_plays_90 rfl (lv_at hl 2 rfl) ?_
      have cut101 : ∀ (o4 : Int) (ho4 : o4 = if 7 ≤ kn then 1 else 0) (H : Heap) (locs : List Loc) (hw : mmB D A s cI ad g82 H locs) (ls : Array Slot) (hl : lv_has ls 5 [(0, .ref (ad 0)), (2, .int (iN z5)), (3, .int (iN z11))]), W p l e ({ frames := 4, cells := 0, slots := 0, locals := 93 } : Room) s m args below meth c H locs 0 0 (mmQi D cI ad A below args s (fun z g1 => z = (hand S).getD i 0 ∧ RM g1 (playA S i) ∧ ME g1 g)) (F0 m 101 ls [.int (iN o4), .int (iN z89), .int (iN 4), .ref (ad 1)]) := by
        intro o4 ho4 H locs hw ls hl
        refine ts_iadd hx hb dX2_plays_101 (fun z101 hz101 => ?_)
        refine mm_st0 cx hK hw (4) (by omega) dX2_plays_102 (fun g102 H locs hg102 hw => ?_)
        obtain ⟨sA, hsA⟩ : ∃ sA, sA = uf (uf (uf (uf S.1 4 z39) 2 z52) 3 z81) 4 z101 := ⟨_, rfl⟩
        have hs102 : SM g102 sA := by
          rw [hsA, hg102, hg82]
          exact SM_set (SM_set hs60)
        have hq102 : QM g102 Ld := by
          rw [hg102, hg82]
          exact QM_set (QM_set hq60.1 (by omega)) (by omega)
        have he102 : ME g102 g := by
          rw [hg102, hg82]
          exact ME_tr (ME_set _ _ _) (ME_tr (ME_set _ _ _) (ME_tr (ME_MR hq60.2) he53))
        have hsAn : ∀ j : Nat, j ≠ 2 → j ≠ 3 → j ≠ 4 → sA j = S.1 j := fun j h2 h3 h4 => by rw [hsA, uf_n _ _ h4, uf_n _ _ h3, uf_n _ _ h2, uf_n _ _ h4]
        have hs106 : SM g102 (uf sA 15 (S.1 15)) := SM_congr hs102 (fun j _ => by
          by_cases e : j = 15
          · rw [e, uf_s, hsAn 15 (by decide) (by decide) (by decide)]
          · rw [uf_n _ _ e])
        have hkD : allK Ld := by rw [hLd]; exact allK_dr _ _ (allK_mv hv0.2.2.2.2.2.2.2.2.2.2.1 hi.2)
        have hoD : outE (S.1 0) Ld := by rw [hLd]; exact outE_dr (by omega) _ _ (outE_mv hv0.2.2.2.2.2.2.2.2.2.2.2.1 (by omega) (by omega) (by omega))
        refine ts_iconst hx hb dX2_plays_103 ?_
        refine lv_istore (lv' := [(4, .int (iN 1)), (0, .ref (ad 0)), (2, .int (iN z5)), (3, .int (iN z11))]) hx hb dX2_plays_104 hl (by decide) rfl (fun ls hl => ?_)
        have cut106 : ∀ (fu : Nat) (j : Int) (ga : GS) (ci : Int × LLT) (hmu : (5 - j).toNat < fu) (hj : 1 ≤ j ∧ (j ≤ S.1 0)) (hk6 : j = 1 ∨ kn = 6) (hci : ci = cuN (S.1 1) (S.1 0) (j - 1).toNat (S.1 15, Ld)) (hsc : SM ga (uf sA 15 ci.1)) (hqc : QM ga ci.2) (hec : ME ga g) (H : Heap) (locs : List Loc) (hw : mmB D A s cI ad ga H locs) (ls : Array Slot) (hl : lv_has ls 5 [(0, .ref (ad 0)), (2, .int (iN z5)), (3, .int (iN z11)), (4, .int (iN j))]), W p l e ({ frames := 4, cells := 0, slots := 0, locals := 93 } : Room) s m args below meth c H locs 0 0 (mmQi D cI ad A below args s (fun z g1 => z = (hand S).getD i 0 ∧ RM g1 (playA S i) ∧ ME g1 g)) (F0 m 106 ls []) := by
          intro fu
          induction fu with
          | zero => intro j ga ci hmu; exact absurd hmu (Nat.not_lt_zero _)
          | succ fu ih106 =>
            intro j ga ci hmu hj hk6 hci hsc hqc hec H locs hw ls hl
            refine lv_iload hx hb dX2_plays_106 (lv_at hl 3 rfl) ?_
            refine lv_aload_n hx hb dX2_plays_108 rfl (lv_at hl 0 rfl) ?_
            refine mm_get0 cx hK hw tl_RX2_7 dX2_plays_109 ?_
            refine ts_iconst hx hb dX2_plays_112 ?_
            refine mm_ld0 cx hK hw (0) (by omega) dX2_plays_113 (fun z113 hz113 => ?_)
            rw [hsc 0 (by omega), uf_n _ _ (by decide), hsAn 0 (by decide) (by decide) (by decide)] at hz113
            obtain ⟨ck1, ck2, -⟩ := cuN_keep (a := S.1 1) hvb.1 (S.1 15, Ld) (show 0 ≤ S.1 15 by omega) hkD hoD (j - 1).toNat
            rw [← hci] at ck1 ck2
            have ck3 : lenS ci.2 + ci.1 = lenS Ld + S.1 15 := ck2
            have hmx := mod_next (x := S.1 1 + j) hvb.1
            have ck4 := lenS_nonneg ci.2
            refine ts_icmp_ge (tgt := 167) hx hb (by omega) dX2_plays_114 (by decide) (fun c114 => ?_) (fun c114 => ?_)
            · skip
              have hPC : plC S i kn = ci := by
                unfold plC
                rw [← hLd]
                by_cases h6 : kn = 6
                · rw [if_pos h6, hci]
                  have : j = S.1 0 := by omega
                  rw [this]
                · rw [if_neg h6, hci, show (j - 1).toNat = 0 by omega]
                  rfl
              refine lv_aload_n hx hb dX2_plays_167 rfl (lv_at hl 0 rfl) ?_
              refine mm_get0 cx hK hw tl_RX2_7 dX2_plays_168 ?_
              refine ts_iconst hx hb dX2_plays_171 ?_
              refine lv_dup2_11 hx hb dX2_plays_172 rfl rfl ?_
              refine mm_ld0 cx hK hw (5) (by omega) dX2_plays_173 (fun z173 hz173 => ?_)
              rw [hsc 5 (by omega), uf_n _ _ (by decide), hsAn 5 (by decide) (by decide) (by decide)] at hz173
              refine lv_iload_n hx hb dX2_plays_174 rfl (lv_at hl 2 rfl) ?_
              have cut185 : ∀ (o6 : Int) (ho6 : o6 = if kn = 8 then 1 else 0) (H : Heap) (locs : List Loc) (hw : mmB D A s cI ad ga H locs) (ls : Array Slot) (hl : lv_has ls 5 [(0, .ref (ad 0)), (2, .int (iN z5)), (3, .int (iN z11))]), W p l e ({ frames := 4, cells := 0, slots := 0, locals := 93 } : Room) s m args below meth c H locs 0 0 (mmQi D cI ad A below args s (fun z g1 => z = (hand S).getD i 0 ∧ RM g1 (playA S i) ∧ ME g1 g)) (F0 m 185 ls [.int (iN o6), .int (iN z173), .int (iN 5), .ref (ad 1)]) := by
                intro o6 ho6 H locs hw ls hl
                refine ts_iadd hx hb dX2_plays_185 (fun z185 hz185 => ?_)
                refine mm_st0 cx hK hw (5) (by omega) dX2_plays_186 (fun g186 H locs hg186 hw => ?_)
                have hAA : playA S i = (plS S.1 kn ci.1, ci.2) := by
                  unfold playA
                  rw [← hz11, ← hkn, hPC]
                have hs186 : SM g186 (plS S.1 kn ci.1) := by
                  rw [hg186]
                  refine SM_congr (SM_set hsc) (fun j _ => ?_)
                  rw [hsA]
                  exact plays_sc (by omega) (by omega) (by omega) (by omega) (by omega) j
                have hq186 : QM g186 ci.2 := by
                  rw [hg186]
                  exact QM_set hqc (by omega)
                have he186 : ME g186 g := by
                  rw [hg186]
                  exact ME_tr (ME_set _ _ _) hec
                refine lv_iload_n hx hb dX2_plays_187 rfl (lv_at hl 2 rfl) ?_
                exact mm_ret cx hr hlocks hw (⟨hz11, by rw [hAA]; exact ⟨hs186, hq186⟩, he186⟩) dX2_plays_188
              refine ts_bipush hx hb dX2_plays_175 (by decide) ?_
              refine ts_icmp_ne (tgt := 184) hx hb (by omega) dX2_plays_177 (by decide) (fun c177 => ?_) (fun c177 => ?_)
              · skip
                refine ts_iconst hx hb dX2_plays_184 ?_
                exact cut185 (0) (by split <;> omega) _ _ hw _ (lv_sub hl [0, 1, 2] rfl)
              · skip
                refine ts_iconst hx hb dX2_plays_180 ?_
                refine lv_goto (tgt := 185) hx hb dX2_plays_181 (by decide) ?_
                exact cut185 (1) (by split <;> omega) _ _ hw _ (lv_sub hl [0, 1, 2] rfl)
            · skip
              refine lv_iload_n hx hb dX2_plays_117 rfl (lv_at hl 2 rfl) ?_
              refine ts_bipush hx hb dX2_plays_118 (by decide) ?_
              refine ts_icmp_ne (tgt := 167) hx hb (by omega) dX2_plays_120 (by decide) (fun c120 => ?_) (fun c120 => ?_)
              · skip
                have hPC : plC S i kn = ci := by
                  unfold plC
                  rw [← hLd]
                  by_cases h6 : kn = 6
                  · rw [if_pos h6, hci]
                    have : j = S.1 0 := by omega
                    rw [this]
                  · rw [if_neg h6, hci, show (j - 1).toNat = 0 by omega]
                    rfl
                refine lv_aload_n hx hb dX2_plays_167 rfl (lv_at hl 0 rfl) ?_
                refine mm_get0 cx hK hw tl_RX2_7 dX2_plays_168 ?_
                refine ts_iconst hx hb dX2_plays_171 ?_
                refine lv_dup2_11 hx hb dX2_plays_172 rfl rfl ?_
                refine mm_ld0 cx hK hw (5) (by omega) dX2_plays_173 (fun z173 hz173 => ?_)
                rw [hsc 5 (by omega), uf_n _ _ (by decide), hsAn 5 (by decide) (by decide) (by decide)] at hz173
                refine lv_iload_n hx hb dX2_plays_174 rfl (lv_at hl 2 rfl) ?_
                have cut185 : ∀ (o6 : Int) (ho6 : o6 = if kn = 8 then 1 else 0) (H : Heap) (locs : List Loc) (hw : mmB D A s cI ad ga H locs) (ls : Array Slot) (hl : lv_has ls 5 [(0, .ref (ad 0)), (2, .int (iN z5)), (3, .int (iN z11))]), W p l e ({ frames := 4, cells := 0, slots := 0, locals := 93 } : Room) s m args below meth c H locs 0 0 (mmQi D cI ad A below args s (fun z g1 => z = (hand S).getD i 0 ∧ RM g1 (playA S i) ∧ ME g1 g)) (F0 m 185 ls [.int (iN o6), .int (iN z173), .int (iN 5), .ref (ad 1)]) := by
                  intro o6 ho6 H locs hw ls hl
                  refine ts_iadd hx hb dX2_plays_185 (fun z185 hz185 => ?_)
                  refine mm_st0 cx hK hw (5) (by omega) dX2_plays_186 (fun g186 H locs hg186 hw => ?_)
                  have hAA : playA S i = (plS S.1 kn ci.1, ci.2) := by
                    unfold playA
                    rw [← hz11, ← hkn, hPC]
                  have hs186 : SM g186 (plS S.1 kn ci.1) := by
                    rw [hg186]
                    refine SM_congr (SM_set hsc) (fun j _ => ?_)
                    rw [hsA]
                    exact plays_sc (by omega) (by omega) (by omega) (by omega) (by omega) j
                  have hq186 : QM g186 ci.2 := by
                    rw [hg186]
                    exact QM_set hqc (by omega)
                  have he186 : ME g186 g := by
                    rw [hg186]
                    exact ME_tr (ME_set _ _ _) hec
                  refine lv_iload_n hx hb dX2_plays_187 rfl (lv_at hl 2 rfl) ?_
                  exact mm_ret cx hr hlocks hw (⟨hz11, by rw [hAA]; exact ⟨hs186, hq186⟩, he186⟩) dX2_plays_188
                refine ts_bipush hx hb dX2_plays_175 (by decide) ?_
                refine ts_icmp_ne (tgt := 184) hx hb (by omega) dX2_plays_177 (by decide) (fun c177 => ?_) (fun c177 => ?_)
                · skip
                  refine ts_iconst hx hb dX2_plays_184 ?_
                  exact cut185 (0) (by split <;> omega) _ _ hw _ (lv_sub hl [0, 1, 2] rfl)
                · skip
                  refine ts_iconst hx hb dX2_plays_180 ?_
                  refine lv_goto (tgt := 185) hx hb dX2_plays_181 (by decide) ?_
                  exact cut185 (1) (by split <;> omega) _ _ hw _ (lv_sub hl [0, 1, 2] rfl)
              · skip
                refine lv_aload_n hx hb dX2_plays_123 rfl (lv_at hl 0 rfl) ?_
                refine mm_get0 cx hK hw tl_RX2_7 dX2_plays_124 ?_
                refine ts_bipush hx hb dX2_plays_127 (by decide) ?_
                refine mm_ld0 cx hK hw (15) (by omega) dX2_plays_129 (fun z129 hz129 => ?_)
                rw [hsc 15 (by omega), uf_s] at hz129
                have hkn6 : kn = 6 := by omega
                refine ts_if_le (tgt := 161) hx hb (by omega) dX2_plays_130 (by decide) (fun c130 => ?_) (fun c130 => ?_)
                · skip
                  obtain ⟨z161, hz161⟩ : ∃ z : Int, z = j + 1 := ⟨_, rfl⟩
                  refine lv_iinc (v := iN z161) (lv' := [(4, .int (iN z161)), (0, .ref (ad 0)), (2, .int (iN z5)), (3, .int (iN z11))]) hx hb dX2_plays_161 hl (k := 3) rfl (by rw [hz161]; exact iN_add _ _) (by decide) rfl (fun ls hl => ?_)
                  have e2 : cu1 ci ((S.1 1 + j) % S.1 0).toNat = ci := if_neg (by omega)
                  have hscn : SM ga (uf sA 15 (cu1 ci ((S.1 1 + j) % S.1 0).toNat).1) := by rw [e2]; exact hsc
                  have hqcn : QM ga (cu1 ci ((S.1 1 + j) % S.1 0).toNat).2 := by rw [e2]; exact hqc
                  have hecn : ME ga g := hec
                  have hcn : cu1 ci ((S.1 1 + j) % S.1 0).toNat = cuN (S.1 1) (S.1 0) (z161 - 1).toNat (S.1 15, Ld) := by
                    rw [show (z161 - 1).toNat = (j - 1).toNat + 1 by omega]
                    show _ = cu1 (cuN (S.1 1) (S.1 0) (j - 1).toNat (S.1 15, Ld)) ((S.1 1 + (((j - 1).toNat : Nat) + 1)) % S.1 0).toNat
                    rw [← hci, show (((j - 1).toNat : Nat) : Int) + 1 = j by omega]
                  refine lv_goto (tgt := 106) hx hb dX2_plays_164 (by decide) ?_
                  exact ih106 (z161) (ga) (cu1 ci ((S.1 1 + j) % S.1 0).toNat) (by omega) (by omega) (by omega) (hcn) (hscn) (hqcn) (hecn) _ _ hw _ (lv_sub hl [1, 2, 3, 0] rfl)
                · skip
                  refine lv_aload_n hx hb dX2_plays_133 rfl (lv_at hl 0 rfl) ?_
                  refine mm_get0 cx hK hw tl_RX2_7 dX2_plays_134 ?_
                  refine ts_bipush hx hb dX2_plays_137 (by decide) ?_
                  refine lv_dup2_11 hx hb dX2_plays_139 rfl rfl ?_
                  refine mm_ld0 cx hK hw (15) (by omega) dX2_plays_140 (fun z140 hz140 => ?_)
                  rw [hsc 15 (by omega), uf_s] at hz140
                  refine ts_iconst hx hb dX2_plays_141 ?_
                  refine ts_isub hx hb dX2_plays_142 (fun z142 hz142 => ?_)
                  refine mm_st0 cx hK hw (15) (by omega) dX2_plays_143 (fun g143 H locs hg143 hw => ?_)
                  have hs143 : SM g143 (uf sA 15 (ci.1 - 1)) := by
                    rw [hg143, hz142, hz140]
                    refine SM_congr (SM_set hsc) (fun j _ => ?_)
                    unfold uf
                    split <;> rfl
                  have hq143 : QM g143 ci.2 := by
                    rw [hg143]
                    exact QM_set hqc (by omega)
                  refine lv_aload_n hx hb dX2_plays_144 rfl (lv_at hl 0 rfl) ?_
                  refine lv_iload_n hx hb dX2_plays_145 rfl (lv_at hl 1 rfl) ?_
                  refine lv_iload hx hb dX2_plays_146 (lv_at hl 3 rfl) ?_
                  refine ts_iadd hx hb dX2_plays_148 (fun z148 hz148 => ?_)
                  refine lv_aload_n hx hb dX2_plays_149 rfl (lv_at hl 0 rfl) ?_
                  refine mm_get0 cx hK hw tl_RX2_7 dX2_plays_150 ?_
                  refine ts_iconst hx hb dX2_plays_153 ?_
                  refine mm_ld0 cx hK hw (0) (by omega) dX2_plays_154 (fun z154 hz154 => ?_)
                  rw [hs143 0 (by omega), uf_n _ _ (by decide), hsAn 0 (by decide) (by decide) (by decide)] at hz154
                  refine ts_irem hx hb (by omega) dX2_plays_155 (fun z155 hz155 => ?_)
                  have hz155b : z155 = (S.1 1 + j) % S.1 0 := by rw [hz155, hz148, hz154, hz5, s1]
                  have hln3 := lenS_len ci.2 (p := z155.toNat) (w := 3) (by omega) (by omega)
                  refine ts_iconst hx hb dX2_plays_156 ?_
                  refine ts_iconst hx hb dX2_plays_157 ?_
                  refine mm_callv (rest := []) cx hK hA hw hl (c_X2_put l z155 3 z155.toNat 3 (by omega) 5 g143 ci.2 hq143 (by omega)) tg_RX2_30 ⟨rfl, rfl⟩ 3 rfl (by decide +kernel) ⟨Nat.le_of_ble_eq_true rfl, Nat.le_of_ble_eq_true rfl⟩ ⟨Nat.zero_le _, Nat.zero_le _⟩ (Nat.le_of_ble_eq_true rfl) dX2_plays_158 (rfl) (fun g158 H locs hq158 hw => ?_)
                  obtain ⟨z161, hz161⟩ : ∃ z : Int, z = j + 1 := ⟨_, rfl⟩
                  refine lv_iinc (v := iN z161) (lv' := [(4, .int (iN z161)), (0, .ref (ad 0)), (2, .int (iN z5)), (3, .int (iN z11))]) hx hb dX2_plays_161 hl (k := 3) rfl (by rw [hz161]; exact iN_add _ _) (by decide) rfl (fun ls hl => ?_)
                  have e2 : cu1 ci ((S.1 1 + j) % S.1 0).toNat = (ci.1 - 1, ul ci.2 z155.toNat 3 (ci.2 z155.toNat 3 ++ [5])) := by
                    rw [← hz155b]
                    exact if_pos (by omega)
                  have hscn : SM g158 (uf sA 15 (cu1 ci ((S.1 1 + j) % S.1 0).toNat).1) := by rw [e2]; exact SM_MR hs143 hq158.2
                  have hqcn : QM g158 (cu1 ci ((S.1 1 + j) % S.1 0).toNat).2 := by rw [e2]; exact hq158.1
                  have hecn : ME g158 g := ME_tr (ME_MR hq158.2) (by rw [hg143]; exact ME_tr (ME_set _ _ _) hec)
                  have hcn : cu1 ci ((S.1 1 + j) % S.1 0).toNat = cuN (S.1 1) (S.1 0) (z161 - 1).toNat (S.1 15, Ld) := by
                    rw [show (z161 - 1).toNat = (j - 1).toNat + 1 by omega]
                    show _ = cu1 (cuN (S.1 1) (S.1 0) (j - 1).toNat (S.1 15, Ld)) ((S.1 1 + (((j - 1).toNat : Nat) + 1)) % S.1 0).toNat
                    rw [← hci, show (((j - 1).toNat : Nat) : Int) + 1 = j by omega]
                  refine lv_goto (tgt := 106) hx hb dX2_plays_164 (by decide) ?_
                  exact ih106 (z161) (g158) (cu1 ci ((S.1 1 + j) % S.1 0).toNat) (by omega) (by omega) (by omega) (hcn) (hscn) (hqcn) (hecn) _ _ hw _ (lv_sub hl [1, 2, 3, 0] rfl)
        exact cut106 _ (1) (g102) ((S.1 15, Ld)) (Nat.lt_succ_self _) (by omega) (by omega) (rfl) (hs106) (hq102) (he102) _ _ hw _ (lv_sub hl [1, 2, 3, 0] rfl)
      refine ts_bipush hx hb dX2_plays_91 (by decide) ?_
      refine ts_icmp_le (tgt := 100) hx hb (by omega) dX2_plays_93 (by decide) (fun c93 => ?_) (fun c93 => ?_)
      · skip
        refine ts_iconst hx hb dX2_plays_100 ?_
        exact cut101 (0) (by split <;> omega) _ _ hw _ (lv_sub hl [0, 1, 2] rfl)
      · skip
        refine ts_iconst hx hb dX2_plays_96 ?_
        refine lv_goto (tgt := 101) hx hb dX2_plays_97 (by decide) ?_
        exact cut101 (1) (by split <;> omega) _ _ hw _ (lv_sub hl [0, 1, 2] rfl)
    refine ts_bipush hx hb dX2_plays_71 (by decide) ?_
    refine ts_icmp_ne (tgt := 80) hx hb (by omega) dX2_plays_73 (by decide) (fun c73 => ?_) (fun c73 => ?_)
    · skip
      refine ts_iconst hx hb dX2_plays_80 ?_
      exact cut81 (0) (by split <;> omega) _ _ hw _ (lv_sub hl [0, 1, 2] rfl)
    · skip
      refine ts_iconst hx hb dX2_plays_76 ?_
      refine lv_goto (tgt := 81) hx hb dX2_plays_77 (by decide) ?_
      exact cut81 (1) (by split <;> omega) _ _ hw _ (lv_sub hl [0, 1, 2] rfl)
  refine ts_iconst hx hb dX2_plays_30 ?_
  refine ts_icmp_le (tgt := 38) hx hb (by omega) dX2_plays_31 (by decide) (fun c31 => ?_) (fun c31 => ?_)
  · skip
    refine ts_iconst hx hb dX2_plays_38 ?_
    exact cut39 (0) (by split <;> omega) _ _ hw _ (lv_sub hl [2, 1, 0] rfl)
  · skip
    refine ts_iconst hx hb dX2_plays_34 ?_
    refine lv_goto (tgt := 39) hx hb dX2_plays_35 (by decide) ?_
    exact cut39 (1) (by split <;> omega) _ _ hw _ (lv_sub hl [2, 1, 0] rfl)
