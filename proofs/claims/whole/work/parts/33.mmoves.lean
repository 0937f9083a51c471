def ME (m1 m : GS) : Prop := m1 1 = m 1 ∧ m1 2 = m 2 ∧ m1 3 = m 3 ∧ m1 4 = m 4
theorem ME_rf (m : GS) : ME m m := ⟨rfl, rfl, rfl, rfl⟩
theorem ME_tr {a b c : GS} (h1 : ME a b) (h2 : ME b c) : ME a c := ⟨h1.1.trans h2.1, h1.2.1.trans h2.2.1, h1.2.2.1.trans h2.2.2.1, h1.2.2.2.trans h2.2.2.2⟩
theorem ME_MR {a b : GS} (h : MR a b) : ME a b := h.2
theorem ME_set (g : GS) (i : Nat) (v : Int) : ME (u2 g 0 i v) g := ⟨u2_row _ (by decide), u2_row _ (by decide), u2_row _ (by decide), u2_row _ (by decide)⟩
theorem SM_set {g : GS} {sc : SCT} (h : SM g sc) {i : Nat} {v : Int} : SM (u2 g 0 i v) (uf sc i v) := fun j hj => by
  rw [u2_r]
  unfold uf
  by_cases e : j = i
  · rw [if_pos e, if_pos e]
  · rw [if_neg e, if_neg e]; exact h j hj
theorem QM_set {g : GS} {L : LLT} (h : QM g L) {i : Nat} {v : Int} (hi : i < 30) : QM (u2 g 0 i v) L := fun p w hp hw => by
  obtain ⟨a1, a2, a3⟩ := h p w hp hw
  refine ⟨?_, a2, fun k hk => ?_⟩
  · rw [u2_r, if_neg (by omega)]; exact a1
  · rw [u2_r, if_neg (by omega)]; exact a3 k hk
theorem SM_MR {g g1 : GS} {sc : SCT} (h : SM g sc) (hm : MR g1 g) : SM g1 sc := fun j hj => (hm.1 j hj).trans (h j hj)
theorem SM_congr {g : GS} {a b : SCT} (h : SM g a) (e : ∀ i, i < 30 → a i = b i) : SM g b := fun j hj => (h j hj).trans (e j hj)
theorem tv346 (k : Nat) (hk : k < 10) : tv 3 k = (if k = 7 then 1 else 0) ∧ tv 4 k = (if 7 ≤ k then 1 else 0) ∧ tv 6 k = (if k = 8 then 1 else 0) := by
  have : ∀ k : Fin 10, tv 3 k.1 = (if k.1 = 7 then 1 else 0) ∧ tv 4 k.1 = (if 7 ≤ k.1 then 1 else 0) ∧ tv 6 k.1 = (if k.1 = 8 then 1 else 0) := by decide +kernel
  exact this ⟨k, hk⟩
theorem plays_sc {sc : SCT} {k : Nat} {C a b d f q : Int} (ha : a = sc 4 - (if 6 ≤ k then 1 else 0)) (hb : b = sc 2 + tv 1 k) (hd : d = sc 3 + tv 3 k) (hf : f = a + tv 4 k) (hq : q = sc 5 + tv 6 k) (i : Nat) : uf (uf (uf (uf (uf (uf sc 4 a) 2 b) 3 d) 4 f) 15 C) 5 q i = plS sc k C i := by
  unfold plS uf
  by_cases i2 : i = 2
  · subst i2; simp [hb]
  · by_cases i3 : i = 3
    · subst i3; simp [hd]
    · by_cases i4 : i = 4
      · subst i4; simp [hf, ha]
      · by_cases i5 : i = 5
        · subst i5; simp [hq]
        · by_cases i15 : i = 15
          · subst i15; simp
          · simp [i2, i3, i4, i5, i15]
theorem ends_sc {sc : SCT} {a b f q : Int} (ha : a = (sc 6 + sc 9) % 10) (hb : b = (sc 1 + 1) % sc 0) (hf : f = sc 7 + 1) (hq : q = if sc 14 = 0 ∨ 3 ≤ emp sc then 1 else 0) (i : Nat) : uf (uf (uf (uf (uf (uf (uf (uf sc 6 a) 1 b) 2 0) 3 1) 4 1) 5 0) 7 f) 8 q i = enS sc i := by
  unfold enS uf
  by_cases i1 : i = 1
  · subst i1; simp [hb]
  · by_cases i2 : i = 2
    · subst i2; simp
    · by_cases i3 : i = 3
      · subst i3; simp
      · by_cases i4 : i = 4
        · subst i4; simp
        · by_cases i5 : i = 5
          · subst i5; simp
          · by_cases i6 : i = 6
            · subst i6; simp [ha]
            · by_cases i7 : i = 7
              · subst i7; simp [hf]
              · by_cases i8 : i = 8
                · subst i8; simp [hq]
                · simp [i1, i2, i3, i4, i5, i6, i7, i8]
set_option maxHeartbeats 4000000 in
set_option maxRecDepth 100000 in
theorem c_X2_buys (l : Launch) (x : Int) (k : Nat) (g : GS) (S : StT) (hx0 : RM g S) (hv0 : VS S) (hk : x = (k : Int) ∧ k < 10) (hw0 : why S.1 k = 0) : mmMi l yX2_buys (wU yX2_buys cX2_buys 2 (some .int)) ({ frames := 2, cells := 0, slots := 0, locals := 45 } : Room) [.int (iN x)] g (fun z g1 => z = S.1 (10 + k) - 1 ∧ RM g1 (buyA S k) ∧ ME g1 g) := by
  refine mmMi_of (by decide) (Nat.le_of_ble_eq_true rfl) ?_
  intro p e s m args below meth c D cI tb ad A ls cx hr hlocks hK hA hw hl
  have hx := cx.1
  have hb := cx.2.1
  have hl : lv_has ls 2 [(0, .ref (ad 0)), (1, .int (iN x))] := hl
  have hpl := VS_pl hv0
  have s0 := hx0.1 0 (by omega)
  have s1 := hx0.1 1 (by omega)
  have s2 := hx0.1 2 (by omega)
  have s3 := hx0.1 3 (by omega)
  have s4 := hx0.1 4 (by omega)
  have s5 := hx0.1 5 (by omega)
  have s6 := hx0.1 6 (by omega)
  have s8 := hx0.1 8 (by omega)
  have hvb := VS_nums hv0
  obtain ⟨hh1, hh2, hh3⟩ := hx0.2 (pl S) 1 hpl.1 (by omega)
  have hhl : (S.2 (pl S) 1).length = (hand S).length := rfl
  have hw1 := why_0 hw0
  have hpk := VS_pb hv0 k (by omega)
  have hpi := VS_pile hv0 k (by omega)
  have spk := hx0.1 (10 + k) (by omega)
  have hln := lenS_len S.2 hpl.1 (w := 3) (by omega)
  refine lv_aload_n hx hb dX2_buys_0 rfl (lv_at hl 0 rfl) ?_
  refine mm_get0 cx hK hw tl_RX2_7 dX2_buys_1 ?_
  refine ts_iconst hx hb dX2_buys_4 ?_
  refine lv_dup2_11 hx hb dX2_buys_5 rfl rfl ?_
  refine mm_ld0 cx hK hw (2) (by omega) dX2_buys_6 (fun z6 hz6 => ?_)
  refine lv_iload_n hx hb dX2_buys_7 rfl (lv_at hl 1 rfl) ?_
  refine ps_call (rest := [.int (iN z6), .int (iN 2), .ref (ad 1)]) cx hl (c_X2_price l x k hk) tg_RX2_77 ⟨rfl, rfl⟩ 1 rfl (by decide +kernel) ⟨Nat.le_of_ble_eq_true rfl, Nat.le_of_ble_eq_true rfl⟩ ⟨Nat.zero_le _, Nat.zero_le _⟩ (Nat.le_of_ble_eq_true rfl) dX2_buys_8 (rfl) (fun z8 hz8 => ?_)
  refine ts_isub hx hb dX2_buys_11 (fun z11 hz11 => ?_)
  refine mm_st0 cx hK hw (2) (by omega) dX2_buys_12 (fun g12 H locs hg12 hw => ?_)
  refine lv_aload_n hx hb dX2_buys_13 rfl (lv_at hl 0 rfl) ?_
  refine mm_get0 cx hK hw tl_RX2_7 dX2_buys_14 ?_
  refine ts_iconst hx hb dX2_buys_17 ?_
  refine lv_dup2_11 hx hb dX2_buys_18 rfl rfl ?_
  refine mm_ld0 cx hK hw (3) (by omega) dX2_buys_19 (fun z19 hz19 => ?_)
  rw [hg12, u2_r, if_neg (by decide), s3] at hz19
  refine ts_iconst hx hb dX2_buys_20 ?_
  refine ts_isub hx hb dX2_buys_21 (fun z21 hz21 => ?_)
  refine mm_st0 cx hK hw (3) (by omega) dX2_buys_22 (fun g22 H locs hg22 hw => ?_)
  refine lv_aload_n hx hb dX2_buys_23 rfl (lv_at hl 0 rfl) ?_
  refine mm_get0 cx hK hw tl_RX2_7 dX2_buys_24 ?_
  refine ts_bipush hx hb dX2_buys_27 (by decide) ?_
  refine lv_iload_n hx hb dX2_buys_29 rfl (lv_at hl 1 rfl) ?_
  refine ts_iadd hx hb dX2_buys_30 (fun z30 hz30 => ?_)
  refine lv_dup2_11 hx hb dX2_buys_31 rfl rfl ?_
  refine mm_ld0 cx hK hw (10 + k) (by omega) dX2_buys_32 (fun z32 hz32 => ?_)
  rw [hg22, u2_r, if_neg (by omega), hg12, u2_r, if_neg (by omega), spk] at hz32
  refine ts_iconst hx hb dX2_buys_33 ?_
  refine ts_isub hx hb dX2_buys_34 (fun z34 hz34 => ?_)
  refine mm_st0 cx hK hw (10 + k) (by omega) dX2_buys_35 (fun g35 H locs hg35 hw => ?_)
  have hs35 : SM g35 (buS S.1 k) := by
    rw [hg35, hg22, hg12, show z34 = S.1 (10 + k) - 1 by omega, show z21 = S.1 3 - 1 by omega, show z11 = S.1 2 - tv 0 k by omega]
    exact SM_set (SM_set (SM_set hx0.1))
  have hq35 : QM g35 S.2 := by
    rw [hg35, hg22, hg12]
    exact QM_set (QM_set (QM_set hx0.2 (by omega)) (by omega)) (by omega)
  have he35 : ME g35 g := by
    rw [hg35, hg22, hg12]
    exact ME_tr (ME_set _ _ _) (ME_tr (ME_set _ _ _) (ME_set _ _ _))
  refine lv_aload_n hx hb dX2_buys_36 rfl (lv_at hl 0 rfl) ?_
  refine lv_aload_n hx hb dX2_buys_37 rfl (lv_at hl 0 rfl) ?_
  refine mm_get0 cx hK hw tl_RX2_7 dX2_buys_38 ?_
  refine ts_iconst hx hb dX2_buys_41 ?_
  refine mm_ld0 cx hK hw (1) (by omega) dX2_buys_42 (fun z42 hz42 => ?_)
  have hs42 := hs35 1 (by omega)
  rw [show buS S.1 k 1 = S.1 1 by unfold buS; rw [uf_n _ _ (by omega), uf_n _ _ (by omega), uf_n _ _ (by omega)]] at hs42
  refine ts_iconst hx hb dX2_buys_43 ?_
  refine lv_iload_n hx hb dX2_buys_44 rfl (lv_at hl 1 rfl) ?_
  refine mm_callv (rest := []) cx hK hA hw hl (c_X2_put l z42 3 (pl S) 3 (by omega) x g35 S.2 hq35 (by omega)) tg_RX2_30 ⟨rfl, rfl⟩ 3 rfl (by decide +kernel) ⟨Nat.le_of_ble_eq_true rfl, Nat.le_of_ble_eq_true rfl⟩ ⟨Nat.zero_le _, Nat.zero_le _⟩ (Nat.le_of_ble_eq_true rfl) dX2_buys_45 (rfl) (fun g45 H locs hq45 hw => ?_)
  refine lv_aload_n hx hb dX2_buys_48 rfl (lv_at hl 0 rfl) ?_
  refine mm_get0 cx hK hw tl_RX2_7 dX2_buys_49 ?_
  refine ts_bipush hx hb dX2_buys_52 (by decide) ?_
  refine lv_iload_n hx hb dX2_buys_54 rfl (lv_at hl 1 rfl) ?_
  refine ts_iadd hx hb dX2_buys_55 (fun z55 hz55 => ?_)
  refine mm_ld0 cx hK hw (10 + k) (by omega) dX2_buys_56 (fun z56 hz56 => ?_)
  have hs45 := SM_MR hs35 hq45.2
  have hz56b := hs45 (10 + k) (by omega)
  rw [show buS S.1 k (10 + k) = S.1 (10 + k) - 1 from uf_s _ _ _] at hz56b
  exact mm_ret cx hr hlocks hw (⟨by omega, ⟨hs45, by have q := hq45.1; rw [hk.1] at q; exact q⟩, ME_tr (ME_MR hq45.2) he35⟩) dX2_buys_57
set_option maxHeartbeats 4000000 in
set_option maxRecDepth 100000 in
theorem c_X2_scraps (l : Launch) (x : Int) (i : Nat) (g : GS) (S : StT) (hx0 : RM g S) (hv0 : VS S) (hi : x = (i : Int) ∧ i < (hand S).length) : mmMi l yX2_scraps (wU yX2_scraps cX2_scraps 3 (some .int)) ({ frames := 2, cells := 0, slots := 0, locals := 47 } : Room) [.int (iN x)] g (fun z g1 => z = (hand S).getD i 0 ∧ RM g1 (scrA S i) ∧ ME g1 g) := by
  refine mmMi_of (by decide) (Nat.le_of_ble_eq_true rfl) ?_
  intro p e s m args below meth c D cI tb ad A ls cx hr hlocks hK hA hw hl
  have hx := cx.1
  have hb := cx.2.1
  have hl : lv_has ls 3 [(0, .ref (ad 0)), (1, .int (iN x))] := hl
  have hpl := VS_pl hv0
  have s0 := hx0.1 0 (by omega)
  have s1 := hx0.1 1 (by omega)
  have s2 := hx0.1 2 (by omega)
  have s3 := hx0.1 3 (by omega)
  have s4 := hx0.1 4 (by omega)
  have s5 := hx0.1 5 (by omega)
  have s6 := hx0.1 6 (by omega)
  have s8 := hx0.1 8 (by omega)
  have hvb := VS_nums hv0
  obtain ⟨hh1, hh2, hh3⟩ := hx0.2 (pl S) 1 hpl.1 (by omega)
  have hhl : (S.2 (pl S) 1).length = (hand S).length := rfl
  have hhb := VS_hand hv0 hi.2
  refine lv_aload_n hx hb dX2_scraps_0 rfl (lv_at hl 0 rfl) ?_
  refine lv_aload_n hx hb dX2_scraps_1 rfl (lv_at hl 0 rfl) ?_
  refine mm_get0 cx hK hw tl_RX2_7 dX2_scraps_2 ?_
  refine ts_iconst hx hb dX2_scraps_5 ?_
  refine mm_ld0 cx hK hw (1) (by omega) dX2_scraps_6 (fun z6 hz6 => ?_)
  refine ts_iconst hx hb dX2_scraps_7 ?_
  refine lv_iload_n hx hb dX2_scraps_8 rfl (lv_at hl 1 rfl) ?_
  refine mm_calli (rest := []) cx hK hA hw hl (c_X2_take l z6 1 (pl S) 1 (by omega) x i hi.1 g S.2 hx0.2 hi.2) tg_RX2_40 ⟨rfl, rfl⟩ 3 rfl (by decide +kernel) ⟨Nat.le_of_ble_eq_true rfl, Nat.le_of_ble_eq_true rfl⟩ ⟨Nat.zero_le _, Nat.zero_le _⟩ (Nat.le_of_ble_eq_true rfl) dX2_scraps_9 (rfl) (fun z9 g9 H locs hq9 hw => ?_)
  have hz9 : z9 = (hand S).getD i 0 := hq9.1
  have hs9 := SM_MR hx0.1 hq9.2.2
  refine lv_istore_n (lv' := [(2, .int (iN z9)), (0, .ref (ad 0)), (1, .int (iN x))]) hx hb dX2_scraps_12 rfl hl (by decide) rfl (fun ls hl => ?_)
  refine lv_aload_n hx hb dX2_scraps_13 rfl (lv_at hl 1 rfl) ?_
  refine mm_get0 cx hK hw tl_RX2_7 dX2_scraps_14 ?_
  refine ts_iconst hx hb dX2_scraps_17 ?_
  refine lv_dup2_11 hx hb dX2_scraps_18 rfl rfl ?_
  refine mm_ld0 cx hK hw (5) (by omega) dX2_scraps_19 (fun z19 hz19 => ?_)
  rw [hs9 5 (by omega)] at hz19
  refine ts_iconst hx hb dX2_scraps_20 ?_
  refine ts_isub hx hb dX2_scraps_21 (fun z21 hz21 => ?_)
  refine mm_st0 cx hK hw (5) (by omega) dX2_scraps_22 (fun g22 H locs hg22 hw => ?_)
  refine lv_aload_n hx hb dX2_scraps_23 rfl (lv_at hl 1 rfl) ?_
  refine mm_get0 cx hK hw tl_RX2_7 dX2_scraps_24 ?_
  refine ts_bipush hx hb dX2_scraps_27 (by decide) ?_
  refine lv_iload_n hx hb dX2_scraps_29 rfl (lv_at hl 0 rfl) ?_
  refine ts_iadd hx hb dX2_scraps_30 (fun z30 hz30 => ?_)
  refine lv_dup2_11 hx hb dX2_scraps_31 rfl rfl ?_
  refine mm_ld0 cx hK hw (20 + z9.toNat) (by omega) dX2_scraps_32 (fun z32 hz32 => ?_)
  rw [hg22, u2_r, if_neg (by omega), hs9 (20 + z9.toNat) (by omega)] at hz32
  refine ts_iconst hx hb dX2_scraps_33 ?_
  refine ts_iadd hx hb dX2_scraps_34 (fun z34 hz34 => ?_)
  refine mm_st0 cx hK hw (20 + z9.toNat) (by omega) dX2_scraps_35 (fun g35 H locs hg35 hw => ?_)
  have hs35 : SM g35 (scrA S i).1 := by
    rw [hg35, hg22, show z34 = S.1 (20 + z9.toNat) + 1 by omega, show z21 = S.1 5 - 1 by omega]
    show SM _ (uf (uf S.1 5 (S.1 5 - 1)) (20 + ((hand S).getD i 0).toNat) (S.1 (20 + ((hand S).getD i 0).toNat) + 1))
    rw [← hz9]
    exact SM_set (SM_set hs9)
  have hq35 : QM g35 (scrA S i).2 := by
    rw [hg35, hg22]
    exact QM_set (QM_set hq9.2.1 (by omega)) (by omega)
  have he35 : ME g35 g := by
    rw [hg35, hg22]
    exact ME_tr (ME_set _ _ _) (ME_tr (ME_set _ _ _) (ME_MR hq9.2.2))
  refine lv_iload_n hx hb dX2_scraps_36 rfl (lv_at hl 0 rfl) ?_
  exact mm_ret cx hr hlocks hw (⟨hz9, ⟨hs35, hq35⟩, he35⟩) dX2_scraps_37
set_option maxHeartbeats 4000000 in
set_option maxRecDepth 100000 in
theorem c_X2_ends (l : Launch) (g : GS) (S : StT) (hx0 : RM g S) (hv0 : VS S) : mmMi l yX2_ends (wU yX2_ends cX2_ends 2 (some .int)) ({ frames := 4, cells := 0, slots := 0, locals := 93 } : Room) [] g (fun z g1 => z = (endA S).1 1 ∧ RM g1 (endA S) ∧ ME g1 g) := by
  refine mmMi_of (by decide) (Nat.le_of_ble_eq_true rfl) ?_
  intro p e s m args below meth c D cI tb ad A ls cx hr hlocks hK hA hw hl
  have hx := cx.1
  have hb := cx.2.1
  have hl : lv_has ls 2 [(0, .ref (ad 0))] := hl
  have hpl := VS_pl hv0
  have s0 := hx0.1 0 (by omega)
  have s1 := hx0.1 1 (by omega)
  have s2 := hx0.1 2 (by omega)
  have s3 := hx0.1 3 (by omega)
  have s4 := hx0.1 4 (by omega)
  have s5 := hx0.1 5 (by omega)
  have s6 := hx0.1 6 (by omega)
  have s8 := hx0.1 8 (by omega)
  have hvb := VS_nums hv0
  obtain ⟨hh1, hh2, hh3⟩ := hx0.2 (pl S) 1 hpl.1 (by omega)
  have hhl : (S.2 (pl S) 1).length = (hand S).length := rfl
  have s9 := hx0.1 9 (by omega)
  have s7 := hx0.1 7 (by omega)
  have hl3 := lenS_len S.2 hpl.1 (w := 3) (by omega)
  have hto := VS_pos hv0
  have htt := hv0.2.2.2.2.2.2.2.2.2.2.2.2
  have h13 := lenS_two S.2 hpl.1 (w := 1) (w' := 3) (by omega) (by omega) (by decide)
  refine lv_aload_n hx hb dX2_ends_0 rfl (lv_at hl 0 rfl) ?_
  refine mm_get0 cx hK hw tl_RX2_7 dX2_ends_1 ?_
  refine ts_iconst hx hb dX2_ends_4 ?_
  refine mm_ld0 cx hK hw (1) (by omega) dX2_ends_5 (fun z5 hz5 => ?_)
  refine lv_istore_n (lv' := [(1, .int (iN z5)), (0, .ref (ad 0))]) hx hb dX2_ends_6 rfl hl (by decide) rfl (fun ls hl => ?_)
  refine lv_aload_n hx hb dX2_ends_7 rfl (lv_at hl 1 rfl) ?_
  refine lv_iload_n hx hb dX2_ends_8 rfl (lv_at hl 0 rfl) ?_
  refine ts_iconst hx hb dX2_ends_9 ?_
  refine ts_iconst hx hb dX2_ends_10 ?_
  refine mm_callv (rest := []) cx hK hA hw hl (c_X2_moveAll l z5 1 3 (pl S) 1 3 (by omega) g S.2 hx0.2 (by omega)) tg_RX2_37 ⟨rfl, rfl⟩ 3 rfl (by decide +kernel) ⟨Nat.le_of_ble_eq_true rfl, Nat.le_of_ble_eq_true rfl⟩ ⟨Nat.zero_le _, Nat.zero_le _⟩ (Nat.le_of_ble_eq_true rfl) dX2_ends_11 (rfl) (fun g11 H locs hq11 hw => ?_)
  have hAl : lenS (ul (ul S.2 (pl S) 3 (S.2 (pl S) 3 ++ S.2 (pl S) 1)) (pl S) 1 []) = lenS S.2 := by rw [lenS_ul _ _ hpl.1 (by omega), lenS_ul _ _ hpl.1 (by omega), ul_w _ _ (by decide), List.length_append]; simp only [List.length_nil]; omega
  have h23 := lenS_two (ul (ul S.2 (pl S) 3 (S.2 (pl S) 3 ++ S.2 (pl S) 1)) (pl S) 1 []) hpl.1 (w := 2) (w' := 3) (by omega) (by omega) (by decide)
  refine lv_aload_n hx hb dX2_ends_14 rfl (lv_at hl 1 rfl) ?_
  refine lv_iload_n hx hb dX2_ends_15 rfl (lv_at hl 0 rfl) ?_
  refine ts_iconst hx hb dX2_ends_16 ?_
  refine ts_iconst hx hb dX2_ends_17 ?_
  refine mm_callv (rest := []) cx hK hA hw hl (c_X2_moveAll l z5 2 3 (pl S) 2 3 (by omega) g11 (ul (ul S.2 (pl S) 3 (S.2 (pl S) 3 ++ S.2 (pl S) 1)) (pl S) 1 []) hq11.1 (by omega)) tg_RX2_37 ⟨rfl, rfl⟩ 3 rfl (by decide +kernel) ⟨Nat.le_of_ble_eq_true rfl, Nat.le_of_ble_eq_true rfl⟩ ⟨Nat.zero_le _, Nat.zero_le _⟩ (Nat.le_of_ble_eq_true rfl) dX2_ends_18 (rfl) (fun g18 H locs hq18 hw => ?_)
  have hqE : QM g18 (enL S.2 (pl S)) := by
    refine QM_congr hq18.1 (fun p' w' _ _ => ?_)
    unfold enL
    rw [ul_w _ _ (show (3 : Nat) ≠ 1 by decide), ul_s, ul_w _ _ (show (2 : Nat) ≠ 1 by decide), ul_w _ _ (show (2 : Nat) ≠ 3 by decide)]
    unfold ul
    by_cases hp : p' = pl S
    · by_cases w1 : w' = 1
      · simp [hp, w1]
      · by_cases w2 : w' = 2
        · simp [hp, w2]
        · by_cases w3 : w' = 3
          · simp [hp, w3]
          · simp [hp, w1, w2, w3]
    · simp [hp]
  have hlE : lenS (enL S.2 (pl S)) ≤ 164 := by
    unfold enL
    rw [lenS_ul _ _ hpl.1 (by omega), lenS_ul _ _ hpl.1 (by omega), lenS_ul _ _ hpl.1 (by omega), ul_w _ _ (by decide), ul_w _ _ (by decide), ul_w _ _ (by decide), List.length_append, List.length_append]
    simp only [List.length_nil]
    omega
  refine lv_aload_n hx hb dX2_ends_21 rfl (lv_at hl 1 rfl) ?_
  refine lv_iload_n hx hb dX2_ends_22 rfl (lv_at hl 0 rfl) ?_
  refine ts_iconst hx hb dX2_ends_23 ?_
  refine mm_callv (rest := []) cx hK hA hw hl (c_X2_draw l z5 5 (pl S) 5 (by omega) g18 (enL S.2 (pl S)) hqE (by omega)) tg_RX2_55 ⟨rfl, rfl⟩ 2 rfl (by decide +kernel) ⟨Nat.le_of_ble_eq_true rfl, Nat.le_of_ble_eq_true rfl⟩ ⟨Nat.zero_le _, Nat.zero_le _⟩ (Nat.le_of_ble_eq_true rfl) dX2_ends_24 (rfl) (fun g24 H locs hq24 hw => ?_)
  have hs24 : SM g24 S.1 := SM_MR (SM_MR (SM_MR hx0.1 hq11.2) hq18.2) hq24.2
  have he24 : ME g24 g := ME_tr (ME_MR hq24.2) (ME_tr (ME_MR hq18.2) (ME_MR hq11.2))
  refine lv_aload_n hx hb dX2_ends_27 rfl (lv_at hl 1 rfl) ?_
  refine mm_get0 cx hK hw tl_RX2_7 dX2_ends_28 ?_
  refine ts_bipush hx hb dX2_ends_31 (by decide) ?_
  refine lv_aload_n hx hb dX2_ends_33 rfl (lv_at hl 1 rfl) ?_
  refine mm_get0 cx hK hw tl_RX2_7 dX2_ends_34 ?_
  refine ts_bipush hx hb dX2_ends_37 (by decide) ?_
  refine mm_ld0 cx hK hw (6) (by omega) dX2_ends_39 (fun z39 hz39 => ?_)
  refine lv_aload_n hx hb dX2_ends_40 rfl (lv_at hl 1 rfl) ?_
  refine mm_get0 cx hK hw tl_RX2_7 dX2_ends_41 ?_
  refine ts_bipush hx hb dX2_ends_44 (by decide) ?_
  refine mm_ld0 cx hK hw (9) (by omega) dX2_ends_46 (fun z46 hz46 => ?_)
  refine ts_iadd hx hb dX2_ends_47 (fun z47 hz47 => ?_)
  refine ts_bipush hx hb dX2_ends_48 (by decide) ?_
  rw [hs24 6 (by omega)] at hz39
  rw [hs24 9 (by omega)] at hz46
  refine ts_irem hx hb (by omega) dX2_ends_50 (fun z50 hz50 => ?_)
  refine mm_st0 cx hK hw (6) (by omega) dX2_ends_51 (fun g51 H locs hg51 hw => ?_)
  refine lv_aload_n hx hb dX2_ends_52 rfl (lv_at hl 1 rfl) ?_
  refine mm_get0 cx hK hw tl_RX2_7 dX2_ends_53 ?_
  refine ts_iconst hx hb dX2_ends_56 ?_
  refine lv_iload_n hx hb dX2_ends_57 rfl (lv_at hl 0 rfl) ?_
  refine ts_iconst hx hb dX2_ends_58 ?_
  refine ts_iadd hx hb dX2_ends_59 (fun z59 hz59 => ?_)
  refine lv_aload_n hx hb dX2_ends_60 rfl (lv_at hl 1 rfl) ?_
  refine mm_get0 cx hK hw tl_RX2_7 dX2_ends_61 ?_
  refine ts_iconst hx hb dX2_ends_64 ?_
  refine mm_ld0 cx hK hw (0) (by omega) dX2_ends_65 (fun z65 hz65 => ?_)
  rw [hg51, u2_r, if_neg (by decide), hs24 0 (by omega)] at hz65
  refine ts_irem hx hb (by omega) dX2_ends_66 (fun z66 hz66 => ?_)
  refine mm_st0 cx hK hw (1) (by omega) dX2_ends_67 (fun g67 H locs hg67 hw => ?_)
  refine lv_aload_n hx hb dX2_ends_68 rfl (lv_at hl 1 rfl) ?_
  refine mm_get0 cx hK hw tl_RX2_7 dX2_ends_69 ?_
  refine ts_iconst hx hb dX2_ends_72 ?_
  refine ts_iconst hx hb dX2_ends_73 ?_
  refine mm_st0 cx hK hw (2) (by omega) dX2_ends_74 (fun g74 H locs hg74 hw => ?_)
  refine lv_aload_n hx hb dX2_ends_75 rfl (lv_at hl 1 rfl) ?_
  refine mm_get0 cx hK hw tl_RX2_7 dX2_ends_76 ?_
  refine ts_iconst hx hb dX2_ends_79 ?_
  refine ts_iconst hx hb dX2_ends_80 ?_
  refine mm_st0 cx hK hw (3) (by omega) dX2_ends_81 (fun g81 H locs hg81 hw => ?_)
  refine lv_aload_n hx hb dX2_ends_82 rfl (lv_at hl 1 rfl) ?_
  refine mm_get0 cx hK hw tl_RX2_7 dX2_ends_83 ?_
  refine ts_iconst hx hb dX2_ends_86 ?_
  refine ts_iconst hx hb dX2_ends_87 ?_
  refine mm_st0 cx hK hw (4) (by omega) dX2_ends_88 (fun g88 H locs hg88 hw => ?_)
  refine lv_aload_n hx hb dX2_ends_89 rfl (lv_at hl 1 rfl) ?_
  refine mm_get0 cx hK hw tl_RX2_7 dX2_ends_90 ?_
  refine ts_iconst hx hb dX2_ends_93 ?_
  refine ts_iconst hx hb dX2_ends_94 ?_
  refine mm_st0 cx hK hw (5) (by omega) dX2_ends_95 (fun g95 H locs hg95 hw => ?_)
  refine lv_aload_n hx hb dX2_ends_96 rfl (lv_at hl 1 rfl) ?_
  refine mm_get0 cx hK hw tl_RX2_7 dX2_ends_97 ?_
  refine ts_bipush hx hb dX2_ends_100 (by decide) ?_
  refine lv_dup2_11 hx hb dX2_ends_102 rfl rfl ?_
  refine mm_ld0 cx hK hw (7) (by omega) dX2_ends_103 (fun z103 hz103 => ?_)
  rw [hg95, u2_r, if_neg (by decide), hg88, u2_r, if_neg (by decide), hg81, u2_r, if_neg (by decide), hg74, u2_r, if_neg (by decide), hg67, u2_r, if_neg (by decide), hg51, u2_r, if_neg (by decide), hs24 7 (by omega)] at hz103
  refine ts_iconst hx hb dX2_ends_104 ?_
  refine ts_iadd hx hb dX2_ends_105 (fun z105 hz105 => ?_)
  refine mm_st0 cx hK hw (7) (by omega) dX2_ends_106 (fun g106 H locs hg106 hw => ?_)
  obtain ⟨sc106, hsc⟩ : ∃ sc106, sc106 = uf (uf (uf (uf (uf (uf (uf S.1 6 z50) 1 z66) 2 0) 3 1) 4 1) 5 0) 7 z105 := ⟨_, rfl⟩
  have hs106 : SM g106 sc106 := by
    rw [hsc, hg106, hg95, hg88, hg81, hg74, hg67, hg51]
    exact SM_set (SM_set (SM_set (SM_set (SM_set (SM_set (SM_set hs24))))))
  have hq106 : QM g106 (dr 5 (enL S.2 (pl S)) (pl S)) := by
    rw [hg106, hg95, hg88, hg81, hg74, hg67, hg51]
    exact QM_set (QM_set (QM_set (QM_set (QM_set (QM_set (QM_set hq24.1 (by omega)) (by omega)) (by omega)) (by omega)) (by omega)) (by omega)) (by omega)
  have he106 : ME g106 g := by
    rw [hg106, hg95, hg88, hg81, hg74, hg67, hg51]
    exact ME_tr (ME_set _ _ _) (ME_tr (ME_set _ _ _) (ME_tr (ME_set _ _ _) (ME_tr (ME_set _ _ _) (ME_tr (ME_set _ _ _) (ME_tr (ME_set _ _ _) (ME_tr (ME_set _ _ _) he24))))))
  have hhi : ∀ j : Nat, 10 ≤ j → sc106 j = S.1 j := fun j hj => by
    rw [hsc, uf_n _ _ (by omega), uf_n _ _ (by omega), uf_n _ _ (by omega), uf_n _ _ (by omega), uf_n _ _ (by omega), uf_n _ _ (by omega), uf_n _ _ (by omega)]
  have hp14 := VS_pb hv0 4 (by omega)
  have hp14b : S.1 (10 + 4) = S.1 14 := rfl
  have hempb := emp_b S.1
  refine lv_aload_n hx hb dX2_ends_107 rfl (lv_at hl 1 rfl) ?_
  refine mm_get0 cx hK hw tl_RX2_7 dX2_ends_108 ?_
  refine ts_bipush hx hb dX2_ends_111 (by decide) ?_
  refine lv_aload_n hx hb dX2_ends_113 rfl (lv_at hl 1 rfl) ?_
  refine mm_get0 cx hK hw tl_RX2_7 dX2_ends_114 ?_
  refine ts_bipush hx hb dX2_ends_117 (by decide) ?_
  refine mm_ld0 cx hK hw (14) (by omega) dX2_ends_119 (fun z119 hz119 => ?_)
  have cut136 : ∀ (ov : Int) (hov : ov = if S.1 14 = 0 ∨ 3 ≤ emp S.1 then 1 else 0) (H : Heap) (locs : List Loc) (hw : mmB D A s cI ad g106 H locs) (ls : Array Slot) (hl : lv_has ls 2 [(0, .ref (ad 0))]), W p l e ({ frames := 4, cells := 0, slots := 0, locals := 93 } : Room) s m args below meth c H locs 0 0 (mmQi D cI ad A below args s (fun z g1 => z = (endA S).1 1 ∧ RM g1 (endA S) ∧ ME g1 g)) (F0 m 136 ls [.int (iN ov), .int (iN 8), .ref (ad 1)]) := by
    intro ov hov H locs hw ls hl
    refine mm_st0 cx hK hw (8) (by omega) dX2_ends_136 (fun g136 H locs hg136 hw => ?_)
    have hfin : ∀ i, i < 30 → uf sc106 8 ov i = enS S.1 i := fun i _ => by
      rw [hsc]
      exact ends_sc (by rw [hz50, hz47, hz39, hz46]) (by rw [hz66, hz59, hz65, hz5, s1]) (by omega) hov i
    have hs136 : SM g136 (enS S.1) := by
      rw [hg136]
      exact SM_congr (SM_set hs106) hfin
    have hq136 : QM g136 (dr 5 (enL S.2 (pl S)) (pl S)) := by
      rw [hg136]
      exact QM_set hq106 (by omega)
    have he136 : ME g136 g := by
      rw [hg136]
      exact ME_tr (ME_set _ _ _) he106
    refine lv_aload_n hx hb dX2_ends_137 rfl (lv_at hl 0 rfl) ?_
    refine mm_get0 cx hK hw tl_RX2_7 dX2_ends_138 ?_
    refine ts_iconst hx hb dX2_ends_141 ?_
    refine mm_ld0 cx hK hw (1) (by omega) dX2_ends_142 (fun z142 hz142 => ?_)
    exact mm_ret cx hr hlocks hw (⟨by rw [hz142]; exact hs136 1 (by omega), ⟨hs136, hq136⟩, he136⟩) dX2_ends_143
  rw [hs106 14 (by omega), hhi 14 (by omega)] at hz119
  refine ts_if_eq (tgt := 131) hx hb (by omega) dX2_ends_120 (by decide) (fun c120 => ?_) (fun c120 => ?_)
  · skip
    refine ts_iconst hx hb dX2_ends_131 ?_
    refine lv_goto (tgt := 136) hx hb dX2_ends_132 (by decide) ?_
    exact cut136 (1) (by split <;> omega) _ _ hw _ (lv_sub hl [1] rfl)
  · skip
    refine lv_aload_n hx hb dX2_ends_123 rfl (lv_at hl 1 rfl) ?_
    refine mm_callr (rest := [.int (iN 8), .ref (ad 1)]) cx hK hA hw hl (c_X2_emptyPiles l g106 sc106 hs106 (fun k hk => by rw [hhi _ (by omega)]; exact VS_pb hv0 k (by omega))) tg_RX2_83 ⟨rfl, rfl⟩ 0 rfl (by decide +kernel) ⟨Nat.le_of_ble_eq_true rfl, Nat.le_of_ble_eq_true rfl⟩ ⟨Nat.zero_le _, Nat.zero_le _⟩ (Nat.le_of_ble_eq_true rfl) dX2_ends_124 (rfl) (fun z124 hz124 => ?_)
    have hem : emp sc106 = emp S.1 := by
      unfold emp
      exact sumN_congr (fun k hk => by rw [hhi _ (by omega)])
    refine ts_iconst hx hb dX2_ends_127 ?_
    refine ts_icmp_le (tgt := 135) hx hb (by omega) dX2_ends_128 (by decide) (fun c128 => ?_) (fun c128 => ?_)
    · skip
      refine ts_iconst hx hb dX2_ends_135 ?_
      exact cut136 (0) (by split <;> omega) _ _ hw _ (lv_sub hl [1] rfl)
    · skip
      refine ts_iconst hx hb dX2_ends_131 ?_
      refine lv_goto (tgt := 136) hx hb dX2_ends_132 (by decide) ?_
      exact cut136 (1) (by split <;> omega) _ _ hw _ (lv_sub hl [1] rfl)
