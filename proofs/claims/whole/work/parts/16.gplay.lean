theorem plS_hi (sc : SCT) (k : Nat) (c : Int) {j : Nat} (h : 6 ≤ j) : plS sc k c j = if j = 15 then c else sc j := by
  unfold plS
  rw [if_neg (by omega), if_neg (by omega), if_neg (by omega), if_neg (by omega)]
theorem tv5_k (k : Nat) (hk : k < 10) : tv 5 k = if k = 6 then 1 else 0 := by
  have : ∀ k : Fin 10, tv 5 k.1 = if k.1 = 6 then 1 else 0 := by decide +kernel
  exact this ⟨k, hk⟩
theorem tv2_k (k : Nat) : 0 ≤ tv 2 k ∧ tv 2 k ≤ 60 := by
  have h := tv_b 2 k
  by_cases hk : k < 10
  · have : ∀ k : Fin 10, 0 ≤ tv 2 k.1 := by decide +kernel
    have := this ⟨k, hk⟩
    simp only at this
    omega
  · have : tv 2 k = 0 := by
      unfold tv tvl
      rw [List.getD_eq_getElem?_getD, List.getElem?_eq_none (by show 10 ≤ k; omega)]
      rfl
    omega
/-- cards are moved: how many there are stays -/
theorem lenS_ul (L : LLT) {p w : Nat} (x : List Int) (hp : p < 4) (hw : w < 4) : lenS (ul L p w x) = lenS L + ((x.length : Int) - ((L p w).length : Int)) := by
  have e : (fun q => (((ul L p w x) (q / 4) (q % 4)).length : Int)) = uf (fun q => ((L (q / 4) (q % 4)).length : Int)) (4 * p + w) (x.length : Int) := by
    funext q
    by_cases h : q = 4 * p + w
    · subst h
      rw [uf_s, show (4 * p + w) / 4 = p by omega, show (4 * p + w) % 4 = w by omega, ul_s]
    · rw [uf_n _ _ h]
      unfold ul
      rw [if_neg (by omega)]
  unfold lenS
  rw [e, sumN_uf, if_pos (by omega), show (4 * p + w) / 4 = p by omega, show (4 * p + w) % 4 = w by omega]
theorem lenS_mvL (L : LLT) {p w k w' : Nat} (hp : p < 4) (hw : w < 4) (hw' : w' < 4) (hne : w ≠ w') (hk : k < (L p w).length) : lenS (mvL L p w k w') = lenS L := by
  unfold mvL
  rw [lenS_ul _ _ hp hw', lenS_ul _ _ hp hw, ul_w _ _ (Ne.symm hne), len_erase hk, List.length_append, List.length_singleton]
  omega
theorem lenS_flip (L : LLT) {p : Nat} (hp : p < 4) : lenS (flipL L p) = lenS L := by
  by_cases h : L p 0 = []
  · have e : flipL L p = ul (ul L p 0 (L p 3)) p 3 [] := if_pos h
    rw [e, lenS_ul _ _ hp (by omega), lenS_ul _ _ hp (by omega), ul_w _ _ (by decide), h]
    simp only [List.length_nil]
    omega
  · rw [flip_ne h]
theorem lenS_dr1 (L : LLT) {p : Nat} (hp : p < 4) : lenS (dr1 L p) = lenS L := by
  unfold dr1
  split
  · exact lenS_flip L hp
  · rename_i h
    rw [lenS_mvL _ hp (by omega) (by omega) (by decide) (List.length_pos_iff.mpr h)]
    exact lenS_flip L hp
theorem lenS_dr {p : Nat} (hp : p < 4) : ∀ (n : Nat) (L : LLT), lenS (dr n L p) = lenS L
  | 0, _ => rfl
  | n + 1, L => by
    show lenS (dr n (dr1 L p) p) = lenS L
    rw [lenS_dr hp n, lenS_dr1 L hp]
set_option maxHeartbeats 4000000 in
set_option maxRecDepth 100000 in
theorem c_X0_playCard (l : Launch) (place : Int) (g : GS) (S : StT) (hx0 : RX g S) (hv0 : VS S) (hkb : -2147483648 ≤ place ∧ place ≤ 2147483647) : gmMi l yX0_playCard (wU yX0_playCard cX0_playCard 5 (some .int)) ({ frames := 3, cells := 0, slots := 0, locals := 111 } : Room) [.int (iN place)] g (fun z g1 => z = (playO S place).1 ∧ RX g1 (playO S place).2) := by
  refine gmMi_of (by decide) (Nat.le_of_ble_eq_true rfl) ?_
  intro p e s m args below meth c D cI tb ad A ls cx hr hlocks hK hA hT hw hl
  have hx := cx.1
  have hb := cx.2.1
  have hl : lv_has ls 5 [(0, .ref (ad 0)), (1, .int (iN place))] := hl
  obtain ⟨h0, h1, h2, h3, h4, h5, h6, h9, h7, h8, hp, hs⟩ := id hx0.1
  have hpl := VS_pl hv0
  have hnx := VS_NX hx0 hv0
  have hnn := NX_13 hx0.1 hnx
  have hm := PX_M hx0.2
  have hm2 := PX_K hx0.2 (VS_kinds hv0)
  obtain ⟨hh, hp5, hlen, hcd⟩ := VS_hidx hx0 hv0
  have hn4 := hnx.2.2.2.2.1
  have hn8 := hnx.2.2.2.2.2.2.2.2.1
  refine lv_aload_n hx hb dX0_playCard_0 rfl (lv_at hl 0 rfl) ?_
  refine lv_aload_n hx hb dX0_playCard_1 rfl (lv_at hl 0 rfl) ?_
  refine gm_get5 cx hK hw tl_RX0_34 dX0_playCard_2 (fun z2 hz2 => ?_)
  refine ts_iconst hx hb dX0_playCard_5 ?_
  refine lv_iload_n hx hb dX0_playCard_6 rfl (lv_at hl 1 rfl) ?_
  refine gm_callr (rest := []) cx hK hT hA hw hl (c_X0_cardOf l (pl S) 2 place g (by omega) (by omega) hkb hm hm2) tg_RX0_85 ⟨rfl, rfl⟩ 3 rfl (by decide +kernel) ⟨Nat.le_of_ble_eq_true rfl, Nat.le_of_ble_eq_true rfl⟩ ⟨Nat.zero_le _, Nat.zero_le _⟩ (Nat.le_of_ble_eq_true rfl) dX0_playCard_7 (by rw [show z2 = ((pl S : Nat) : Int) by omega]; rfl) (fun z7 hz7 => ?_)
  have hcz : (0 ≤ place ∧ place < (hand S).length ∧ z7 = (hand S).getD place.toNat 0 ∧ 0 ≤ z7 ∧ z7 ≤ 9) ∨ (¬ (0 ≤ place ∧ place < (hand S).length) ∧ z7 = -1) := by
    rcases hz7 with q | q
    · have e1 := hcd place.toNat (by omega)
      have e2 := VS_hand hv0 (k := place.toNat) (by omega)
      exact Or.inl ⟨by omega, by omega, by omega, by omega, by omega⟩
    · exact Or.inr ⟨by omega, by omega⟩
  refine lv_istore_n (lv' := [(2, .int (iN z7)), (0, .ref (ad 0)), (1, .int (iN place))]) hx hb dX0_playCard_10 rfl hl (by decide) rfl (fun ls hl => ?_)
  refine lv_iload_n hx hb dX0_playCard_11 rfl (lv_at hl 0 rfl) ?_
  refine ts_if_ge (tgt := 18) hx hb (by omega) dX0_playCard_12 (by decide) (fun c12 => ?_) (fun c12 => ?_)
  · skip
    have cut74 : ∀ (ga : GS) (hok : ¬ (S.1 8 = 1 ∨ (3 ≤ z7 ∧ z7 ≤ 5) ∨ (6 ≤ z7 ∧ S.1 4 ≤ 0))) (ha8 : ∀ j : Nat, ga 4 j = if j = 8 then g 4 8 - (if 6 ≤ z7.toNat then 1 else 0) else g 4 j) (har : ga 0 = g 0 ∧ ga 1 = g 1 ∧ ga 2 = g 2 ∧ ga 3 = g 3) (H : Heap) (locs : List Loc) (hw : gmB D A s cI ad ga H locs) (ls : Array Slot) (hl : lv_has ls 5 [(0, .ref (ad 0)), (1, .int (iN place)), (2, .int (iN z7))]), W p l e ({ frames := 3, cells := 0, slots := 0, locals := 111 } : Room) s m args below meth c H locs 0 0 (gmQi D cI ad A below args s (fun z g1 => z = (playO S place).1 ∧ RX g1 (playO S place).2)) (F0 m 74 ls []) := by
      intro ga hok ha8 har H locs hw ls hl
      have hcr : 0 ≤ place ∧ place < (hand S).length ∧ z7 = (hand S).getD place.toNat 0 ∧ 0 ≤ z7 ∧ z7 ≤ 9 := by omega
      have hO : playO S place = ((hand S).getD place.toNat 0, playA S place.toNat) := by
        unfold playO
        rw [if_neg (fun h => h ⟨hcr.1, hcr.2.1⟩), if_neg (by rw [← hcr.2.2.1]; exact hok)]
      have ha1 := har.2.1
      have qa5 : ga 4 5 = g 4 5 := ha8 5
      refine lv_aload_n hx hb dX0_playCard_74 rfl (lv_at hl 0 rfl) ?_
      refine lv_aload_n hx hb dX0_playCard_75 rfl (lv_at hl 0 rfl) ?_
      refine gm_get5 cx hK hw tl_RX0_34 dX0_playCard_76 (fun z76 hz76 => ?_)
      rw [qa5] at hz76
      refine ts_iconst hx hb dX0_playCard_79 ?_
      refine ts_imul hx hb dX0_playCard_80 (fun z80 hz80 => ?_)
      refine ts_iconst hx hb dX0_playCard_81 ?_
      refine ts_iadd hx hb dX0_playCard_82 (fun z82 hz82 => ?_)
      refine lv_iload_n hx hb dX0_playCard_83 rfl (lv_at hl 1 rfl) ?_
      refine lv_aload_n hx hb dX0_playCard_84 rfl (lv_at hl 0 rfl) ?_
      refine gm_get5 cx hK hw tl_RX0_34 dX0_playCard_85 (fun z85 hz85 => ?_)
      rw [qa5] at hz85
      refine ts_iconst hx hb dX0_playCard_88 ?_
      refine ts_imul hx hb dX0_playCard_89 (fun z89 hz89 => ?_)
      refine ts_iconst hx hb dX0_playCard_90 ?_
      refine ts_iadd hx hb dX0_playCard_91 (fun z91 hz91 => ?_)
      refine gm_callv (rest := []) cx hK hT hA hw hl (c_X0_moveToEnd l (4 * pl S + 2) place.toNat (4 * pl S + 3) ga (by omega) (by rw [MX, ha1]; exact hm) (by rw [ha1]; omega)) tg_RX0_90 ⟨rfl, rfl⟩ 3 rfl (by decide +kernel) ⟨Nat.le_of_ble_eq_true rfl, Nat.le_of_ble_eq_true rfl⟩ ⟨Nat.zero_le _, Nat.zero_le _⟩ (Nat.le_of_ble_eq_true rfl) dX0_playCard_92 (by rw [show z82 = ((4 * pl S + 2 : Nat) : Int) by omega, show z91 = ((4 * pl S + 3 : Nat) : Int) by omega, show place = ((place.toNat : Nat) : Int) by omega]; rfl) (fun g92 H locs hq92 hw => ?_)
      have hxa : PX ga (lx S.2) := PX_row hx0.2 har.1 har.2.1
      have hx92 : PX g92 (lx (mvL S.2 (pl S) 1 place.toNat 2)) := by
        rw [show mvL S.2 (pl S) 1 place.toNat 2 = mvL S.2 (pl S) (wx 2) place.toNat (wx 3) from rfl, lx_mvL _ (pl S) 2 place.toNat 3 (by omega) (by omega) (by omega)]
        exact PX_move hxa (by omega) (by rw [← hh]; omega) hq92.1 hq92.2.1
      have r92 : ∀ j : Nat, g92 4 j = if j = 8 then g 4 8 - (if 6 ≤ z7.toNat then 1 else 0) else g 4 j := fun j => by rw [hq92.2.2.2.2]; exact ha8 j
      refine lv_aload_n hx hb dX0_playCard_95 rfl (lv_at hl 0 rfl) ?_
      refine lv_dup hx hb dX0_playCard_96 rfl ?_
      refine gm_get6 cx hK hw tl_RX0_37 dX0_playCard_97 (fun z97 hz97 => ?_)
      refine tt_gst cx hT hw.2.2 1 (by decide) rfl dX0_playCard_100 ?_
      refine lv_iload_n hx hb dX0_playCard_103 rfl (lv_at hl 2 rfl) ?_
      refine tt_ld hx hb hT hw.2.2 1 (by decide) (z7.toNat) (by omega) dX0_playCard_104 (fun z104 hz104 => ?_)
      have hb104 := tv_b 1 (z7.toNat)
      refine ts_iadd hx hb dX0_playCard_105 (fun z105 hz105 => ?_)
      refine gm_put6 cx hK hw tl_RX0_37 dX0_playCard_106 (fun g106 H locs hg106 hw => ?_)
      have hx106 : PX g106 (lx (mvL S.2 (pl S) 1 place.toNat 2)) := PX_row hx92 (by rw [hg106, u2_row _ (by decide)]) (by rw [hg106, u2_row _ (by decide)])
      have r106 : ∀ j : Nat, g106 4 j = if j = 6 then z105 else if j = 8 then g 4 8 - (if 6 ≤ z7.toNat then 1 else 0) else g 4 j := fun j => by rw [hg106, u2_4, r92 j]
      have q1065 : g106 4 5 = g 4 5 := r106 5
      have ht2 := tv2_k z7.toNat
      refine lv_aload_n hx hb dX0_playCard_109 rfl (lv_at hl 0 rfl) ?_
      refine lv_aload_n hx hb dX0_playCard_110 rfl (lv_at hl 0 rfl) ?_
      refine gm_get5 cx hK hw tl_RX0_34 dX0_playCard_111 (fun z111 hz111 => ?_)
      rw [q1065] at hz111
      refine tt_gst cx hT hw.2.2 2 (by decide) rfl dX0_playCard_114 ?_
      refine lv_iload_n hx hb dX0_playCard_117 rfl (lv_at hl 2 rfl) ?_
      refine tt_ld hx hb hT hw.2.2 2 (by decide) (z7.toNat) (by omega) dX0_playCard_118 (fun z118 hz118 => ?_)
      have hb118 := tv_b 2 (z7.toNat)
      refine gm_callv (rest := []) cx hK hT hA hw hl (c_X0_drawCards l (pl S) z118.toNat g106 (mvL S.2 (pl S) 1 place.toNat 2) (by omega) (by omega) hx106) tg_RX0_75 ⟨rfl, rfl⟩ 2 rfl (by decide +kernel) ⟨Nat.le_of_ble_eq_true rfl, Nat.le_of_ble_eq_true rfl⟩ ⟨Nat.zero_le _, Nat.zero_le _⟩ (Nat.le_of_ble_eq_true rfl) dX0_playCard_119 (by rw [show z111 = ((pl S : Nat) : Int) by omega, show z118 = ((z118.toNat : Nat) : Int) by omega]; rfl) (fun g119 H locs hq119 hw => ?_)
      have r119 : ∀ j : Nat, g119 4 j = if j = 6 then z105 else if j = 8 then g 4 8 - (if 6 ≤ z7.toNat then 1 else 0) else g 4 j := fun j => by rw [hq119.2.2.2]; exact r106 j
      refine lv_aload_n hx hb dX0_playCard_122 rfl (lv_at hl 0 rfl) ?_
      refine lv_dup hx hb dX0_playCard_123 rfl ?_
      refine gm_get7 cx hK hw tl_RX0_40 dX0_playCard_124 (fun z124 hz124 => ?_)
      refine tt_gst cx hT hw.2.2 3 (by decide) rfl dX0_playCard_127 ?_
      refine lv_iload_n hx hb dX0_playCard_130 rfl (lv_at hl 2 rfl) ?_
      refine tt_ld hx hb hT hw.2.2 3 (by decide) (z7.toNat) (by omega) dX0_playCard_131 (fun z131 hz131 => ?_)
      have hb131 := tv_b 3 (z7.toNat)
      refine ts_iadd hx hb dX0_playCard_132 (fun z132 hz132 => ?_)
      refine gm_put7 cx hK hw tl_RX0_40 dX0_playCard_133 (fun g133 H locs hg133 hw => ?_)
      have r133 : ∀ j : Nat, g133 4 j = if j = 7 then z132 else if j = 6 then z105 else if j = 8 then g 4 8 - (if 6 ≤ z7.toNat then 1 else 0) else g 4 j := fun j => by rw [hg133, u2_4, r119 j]
      refine lv_aload_n hx hb dX0_playCard_136 rfl (lv_at hl 0 rfl) ?_
      refine lv_dup hx hb dX0_playCard_137 rfl ?_
      refine gm_get8 cx hK hw tl_RX0_43 dX0_playCard_138 (fun z138 hz138 => ?_)
      refine tt_gst cx hT hw.2.2 4 (by decide) rfl dX0_playCard_141 ?_
      refine lv_iload_n hx hb dX0_playCard_144 rfl (lv_at hl 2 rfl) ?_
      refine tt_ld hx hb hT hw.2.2 4 (by decide) (z7.toNat) (by omega) dX0_playCard_145 (fun z145 hz145 => ?_)
      have hb145 := tv_b 4 (z7.toNat)
      refine ts_iadd hx hb dX0_playCard_146 (fun z146 hz146 => ?_)
      refine gm_put8 cx hK hw tl_RX0_43 dX0_playCard_147 (fun g147 H locs hg147 hw => ?_)
      have r147 : ∀ j : Nat, g147 4 j = if j = 8 then z146 else if j = 7 then z132 else if j = 6 then z105 else if j = 8 then g 4 8 - (if 6 ≤ z7.toNat then 1 else 0) else g 4 j := fun j => by rw [hg147, u2_4, r133 j]
      have q1474 : g147 4 4 = g 4 4 := r147 4
      have q1475 : g147 4 5 = g 4 5 := r147 5
      obtain ⟨Ld, hLd⟩ : ∃ Ld, Ld = dr (tv 2 z7.toNat).toNat (mvL S.2 (pl S) 1 place.toNat 2) (pl S) := ⟨_, rfl⟩
      rw [hz118, ← hLd] at hq119
      have hx147 : PX g147 (lx Ld) := PX_row hq119.1 (by rw [hg147, u2_row _ (by decide), hg133, u2_row _ (by decide)]) (by rw [hg147, u2_row _ (by decide), hg133, u2_row _ (by decide)])
      have e147 : ∀ j : Nat, g147 2 j = g 2 j := fun j => by rw [hg147, u2_row _ (by decide), hg133, u2_row _ (by decide), hq119.2.1, hg106, u2_row _ (by decide), hq92.2.2.1, har.2.2.1]
      have f147 : ∀ j : Nat, g147 3 j = g 3 j := fun j => by rw [hg147, u2_row _ (by decide), hg133, u2_row _ (by decide), hq119.2.2.1, hg106, u2_row _ (by decide), hq92.2.2.2.1, har.2.2.2]
      have hld : lenS Ld = lenS S.2 := by rw [hLd, lenS_dr hpl.1, lenS_mvL _ hpl.1 (by omega) (by omega) (by decide) (by show place.toNat < (hand S).length; omega)]
      have hvp5 := VS_pile hv0 5 (by omega)
      have hpp5 : g 2 5 = S.1 15 := hp 5 (by omega)
      have ht5 := tv5_k z7.toNat (by omega)
      have hc5 : S.1 (10 + 5) = S.1 15 := rfl
      have q97 : g92 4 6 = g 4 6 := r92 6
      have q124 : g119 4 7 = g 4 7 := r119 7
      have q138 : g133 4 8 = g 4 8 - (if 6 ≤ z7.toNat then 1 else 0) := r133 8
      have q175 : g147 4 9 = g 4 9 := r147 9
      refine ts_iconst hx hb dX0_playCard_150 ?_
      refine lv_istore (lv' := [(4, .int (iN 0)), (0, .ref (ad 0)), (1, .int (iN place)), (2, .int (iN z7))]) hx hb dX0_playCard_151 hl (by decide) rfl (fun ls hl => ?_)
      refine lv_iload hx hb dX0_playCard_153 (lv_at hl 0 rfl) ?_
      refine tt_gst cx hT hw.2.2 5 (by decide) rfl dX0_playCard_155 ?_
      refine lv_iload_n hx hb dX0_playCard_158 rfl (lv_at hl 3 rfl) ?_
      refine tt_ld hx hb hT hw.2.2 5 (by decide) (z7.toNat) (by omega) dX0_playCard_159 (fun z159 hz159 => ?_)
      have hb159 := tv_b 5 (z7.toNat)
      refine ts_icmp_ge (tgt := 173) hx hb (by omega) dX0_playCard_160 (by decide) (fun c160 => ?_) (fun c160 => ?_)
      · skip
        obtain ⟨C, hC⟩ : ∃ C, C = ((S.1 15, Ld) : Int × LLT) := ⟨_, rfl⟩
        have hPC : plC S place.toNat z7.toNat = C := by
          rw [hC]
          unfold plC
          rw [if_neg (by split at ht5 <;> omega), hLd]
        have r173 := r147
        have x173 : PX g147 (lx C.2) := by rw [hC]; exact hx147
        have e173 : ∀ j : Nat, g147 2 j = if j = 5 then C.1 else g 2 j := fun j => by
          rw [e147 j, hC]
          by_cases hj : j = 5
          · rw [if_pos hj, hj]; exact hpp5
          · rw [if_neg hj]
        have f173 := f147
        have q173 : g147 4 9 = g 4 9 := r173 9
        refine lv_aload_n hx hb dX0_playCard_173 rfl (lv_at hl 1 rfl) ?_
        refine lv_dup hx hb dX0_playCard_174 rfl ?_
        refine gm_get9 cx hK hw tl_RX0_46 dX0_playCard_175 (fun z175 hz175 => ?_)
        refine tt_gst cx hT hw.2.2 6 (by decide) rfl dX0_playCard_178 ?_
        refine lv_iload_n hx hb dX0_playCard_181 rfl (lv_at hl 3 rfl) ?_
        refine tt_ld hx hb hT hw.2.2 6 (by decide) (z7.toNat) (by omega) dX0_playCard_182 (fun z182 hz182 => ?_)
        have hb182 := tv_b 6 (z7.toNat)
        refine ts_iadd hx hb dX0_playCard_183 (fun z183 hz183 => ?_)
        refine gm_put9 cx hK hw tl_RX0_46 dX0_playCard_184 (fun g184 H locs hg184 hw => ?_)
        have r184 : ∀ j : Nat, g184 4 j = if j = 9 then z183 else if j = 8 then z146 else if j = 7 then z132 else if j = 6 then z105 else if j = 8 then g 4 8 - (if 6 ≤ z7.toNat then 1 else 0) else g 4 j := fun j => by rw [hg184, u2_4, r173 j]
        have hkz : (hand S).getD place.toNat 0 = z7 := hcr.2.2.1.symm
        have k6 : z105 = S.1 2 + tv 1 z7.toNat := by omega
        have k7 : z132 = S.1 3 + tv 3 z7.toNat := by omega
        have k8 : z146 = S.1 4 - (if 6 ≤ z7.toNat then 1 else 0) + tv 4 z7.toNat := by omega
        have k9 : z183 = S.1 5 + tv 6 z7.toNat := by omega
        have hR : RS g184 (plS S.1 z7.toNat C.1) := ⟨(r184 4).trans (h0), (r184 5).trans (h1), (r184 6).trans (k6), (r184 7).trans (k7), (r184 8).trans (k8), (r184 9).trans (k9), (r184 10).trans (h6), (r184 11).trans (h9), (r184 12).trans (h7), (r184 13).trans (h8), fun j hj => by
          rw [plS_hi _ _ _ (by omega), hg184, u2_row _ (by decide), e173 j]
          by_cases hj5 : j = 5
          · rw [if_pos hj5, if_pos (by omega)]
          · rw [if_neg hj5, if_neg (by omega)]; exact hp j hj, fun j hj => by rw [plS_hi _ _ _ (by omega), if_neg (by omega), hg184, u2_row _ (by decide), f173 j]; exact hs j hj⟩
        have hA : playA S place.toNat = (plS S.1 z7.toNat C.1, C.2) := by
          unfold playA
          rw [hkz, hPC]
        have x184 : PX g184 (lx C.2) := PX_row x173 (by rw [hg184, u2_row _ (by decide)]) (by rw [hg184, u2_row _ (by decide)])
        refine lv_iload_n hx hb dX0_playCard_187 rfl (lv_at hl 3 rfl) ?_
        exact gm_ret cx hr hlocks hw (by rw [hO]; exact ⟨by show z7 = (hand S).getD place.toNat 0; exact hkz.symm, by show RX g184 (playA S place.toNat); rw [hA]; exact ⟨hR, x184⟩⟩) dX0_playCard_188
      · skip
        refine lv_aload_n hx hb dX0_playCard_163 rfl (lv_at hl 1 rfl) ?_
        refine gm_callv (rest := []) cx hK hT hA hw hl (c_X0_giveCurses l g147 Ld hx147 (by rw [q1474]; omega) (by rw [q1474, q1475]; omega) (by rw [e147 5]; omega) (by rw [PX_tot hx147, e147 5, hld]; omega)) tg_RX0_109 ⟨rfl, rfl⟩ 0 rfl (by decide +kernel) ⟨Nat.le_of_ble_eq_true rfl, Nat.le_of_ble_eq_true rfl⟩ ⟨Nat.zero_le _, Nat.zero_le _⟩ (Nat.le_of_ble_eq_true rfl) dX0_playCard_164 (rfl) (fun g164 H locs hq164 hw => ?_)
        obtain ⟨z167, hz167⟩ : ∃ z : Int, z = 0 + 1 := ⟨_, rfl⟩
        refine lv_iinc (v := iN z167) (lv' := [(4, .int (iN z167)), (0, .ref (ad 0)), (1, .int (iN place)), (2, .int (iN z7))]) hx hb dX0_playCard_167 hl (k := 0) rfl (by rw [hz167]; exact iN_add _ _) (by decide) rfl (fun ls hl => ?_)
        refine lv_goto (tgt := 153) hx hb dX0_playCard_170 (by decide) ?_
        refine lv_iload hx hb dX0_playCard_153 (lv_at hl 0 rfl) ?_
        refine tt_gst cx hT hw.2.2 5 (by decide) rfl dX0_playCard_155 ?_
        refine lv_iload_n hx hb dX0_playCard_158 rfl (lv_at hl 3 rfl) ?_
        refine tt_ld hx hb hT hw.2.2 5 (by decide) (z7.toNat) (by omega) dX0_playCard_159 (fun z159 hz159 => ?_)
        have hb159 := tv_b 5 (z7.toNat)
        refine ts_icmp_ge (tgt := 173) hx hb (by omega) dX0_playCard_160 (by decide) (fun c160 => ?_) (fun c160 => ?_)
        · skip
          obtain ⟨C, hC⟩ : ∃ C, C = cuN (S.1 1) (S.1 0) (S.1 0 - 1).toNat (S.1 15, Ld) := ⟨_, rfl⟩
          rw [q1474, q1475, e147 5, hpp5, h0, h1, ← hC] at hq164
          have hPC : plC S place.toNat z7.toNat = C := by
            rw [hC]
            unfold plC
            rw [if_pos (by split at ht5 <;> omega), hLd]
          have r173 : ∀ j : Nat, g164 4 j = if j = 8 then z146 else if j = 7 then z132 else if j = 6 then z105 else if j = 8 then g 4 8 - (if 6 ≤ z7.toNat then 1 else 0) else g 4 j := fun j => by rw [hq164.2.2.2]; exact r147 j
          have x173 : PX g164 (lx C.2) := hq164.1
          have e173 : ∀ j : Nat, g164 2 j = if j = 5 then C.1 else g 2 j := fun j => by rw [hq164.2.1 j, e147 j]
          have f173 : ∀ j : Nat, g164 3 j = g 3 j := fun j => by rw [hq164.2.2.1]; exact f147 j
          have q173 : g164 4 9 = g 4 9 := r173 9
          refine lv_aload_n hx hb dX0_playCard_173 rfl (lv_at hl 1 rfl) ?_
          refine lv_dup hx hb dX0_playCard_174 rfl ?_
          refine gm_get9 cx hK hw tl_RX0_46 dX0_playCard_175 (fun z175 hz175 => ?_)
          refine tt_gst cx hT hw.2.2 6 (by decide) rfl dX0_playCard_178 ?_
          refine lv_iload_n hx hb dX0_playCard_181 rfl (lv_at hl 3 rfl) ?_
          refine tt_ld hx hb hT hw.2.2 6 (by decide) (z7.toNat) (by omega) dX0_playCard_182 (fun z182 hz182 => ?_)
          have hb182 := tv_b 6 (z7.toNat)
          refine ts_iadd hx hb dX0_playCard_183 (fun z183 hz183 => ?_)
          refine gm_put9 cx hK hw tl_RX0_46 dX0_playCard_184 (fun g184 H locs hg184 hw => ?_)
          have r184 : ∀ j : Nat, g184 4 j = if j = 9 then z183 else if j = 8 then z146 else if j = 7 then z132 else if j = 6 then z105 else if j = 8 then g 4 8 - (if 6 ≤ z7.toNat then 1 else 0) else g 4 j := fun j => by rw [hg184, u2_4, r173 j]
          have hkz : (hand S).getD place.toNat 0 = z7 := hcr.2.2.1.symm
          have k6 : z105 = S.1 2 + tv 1 z7.toNat := by omega
          have k7 : z132 = S.1 3 + tv 3 z7.toNat := by omega
          have k8 : z146 = S.1 4 - (if 6 ≤ z7.toNat then 1 else 0) + tv 4 z7.toNat := by omega
          have k9 : z183 = S.1 5 + tv 6 z7.toNat := by omega
          have hR : RS g184 (plS S.1 z7.toNat C.1) := ⟨(r184 4).trans (h0), (r184 5).trans (h1), (r184 6).trans (k6), (r184 7).trans (k7), (r184 8).trans (k8), (r184 9).trans (k9), (r184 10).trans (h6), (r184 11).trans (h9), (r184 12).trans (h7), (r184 13).trans (h8), fun j hj => by
            rw [plS_hi _ _ _ (by omega), hg184, u2_row _ (by decide), e173 j]
            by_cases hj5 : j = 5
            · rw [if_pos hj5, if_pos (by omega)]
            · rw [if_neg hj5, if_neg (by omega)]; exact hp j hj, fun j hj => by rw [plS_hi _ _ _ (by omega), if_neg (by omega), hg184, u2_row _ (by decide), f173 j]; exact hs j hj⟩
          have hA : playA S place.toNat = (plS S.1 z7.toNat C.1, C.2) := by
            unfold playA
            rw [hkz, hPC]
          have x184 : PX g184 (lx C.2) := PX_row x173 (by rw [hg184, u2_row _ (by decide)]) (by rw [hg184, u2_row _ (by decide)])
          refine lv_iload_n hx hb dX0_playCard_187 rfl (lv_at hl 3 rfl) ?_
          exact gm_ret cx hr hlocks hw (by rw [hO]; exact ⟨by show z7 = (hand S).getD place.toNat 0; exact hkz.symm, by show RX g184 (playA S place.toNat); rw [hA]; exact ⟨hR, x184⟩⟩) dX0_playCard_188
        · exfalso
          have hk6 : z7.toNat = 6 := by omega
          rw [hz167] at *
          omega
    refine lv_iload_n hx hb dX0_playCard_18 rfl (lv_at hl 0 rfl) ?_
    refine ts_bipush hx hb dX0_playCard_19 (by decide) ?_
    refine ts_icmp_lt (tgt := 28) hx hb (by omega) dX0_playCard_21 (by decide) (fun c21 => ?_) (fun c21 => ?_)
    · skip
      refine ts_iconst hx hb dX0_playCard_28 ?_
      refine lv_istore_n (lv' := [(3, .int (iN 0)), (2, .int (iN z7)), (0, .ref (ad 0)), (1, .int (iN place))]) hx hb dX0_playCard_29 rfl hl (by decide) rfl (fun ls hl => ?_)
      refine lv_aload_n hx hb dX0_playCard_30 rfl (lv_at hl 2 rfl) ?_
      refine gm_get13 cx hK hw tl_RX0_58 dX0_playCard_31 (fun z31 hz31 => ?_)
      refine ts_if_ne (tgt := 57) hx hb (by omega) dX0_playCard_34 (by decide) (fun c34 => ?_) (fun c34 => ?_)
      · skip
        refine ts_ldc (z := -1000002) hx hb cx.2.2.2.1 cx.2.2.2.2 tk_RX0_89 dX0_playCard_57 ?_
        exact gm_ret cx hr hlocks hw (by unfold playO; rw [if_neg (fun h => h (by omega)), if_pos (by omega)]; exact ⟨rfl, hx0⟩) dX0_playCard_59
      · skip
        refine lv_iload_n hx hb dX0_playCard_37 rfl (lv_at hl 0 rfl) ?_
        refine ts_if_ne (tgt := 46) hx hb (by omega) dX0_playCard_38 (by decide) (fun c38 => ?_) (fun c38 => ?_)
        · exfalso
          omega
        · skip
          refine lv_iload_n hx hb dX0_playCard_41 rfl (lv_at hl 1 rfl) ?_
          refine ts_iconst hx hb dX0_playCard_42 ?_
          refine ts_icmp_gt (tgt := 57) hx hb (by omega) dX0_playCard_43 (by decide) (fun c43 => ?_) (fun c43 => ?_)
          · skip
            refine ts_ldc (z := -1000002) hx hb cx.2.2.2.1 cx.2.2.2.2 tk_RX0_89 dX0_playCard_57 ?_
            exact gm_ret cx hr hlocks hw (by unfold playO; rw [if_neg (fun h => h (by omega)), if_pos (by omega)]; exact ⟨rfl, hx0⟩) dX0_playCard_59
          · skip
            refine lv_iload_n hx hb dX0_playCard_46 rfl (lv_at hl 0 rfl) ?_
            refine ts_if_eq (tgt := 60) hx hb (by omega) dX0_playCard_47 (by decide) (fun c47 => ?_) (fun c47 => ?_)
            · skip
              refine lv_iload_n hx hb dX0_playCard_60 rfl (lv_at hl 0 rfl) ?_
              refine ts_if_eq (tgt := 74) hx hb (by omega) dX0_playCard_61 (by decide) (fun c61 => ?_) (fun c61 => ?_)
              · skip
                have hga8 : ∀ j : Nat, g 4 j = if j = 8 then g 4 8 - (if 6 ≤ z7.toNat then 1 else 0) else g 4 j := fun j => by
                  rw [if_neg (show ¬ 6 ≤ z7.toNat by omega)]
                  by_cases hj : j = 8
                  · rw [if_pos hj, hj]; omega
                  · rw [if_neg hj]
                have hgar : g 0 = g 0 ∧ g 1 = g 1 ∧ g 2 = g 2 ∧ g 3 = g 3 := ⟨rfl, rfl, rfl, rfl⟩
                exact cut74 (g) (by omega) (hga8) (hgar) _ _ hw _ (lv_sub hl [2, 3, 1] rfl)
              · exfalso
                omega
            · exfalso
              omega
    · skip
      refine ts_iconst hx hb dX0_playCard_24 ?_
      refine lv_goto (tgt := 29) hx hb dX0_playCard_25 (by decide) ?_
      refine lv_istore_n (lv' := [(3, .int (iN 1)), (2, .int (iN z7)), (0, .ref (ad 0)), (1, .int (iN place))]) hx hb dX0_playCard_29 rfl hl (by decide) rfl (fun ls hl => ?_)
      refine lv_aload_n hx hb dX0_playCard_30 rfl (lv_at hl 2 rfl) ?_
      refine gm_get13 cx hK hw tl_RX0_58 dX0_playCard_31 (fun z31 hz31 => ?_)
      refine ts_if_ne (tgt := 57) hx hb (by omega) dX0_playCard_34 (by decide) (fun c34 => ?_) (fun c34 => ?_)
      · skip
        refine ts_ldc (z := -1000002) hx hb cx.2.2.2.1 cx.2.2.2.2 tk_RX0_89 dX0_playCard_57 ?_
        exact gm_ret cx hr hlocks hw (by unfold playO; rw [if_neg (fun h => h (by omega)), if_pos (by omega)]; exact ⟨rfl, hx0⟩) dX0_playCard_59
      · skip
        refine lv_iload_n hx hb dX0_playCard_37 rfl (lv_at hl 0 rfl) ?_
        refine ts_if_ne (tgt := 46) hx hb (by omega) dX0_playCard_38 (by decide) (fun c38 => ?_) (fun c38 => ?_)
        · skip
          refine lv_iload_n hx hb dX0_playCard_46 rfl (lv_at hl 0 rfl) ?_
          refine ts_if_eq (tgt := 60) hx hb (by omega) dX0_playCard_47 (by decide) (fun c47 => ?_) (fun c47 => ?_)
          · exfalso
            omega
          · skip
            refine lv_aload_n hx hb dX0_playCard_50 rfl (lv_at hl 2 rfl) ?_
            refine gm_get8 cx hK hw tl_RX0_43 dX0_playCard_51 (fun z51 hz51 => ?_)
            refine ts_if_gt (tgt := 60) hx hb (by omega) dX0_playCard_54 (by decide) (fun c54 => ?_) (fun c54 => ?_)
            · skip
              refine lv_iload_n hx hb dX0_playCard_60 rfl (lv_at hl 0 rfl) ?_
              refine ts_if_eq (tgt := 74) hx hb (by omega) dX0_playCard_61 (by decide) (fun c61 => ?_) (fun c61 => ?_)
              · exfalso
                omega
              · skip
                refine lv_aload_n hx hb dX0_playCard_64 rfl (lv_at hl 2 rfl) ?_
                refine lv_dup hx hb dX0_playCard_65 rfl ?_
                refine gm_get8 cx hK hw tl_RX0_43 dX0_playCard_66 (fun z66 hz66 => ?_)
                refine ts_iconst hx hb dX0_playCard_69 ?_
                refine ts_isub hx hb dX0_playCard_70 (fun z70 hz70 => ?_)
                have hga8q : z70 = g 4 8 - (if 6 ≤ z7.toNat then 1 else 0) := by rw [if_pos (by omega)]; omega
                refine gm_put8 cx hK hw tl_RX0_43 dX0_playCard_71 (fun g71 H locs hg71 hw => ?_)
                have hga8 : ∀ j : Nat, g71 4 j = if j = 8 then g 4 8 - (if 6 ≤ z7.toNat then 1 else 0) else g 4 j := fun j => by rw [hg71, u2_4, hga8q]
                have hgar : g71 0 = g 0 ∧ g71 1 = g 1 ∧ g71 2 = g 2 ∧ g71 3 = g 3 := ⟨by rw [hg71, u2_row _ (by decide)], by rw [hg71, u2_row _ (by decide)], by rw [hg71, u2_row _ (by decide)], by rw [hg71, u2_row _ (by decide)]⟩
                exact cut74 (g71) (by omega) (hga8) (hgar) _ _ hw _ (lv_sub hl [2, 3, 1] rfl)
            · skip
              refine ts_ldc (z := -1000002) hx hb cx.2.2.2.1 cx.2.2.2.2 tk_RX0_89 dX0_playCard_57 ?_
              exact gm_ret cx hr hlocks hw (by unfold playO; rw [if_neg (fun h => h (by omega)), if_pos (by omega)]; exact ⟨rfl, hx0⟩) dX0_playCard_59
        · exfalso
          omega
  · skip
    
    refine ts_ldc (z := -1000001) hx hb cx.2.2.2.1 cx.2.2.2.2 tk_RX0_62 dX0_playCard_15 ?_
    exact gm_ret cx hr hlocks hw (by unfold playO; rw [if_pos (fun h => by omega)]; exact ⟨rfl, hx0⟩) dX0_playCard_17
