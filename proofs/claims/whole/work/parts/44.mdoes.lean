def nmz (x : Int) : Int := if (x = 112 ∨ x = 98 ∨ x = 120 ∨ x = 103) then 1 else 0
def dgz (x : Int) : Int := if (48 ≤ x ∧ x ≤ 57) then 1 else 0
theorem nmz_c (x : Int) : ((x = 112 ∨ x = 98 ∨ x = 120 ∨ x = 103) ∧ nmz x = 1) ∨ (¬ (x = 112 ∨ x = 98 ∨ x = 120 ∨ x = 103) ∧ nmz x = 0) := by
  unfold nmz
  by_cases h : (x = 112 ∨ x = 98 ∨ x = 120 ∨ x = 103)
  · rw [if_pos h]; exact Or.inl ⟨h, rfl⟩
  · rw [if_neg h]; exact Or.inr ⟨h, rfl⟩
theorem dgz_c (x : Int) : ((48 ≤ x ∧ x ≤ 57) ∧ dgz x = 1) ∨ (¬ (48 ≤ x ∧ x ≤ 57) ∧ dgz x = 0) := by
  unfold dgz
  by_cases h : (48 ≤ x ∧ x ≤ 57)
  · rw [if_pos h]; exact Or.inl ⟨h, rfl⟩
  · rw [if_neg h]; exact Or.inr ⟨h, rfl⟩
theorem wrA_z (n : Nat) (tx : Nat → Int) (a : Nat) : ((chF n tx a = 101 ∨ nmz (chF n tx a) = 1) ∧ wrA n tx a = 1 + (dgs n tx a : Int)) ∨ (chF n tx a ≠ 101 ∧ nmz (chF n tx a) = 0 ∧ wrA n tx a = 0) := by
  have hz := nmz_c (chF n tx a)
  unfold wrA
  by_cases h : chF n tx a = 101 ∨ (chF n tx a = 112 ∨ chF n tx a = 98 ∨ chF n tx a = 120 ∨ chF n tx a = 103)
  · rw [if_pos h]; exact Or.inl ⟨by omega, rfl⟩
  · rw [if_neg h]; exact Or.inr ⟨by omega, by omega, rfl⟩
theorem dgs_z (n : Nat) (tx : Nat → Int) (a : Nat) : (nmz (chF n tx a) = 1 ∧ dgz (chF n tx (a + 1)) = 1 ∧ dgz (chF n tx (a + 2)) = 1 ∧ dgs n tx a = 2 ∧ numF n tx a = 10 * (chF n tx (a + 1) - 48) + chF n tx (a + 2) - 48) ∨ (nmz (chF n tx a) = 1 ∧ dgz (chF n tx (a + 1)) = 1 ∧ dgz (chF n tx (a + 2)) = 0 ∧ dgs n tx a = 1 ∧ numF n tx a = chF n tx (a + 1) - 48) ∨ ((nmz (chF n tx a) = 0 ∨ dgz (chF n tx (a + 1)) = 0) ∧ dgs n tx a = 0 ∧ numF n tx a = 0) := by
  have hz := nmz_c (chF n tx a)
  have h1 := dgz_c (chF n tx (a + 1))
  have h2 := dgz_c (chF n tx (a + 2))
  rcases dgs_c n tx a with q | q | q
  · rcases hz with hz | hz
    · rcases h1 with h1 | h1
      · rcases h2 with h2 | h2
        · exact Or.inl ⟨hz.2, h1.2, h2.2, q.2.2.2⟩
        · exact absurd q.2.2.1 h2.1
      · exact absurd q.2.1 h1.1
    · exact absurd q.1 hz.1
  · rcases hz with hz | hz
    · rcases h1 with h1 | h1
      · rcases h2 with h2 | h2
        · exact absurd h2.1 q.2.2.1
        · exact Or.inr (Or.inl ⟨hz.2, h1.2, h2.2, q.2.2.2⟩)
      · exact absurd q.2.1 h1.1
    · exact absurd q.1 hz.1
  · refine Or.inr (Or.inr ⟨?_, q.2⟩)
    rcases hz with hz | hz
    · rcases h1 with h1 | h1
      · exact absurd ⟨hz.1, h1.1⟩ q.1
      · exact Or.inr h1.2
    · exact Or.inl hz.2
theorem okF_z {n : Nat} {tx : Nat → Int} {a : Nat} : okF n tx a = true ↔ ((chF n tx a = 101 ∨ (nmz (chF n tx a) = 1 ∧ dgs n tx a ≠ 0)) ∧ chF n tx (beh n tx a) = 59) := by
  have hz := nmz_c (chF n tx a)
  refine okF_t.trans ⟨fun h => ⟨?_, h.2⟩, fun h => ⟨?_, h.2⟩⟩
  · rcases h.1 with q | q
    · exact Or.inl q
    · rcases hz with hz | hz
      · exact Or.inr ⟨hz.2, q.2⟩
      · exact absurd q.1 hz.1
  · rcases h.1 with q | q
    · exact Or.inl q
    · rcases hz with hz | hz
      · exact Or.inr ⟨hz.1, q.2⟩
      · have := hz.2; omega

set_option maxHeartbeats 4000000 in
set_option maxRecDepth 100000 in
theorem c_X2_read (l : Launch) (g : GS) (n : Nat) (tx : Nat → Int) (a : Nat) (hx0 : TXM g n tx) (ha : g 4 6 = (a : Int) ∧ a ≤ n) : mmMv l yX2_read (wU yX2_read cX2_read 3 none) ({ frames := 2, cells := 0, slots := 0, locals := 45 } : Room) [] g (fun g1 => RG g1 g ∧ g1 4 8 = chF n tx a ∧ ((okF n tx a = true ∧ g1 4 7 = 0 ∧ g1 4 6 = (beh n tx a : Int) + 1 ∧ g1 4 9 = numF n tx a) ∨ (okF n tx a = false ∧ g1 4 7 = 1 ∧ g1 4 6 = (a : Int) + wrA n tx a))) := by
  refine mmMv_of (by decide) (Nat.le_of_ble_eq_true rfl) ?_
  intro p e s m args below meth c D cI tb ad A ls cx hr hlocks hK hA hw hl
  have hx := cx.1
  have hb := cx.2.1
  have hl : lv_has ls 3 [(0, .ref (ad 0))] := hl
  have hn5 := hx0.1
  have hn60 := hx0.2.1
  have hbeh : beh n tx a = a + 1 + dgs n tx a := rfl
  have hcb0 := chF_b hx0 a
  have hcb1 := chF_b hx0 (a + 1)
  have hcb2 := chF_b hx0 (a + 2)
  refine lv_aload_n hx hb dX2_read_0 rfl (lv_at hl 0 rfl) ?_
  refine mm_get6 cx hK hw tl_RX2_167 dX2_read_1 (fun z1 hz1 => ?_)
  have cut24 : ∀ (cc : Int) (hcc : cc = chF n tx a) (H : Heap) (locs : List Loc) (hw : mmB D A s cI ad g H locs) (ls : Array Slot) (hl : lv_has ls 3 [(0, .ref (ad 0))]), W p l e ({ frames := 2, cells := 0, slots := 0, locals := 45 } : Room) s m args below meth c H locs 0 0 (mmQv D cI ad A below args s (fun g1 => RG g1 g ∧ g1 4 8 = chF n tx a ∧ ((okF n tx a = true ∧ g1 4 7 = 0 ∧ g1 4 6 = (beh n tx a : Int) + 1 ∧ g1 4 9 = numF n tx a) ∨ (okF n tx a = false ∧ g1 4 7 = 1 ∧ g1 4 6 = (a : Int) + wrA n tx a)))) (F0 m 24 ls [.int (iN cc)]) := by
    intro cc hcc H locs hw ls hl
    refine lv_istore_n (lv' := [(1, .int (iN cc)), (0, .ref (ad 0))]) hx hb dX2_read_24 rfl hl (by decide) rfl (fun ls hl => ?_)
    have cut61 : ∀ (ov : Int) (hov : (ov = 0 ∧ chF n tx a = 101 ∧ nmz (chF n tx a) = 0) ∨ (ov = 0 ∧ chF n tx a ≠ 101 ∧ nmz (chF n tx a) = 1) ∨ (ov = 1 ∧ chF n tx a ≠ 101 ∧ nmz (chF n tx a) = 0)) (H : Heap) (locs : List Loc) (hw : mmB D A s cI ad g H locs) (ls : Array Slot) (hl : lv_has ls 3 [(0, .ref (ad 0)), (1, .int (iN cc))]), W p l e ({ frames := 2, cells := 0, slots := 0, locals := 45 } : Room) s m args below meth c H locs 0 0 (mmQv D cI ad A below args s (fun g1 => RG g1 g ∧ g1 4 8 = chF n tx a ∧ ((okF n tx a = true ∧ g1 4 7 = 0 ∧ g1 4 6 = (beh n tx a : Int) + 1 ∧ g1 4 9 = numF n tx a) ∨ (okF n tx a = false ∧ g1 4 7 = 1 ∧ g1 4 6 = (a : Int) + wrA n tx a)))) (F0 m 61 ls [.int (iN ov), .ref (ad 0)]) := by
      intro ov hov H locs hw ls hl
      refine mm_put7 cx hK hw (by first | omega | (rw [hov]; split <;> omega)) tl_RX2_170 dX2_read_61 (fun g61 H locs hg61 hw => ?_)
      have h616 : g61 4 6 = g 4 6 := by rw [hg61, u2_4, if_neg (by decide)]
      have h617 : g61 4 7 = ov := by rw [hg61, u2_4, if_pos rfl]
      refine lv_aload_n hx hb dX2_read_64 rfl (lv_at hl 0 rfl) ?_
      refine lv_dup hx hb dX2_read_65 rfl ?_
      refine mm_get6 cx hK hw tl_RX2_167 dX2_read_66 (fun z66 hz66 => ?_)
      rw [h616] at hz66
      refine lv_aload_n hx hb dX2_read_69 rfl (lv_at hl 0 rfl) ?_
      refine mm_get7 cx hK hw tl_RX2_170 dX2_read_70 (fun z70 hz70 => ?_)
      rw [h617] at hz70
      refine ts_if_eq (tgt := 80) hx hb (by omega) dX2_read_73 (by decide) (fun c73 => ?_) (fun c73 => ?_)
      · skip
        refine ts_iconst hx hb dX2_read_80 ?_
        refine ts_iadd hx hb dX2_read_81 (fun z81 hz81 => ?_)
        refine mm_put6 cx hK hw tl_RX2_167 dX2_read_82 (fun g82 H locs hg82 hw => ?_)
        refine lv_aload_n hx hb dX2_read_85 rfl (lv_at hl 0 rfl) ?_
        refine lv_iload_n hx hb dX2_read_86 rfl (lv_at hl 1 rfl) ?_
        refine mm_put8 cx hK hw tl_RX2_174 dX2_read_87 (fun g87 H locs hg87 hw => ?_)
        refine lv_aload_n hx hb dX2_read_90 rfl (lv_at hl 0 rfl) ?_
        refine ts_iconst hx hb dX2_read_91 ?_
        refine mm_put9 cx hK hw tl_RX2_177 dX2_read_92 (fun g92 H locs hg92 hw => ?_)
        have cut200 : ∀ (gd : GS) (q : Nat) (hR : RG gd g) (h8 : gd 4 8 = cc) (hq : gd 4 6 = (q : Int) ∧ q ≤ 200) (hcs : (gd 4 7 = 0 ∧ (chF n tx a = 101 ∨ (nmz (chF n tx a) = 1 ∧ dgs n tx a ≠ 0)) ∧ q = beh n tx a ∧ gd 4 9 = numF n tx a) ∨ (gd 4 7 = 1 ∧ ¬ (chF n tx a = 101 ∨ (nmz (chF n tx a) = 1 ∧ dgs n tx a ≠ 0)) ∧ (q : Int) = (a : Int) + wrA n tx a)) (H : Heap) (locs : List Loc) (hw : mmB D A s cI ad gd H locs) (ls : Array Slot) (hl : lv_has ls 3 [(0, .ref (ad 0)), (1, .int (iN cc))]), W p l e ({ frames := 2, cells := 0, slots := 0, locals := 45 } : Room) s m args below meth c H locs 0 0 (mmQv D cI ad A below args s (fun g1 => RG g1 g ∧ g1 4 8 = chF n tx a ∧ ((okF n tx a = true ∧ g1 4 7 = 0 ∧ g1 4 6 = (beh n tx a : Int) + 1 ∧ g1 4 9 = numF n tx a) ∨ (okF n tx a = false ∧ g1 4 7 = 1 ∧ g1 4 6 = (a : Int) + wrA n tx a)))) (F0 m 200 ls []) := by
          intro gd q hR h8 hq hcs H locs hw ls hl
          refine lv_aload_n hx hb dX2_read_200 rfl (lv_at hl 0 rfl) ?_
          refine ts_bipush hx hb dX2_read_201 (by decide) ?_
          refine ts_bipush hx hb dX2_read_203 (by decide) ?_
          refine mm_calli (rest := []) cx hK hA hw hl (c_X2_sign l 59 59 gd n tx q (TXM_GO hx0 (GO_RG hR)) hq (by omega) (by omega)) tg_RX2_180 ⟨rfl, rfl⟩ 2 rfl (by decide +kernel) ⟨Nat.le_of_ble_eq_true rfl, Nat.le_of_ble_eq_true rfl⟩ ⟨Nat.zero_le _, Nat.zero_le _⟩ (Nat.le_of_ble_eq_true rfl) dX2_read_205 (rfl) (fun z205 g205 H locs hq205 hw => ?_)
          obtain ⟨hz205, hs205, hd205⟩ := hq205
          have hfin : (okF n tx a = true ∧ g205 4 7 = 0 ∧ g205 4 6 = (beh n tx a : Int) + 1 ∧ g205 4 9 = numF n tx a) ∨ (okF n tx a = false ∧ g205 4 7 = 1 ∧ g205 4 6 = (a : Int) + wrA n tx a) := by
            have hs9 := hs205.2.2.2.2 9 (by decide) (by decide)
            have hW := wrA_z n tx a
            have hfalse : ¬ ((chF n tx a = 101 ∨ (nmz (chF n tx a) = 1 ∧ dgs n tx a ≠ 0)) ∧ chF n tx (beh n tx a) = 59) → okF n tx a = false := fun w => by
              cases hh : okF n tx a
              · rfl
              · exact absurd (okF_z.mp hh) w
            rcases hcs with hcs | hcs
            · rw [hcs.2.2.1] at hz205
              by_cases h59 : chF n tx (beh n tx a) = 59
              · exact Or.inl ⟨okF_z.mpr ⟨hcs.2.1, h59⟩, by omega, by omega, by omega⟩
              · exact Or.inr ⟨hfalse (fun w => h59 w.2), by omega, by omega⟩
            · exact Or.inr ⟨hfalse (fun w => hcs.2.1 w.1), by omega, by omega⟩
          refine lv_istore_n (lv' := [(2, .int (iN z205)), (0, .ref (ad 0)), (1, .int (iN cc))]) hx hb dX2_read_208 rfl hl (by decide) rfl (fun ls hl => ?_)
          exact mm_vret cx hr hlocks hw (⟨RG_tr (RG_SG hs205) hR, (hs205.2.2.2.2 8 (by decide) (by decide)).trans (h8.trans hcc), hfin⟩) dX2_read_209
        have h926 : g92 4 6 = z81 := by rw [hg92, u2_4, if_neg (by decide), hg87, u2_4, if_neg (by decide), hg82, u2_4, if_pos rfl]
        have h927 : g92 4 7 = ov := by rw [hg92, u2_4, if_neg (by decide), hg87, u2_4, if_neg (by decide), hg82, u2_4, if_neg (by decide), h617]
        have h928 : g92 4 8 = cc := by rw [hg92, u2_4, if_neg (by decide), hg87, u2_4, if_pos rfl]
        have h929 : g92 4 9 = 0 := by rw [hg92, u2_4, if_pos rfl]
        have hR92 : RG g92 g := by
          rw [hg92, hg87, hg82, hg61]
          exact RG_tr (RG_set _ _ _ (by decide)) (RG_tr (RG_set _ _ _ (by decide)) (RG_tr (RG_set _ _ _ (by decide)) (RG_set _ _ _ (by decide))))
        refine lv_aload_n hx hb dX2_read_95 rfl (lv_at hl 0 rfl) ?_
        refine mm_get7 cx hK hw tl_RX2_170 dX2_read_96 (fun z96 hz96 => ?_)
        rw [h927] at hz96
        refine ts_if_ne (tgt := 200) hx hb (by omega) dX2_read_99 (by decide) (fun c99 => ?_) (fun c99 => ?_)
        · skip
          have hcsn : (g92 4 7 = 0 ∧ (chF n tx a = 101 ∨ (nmz (chF n tx a) = 1 ∧ dgs n tx a ≠ 0)) ∧ (g92 4 6).toNat = beh n tx a ∧ g92 4 9 = numF n tx a) ∨ (g92 4 7 = 1 ∧ ¬ (chF n tx a = 101 ∨ (nmz (chF n tx a) = 1 ∧ dgs n tx a ≠ 0)) ∧ (((g92 4 6).toNat : Nat) : Int) = (a : Int) + wrA n tx a) := by
            have hW := wrA_z n tx a
            refine Or.inr ⟨by omega, by omega, by omega⟩
          have hRn := hR92
          have h8n := h928
          exact cut200 (g92) ((g92 4 6).toNat) (hRn) (h8n) (by omega) (hcsn) _ _ hw _ (lv_sub hl [0, 1] rfl)
        · skip
          refine lv_iload_n hx hb dX2_read_102 rfl (lv_at hl 1 rfl) ?_
          refine ts_bipush hx hb dX2_read_103 (by decide) ?_
          refine ts_icmp_eq (tgt := 200) hx hb (by omega) dX2_read_105 (by decide) (fun c105 => ?_) (fun c105 => ?_)
          · skip
            have hcsn : (g92 4 7 = 0 ∧ (chF n tx a = 101 ∨ (nmz (chF n tx a) = 1 ∧ dgs n tx a ≠ 0)) ∧ (g92 4 6).toNat = beh n tx a ∧ g92 4 9 = numF n tx a) ∨ (g92 4 7 = 1 ∧ ¬ (chF n tx a = 101 ∨ (nmz (chF n tx a) = 1 ∧ dgs n tx a ≠ 0)) ∧ (((g92 4 6).toNat : Nat) : Int) = (a : Int) + wrA n tx a) := by
              have hD := dgs_z n tx a
              refine Or.inl ⟨by omega, by omega, by omega, by omega⟩
            have hRn := hR92
            have h8n := h928
            exact cut200 (g92) ((g92 4 6).toNat) (hRn) (h8n) (by omega) (hcsn) _ _ hw _ (lv_sub hl [0, 1] rfl)
          · skip
            have hnz1 : nmz (chF n tx a) = 1 := by omega
            have hne1 : chF n tx a ≠ 101 := by omega
            have hov0 : ov = 0 := by omega
            have ha92 : g92 4 6 = (a : Int) + 1 := by omega
            clear hov
            refine lv_aload_n hx hb dX2_read_108 rfl (lv_at hl 0 rfl) ?_
            refine lv_aload_n hx hb dX2_read_109 rfl (lv_at hl 0 rfl) ?_
            refine ts_bipush hx hb dX2_read_110 (by decide) ?_
            refine ts_bipush hx hb dX2_read_112 (by decide) ?_
            refine mm_calli (rest := [.ref (ad 0)]) cx hK hA hw hl (c_X2_sign l 48 57 g92 n tx (a + 1) (TXM_GO hx0 (GO_RG hR92)) (by omega) (by omega) (by omega)) tg_RX2_180 ⟨rfl, rfl⟩ 2 rfl (by decide +kernel) ⟨Nat.le_of_ble_eq_true rfl, Nat.le_of_ble_eq_true rfl⟩ ⟨Nat.zero_le _, Nat.zero_le _⟩ (Nat.le_of_ble_eq_true rfl) dX2_read_114 (rfl) (fun z114 g114 H locs hq114 hw => ?_)
            obtain ⟨hz114, hs114, hd114⟩ := hq114
            have h1146 : (dgz (chF n tx (a + 1)) = 1 ∧ g114 4 7 = 0 ∧ g114 4 6 = (a : Int) + 2) ∨ (dgz (chF n tx (a + 1)) = 0 ∧ g114 4 7 = 1 ∧ g114 4 6 = (a : Int) + 1) := by
              have hzc := dgz_c (chF n tx (a + 1))
              rw [hz114] at hd114
              rcases hzc with hzc | hzc
              · exact Or.inl ⟨hzc.2, by omega, by omega⟩
              · exact Or.inr ⟨hzc.2, by omega, by omega⟩
            clear hd114
            refine ts_bipush hx hb dX2_read_117 (by decide) ?_
            refine ts_isub hx hb dX2_read_119 (fun z119 hz119 => ?_)
            refine mm_put9 cx hK hw tl_RX2_177 dX2_read_120 (fun g120 H locs hg120 hw => ?_)
            have h1206 : g120 4 6 = g114 4 6 := by rw [hg120, u2_4, if_neg (by decide)]
            have h1207 : g120 4 7 = g114 4 7 := by rw [hg120, u2_4, if_neg (by decide)]
            have h1208 : g120 4 8 = cc := by rw [hg120, u2_4, if_neg (by decide), hs114.2.2.2.2 8 (by decide) (by decide), h928]
            have h1209 : g120 4 9 = z119 := by rw [hg120, u2_4, if_pos rfl]
            have hR120 : RG g120 g := by
              rw [hg120]
              exact RG_tr (RG_set _ _ _ (by decide)) (RG_tr (RG_SG hs114) hR92)
            have h1205 : g120 4 5 = g 4 5 := hR120.2.2.2.2 5 (by decide) (by decide) (by decide) (by decide)
            refine lv_aload_n hx hb dX2_read_123 rfl (lv_at hl 0 rfl) ?_
            have cut165 : ∀ (ow : Int) (how : (ow = 1 ∧ dgz (chF n tx (a + 1)) = 1 ∧ dgz (chF n tx (a + 2)) = 1 ∧ g114 4 7 = 0 ∧ g114 4 6 = (a : Int) + 2) ∨ (ow = 0 ∧ dgz (chF n tx (a + 1)) = 1 ∧ dgz (chF n tx (a + 2)) = 0 ∧ g114 4 7 = 0 ∧ g114 4 6 = (a : Int) + 2) ∨ (ow = 0 ∧ dgz (chF n tx (a + 1)) = 0 ∧ g114 4 7 = 1 ∧ g114 4 6 = (a : Int) + 1)) (H : Heap) (locs : List Loc) (hw : mmB D A s cI ad g120 H locs) (ls : Array Slot) (hl : lv_has ls 3 [(0, .ref (ad 0)), (1, .int (iN cc))]), W p l e ({ frames := 2, cells := 0, slots := 0, locals := 45 } : Room) s m args below meth c H locs 0 0 (mmQv D cI ad A below args s (fun g1 => RG g1 g ∧ g1 4 8 = chF n tx a ∧ ((okF n tx a = true ∧ g1 4 7 = 0 ∧ g1 4 6 = (beh n tx a : Int) + 1 ∧ g1 4 9 = numF n tx a) ∨ (okF n tx a = false ∧ g1 4 7 = 1 ∧ g1 4 6 = (a : Int) + wrA n tx a)))) (F0 m 165 ls [.int (iN ow)]) := by
              intro ow how H locs hw ls hl
              refine lv_istore_n (lv' := [(2, .int (iN ow)), (0, .ref (ad 0)), (1, .int (iN cc))]) hx hb dX2_read_165 rfl hl (by decide) rfl (fun ls hl => ?_)
              clear h1146
              refine lv_aload_n hx hb dX2_read_166 rfl (lv_at hl 1 rfl) ?_
              refine lv_iload_n hx hb dX2_read_167 rfl (lv_at hl 0 rfl) ?_
              refine ts_if_eq (tgt := 193) hx hb (by omega) dX2_read_168 (by decide) (fun c168 => ?_) (fun c168 => ?_)
              · skip
                refine lv_aload_n hx hb dX2_read_193 rfl (lv_at hl 1 rfl) ?_
                refine mm_get9 cx hK hw tl_RX2_177 dX2_read_194 (fun z194 hz194 => ?_)
                rw [h1209] at hz194
                refine mm_put9 cx hK hw tl_RX2_177 dX2_read_197 (fun g197 H locs hg197 hw => ?_)
                have hRn : RG g197 g := by
                  rw [hg197]
                  exact RG_tr (RG_set _ _ _ (by decide)) (hR120)
                have h8n : g197 4 8 = cc := by
                  rw [hg197, u2_4, if_neg (by decide)]
                  exact h1208
                have h6n : g197 4 6 = g120 4 6 := by rw [hg197, u2_4, if_neg (by decide)]
                have h7n : g197 4 7 = g120 4 7 := by rw [hg197, u2_4, if_neg (by decide)]
                have h9n : g197 4 9 = z194 := by rw [hg197, u2_4, if_pos rfl]
                have hcsn : (g197 4 7 = 0 ∧ (chF n tx a = 101 ∨ (nmz (chF n tx a) = 1 ∧ dgs n tx a ≠ 0)) ∧ (g197 4 6).toNat = beh n tx a ∧ g197 4 9 = numF n tx a) ∨ (g197 4 7 = 1 ∧ ¬ (chF n tx a = 101 ∨ (nmz (chF n tx a) = 1 ∧ dgs n tx a ≠ 0)) ∧ (((g197 4 6).toNat : Nat) : Int) = (a : Int) + wrA n tx a) := by
                  have hD := dgs_z n tx a
                  have hW := wrA_z n tx a
                  rcases how with how | how | how
                  · exfalso; omega
                  · refine Or.inl ⟨by omega, by omega, by omega, by omega⟩
                  · refine Or.inr ⟨by omega, by omega, by omega⟩
                exact cut200 (g197) ((g197 4 6).toNat) (hRn) (h8n) (by omega) (hcsn) _ _ hw _ (lv_sub hl [1, 2] rfl)
              · skip
                refine ts_bipush hx hb dX2_read_171 (by decide) ?_
                refine lv_aload_n hx hb dX2_read_173 rfl (lv_at hl 1 rfl) ?_
                refine mm_get9 cx hK hw tl_RX2_177 dX2_read_174 (fun z174 hz174 => ?_)
                rw [h1209] at hz174
                refine ts_imul hx hb dX2_read_177 (fun z177 hz177 => ?_)
                refine lv_aload_n hx hb dX2_read_178 rfl (lv_at hl 1 rfl) ?_
                refine ts_bipush hx hb dX2_read_179 (by decide) ?_
                refine ts_bipush hx hb dX2_read_181 (by decide) ?_
                refine mm_calli (rest := [.int (iN z177), .ref (ad 0)]) cx hK hA hw hl (c_X2_sign l 48 57 g120 n tx (a + 2) (TXM_GO hx0 (GO_RG hR120)) (by omega) (by omega) (by omega)) tg_RX2_180 ⟨rfl, rfl⟩ 2 rfl (by decide +kernel) ⟨Nat.le_of_ble_eq_true rfl, Nat.le_of_ble_eq_true rfl⟩ ⟨Nat.zero_le _, Nat.zero_le _⟩ (Nat.le_of_ble_eq_true rfl) dX2_read_183 (rfl) (fun z183 g183 H locs hq183 hw => ?_)
                obtain ⟨hz183, hs183, hd183⟩ := hq183
                have h1836 : g183 4 7 = 0 ∧ g183 4 6 = (a : Int) + 3 := by
                  have hzc := dgz_c (chF n tx (a + 2))
                  rw [hz183] at hd183
                  omega
                clear hd183
                refine ts_iadd hx hb dX2_read_186 (fun z186 hz186 => ?_)
                refine ts_bipush hx hb dX2_read_187 (by decide) ?_
                refine ts_isub hx hb dX2_read_189 (fun z189 hz189 => ?_)
                refine lv_goto (tgt := 197) hx hb dX2_read_190 (by decide) ?_
                
                refine mm_put9 cx hK hw tl_RX2_177 dX2_read_197 (fun g197 H locs hg197 hw => ?_)
                have hRn : RG g197 g := by
                  rw [hg197]
                  exact RG_tr (RG_set _ _ _ (by decide)) (RG_tr (RG_SG hs183) hR120)
                have h8n : g197 4 8 = cc := by
                  rw [hg197, u2_4, if_neg (by decide)]
                  exact (hs183.2.2.2.2 8 (by decide) (by decide)).trans h1208
                have h6n : g197 4 6 = g183 4 6 := by rw [hg197, u2_4, if_neg (by decide)]
                have h7n : g197 4 7 = g183 4 7 := by rw [hg197, u2_4, if_neg (by decide)]
                have h9n : g197 4 9 = z189 := by rw [hg197, u2_4, if_pos rfl]
                have hcsn : (g197 4 7 = 0 ∧ (chF n tx a = 101 ∨ (nmz (chF n tx a) = 1 ∧ dgs n tx a ≠ 0)) ∧ (g197 4 6).toNat = beh n tx a ∧ g197 4 9 = numF n tx a) ∨ (g197 4 7 = 1 ∧ ¬ (chF n tx a = 101 ∨ (nmz (chF n tx a) = 1 ∧ dgs n tx a ≠ 0)) ∧ (((g197 4 6).toNat : Nat) : Int) = (a : Int) + wrA n tx a) := by
                  have hD := dgs_z n tx a
                  refine Or.inl ⟨by omega, by omega, by omega, by omega⟩
                exact cut200 (g197) ((g197 4 6).toNat) (hRn) (h8n) (by omega) (hcsn) _ _ hw _ (lv_sub hl [1, 2] rfl)
            refine mm_get7 cx hK hw tl_RX2_170 dX2_read_124 (fun z124 hz124 => ?_)
            rw [h1207] at hz124
            refine ts_if_ne (tgt := 164) hx hb (by omega) dX2_read_127 (by decide) (fun c127 => ?_) (fun c127 => ?_)
            · skip
              refine ts_iconst hx hb dX2_read_164 ?_
              exact cut165 (0) (by omega) _ _ hw _ (lv_sub hl [0, 1] rfl)
            · skip
              refine lv_aload_n hx hb dX2_read_130 rfl (lv_at hl 0 rfl) ?_
              refine mm_get6 cx hK hw tl_RX2_167 dX2_read_131 (fun z131 hz131 => ?_)
              rw [h1206] at hz131
              refine lv_aload_n hx hb dX2_read_134 rfl (lv_at hl 0 rfl) ?_
              refine mm_get5 cx hK hw tl_RX2_163 dX2_read_135 (fun z135 hz135 => ?_)
              rw [h1205] at hz135
              refine ts_icmp_ge (tgt := 164) hx hb (by omega) dX2_read_138 (by decide) (fun c138 => ?_) (fun c138 => ?_)
              · skip
                have hdz2 : dgz (chF n tx (a + 2)) = 0 := by
                  rw [show chF n tx (a + 2) = 0 by unfold chF; rw [if_neg (by omega)]]
                  decide
                refine ts_iconst hx hb dX2_read_164 ?_
                exact cut165 (0) (by omega) _ _ hw _ (lv_sub hl [0, 1] rfl)
              · skip
                refine lv_aload_n hx hb dX2_read_141 rfl (lv_at hl 0 rfl) ?_
                refine mm_get4 cx hK hw tl_RX2_19 dX2_read_142 ?_
                refine lv_aload_n hx hb dX2_read_145 rfl (lv_at hl 0 rfl) ?_
                refine mm_get6 cx hK hw tl_RX2_167 dX2_read_146 (fun z146 hz146 => ?_)
                refine mm_ld3 cx hK hw (a + 2) (by omega) dX2_read_149 (fun z149 hz149 => ?_)
                have hch2 : chF n tx (a + 2) = z149 := by
                  unfold chF
                  rw [if_pos (by omega), hz149, hR120.2.2.2.1]
                  exact (hx0.2.2.1 (a + 2) (by omega)).symm
                refine ts_bipush hx hb dX2_read_150 (by decide) ?_
                refine ts_bipush hx hb dX2_read_152 (by decide) ?_
                refine ps_call (rest := []) cx hl (c_X2_in l z149 48 57 (by omega)) tg_RX2_48 ⟨rfl, rfl⟩ 3 rfl (by decide +kernel) ⟨Nat.le_of_ble_eq_true rfl, Nat.le_of_ble_eq_true rfl⟩ ⟨Nat.zero_le _, Nat.zero_le _⟩ (Nat.le_of_ble_eq_true rfl) dX2_read_154 (rfl) (fun z154 hz154 => ?_)
                refine ts_if_eq (tgt := 164) hx hb (by omega) dX2_read_157 (by decide) (fun c157 => ?_) (fun c157 => ?_)
                · skip
                  have hdz2 : dgz (chF n tx (a + 2)) = 0 := by
                    have hzc := dgz_c (chF n tx (a + 2))
                    omega
                  refine ts_iconst hx hb dX2_read_164 ?_
                  exact cut165 (0) (by omega) _ _ hw _ (lv_sub hl [0, 1] rfl)
                · skip
                  have hdz2 : dgz (chF n tx (a + 2)) = 1 := by
                    have hzc := dgz_c (chF n tx (a + 2))
                    omega
                  refine ts_iconst hx hb dX2_read_160 ?_
                  refine lv_goto (tgt := 165) hx hb dX2_read_161 (by decide) ?_
                  exact cut165 (1) (by omega) _ _ hw _ (lv_sub hl [0, 1] rfl)
      · skip
        refine ts_iconst hx hb dX2_read_76 ?_
        refine lv_goto (tgt := 81) hx hb dX2_read_77 (by decide) ?_
        refine ts_iadd hx hb dX2_read_81 (fun z81 hz81 => ?_)
        refine mm_put6 cx hK hw tl_RX2_167 dX2_read_82 (fun g82 H locs hg82 hw => ?_)
        refine lv_aload_n hx hb dX2_read_85 rfl (lv_at hl 0 rfl) ?_
        refine lv_iload_n hx hb dX2_read_86 rfl (lv_at hl 1 rfl) ?_
        refine mm_put8 cx hK hw tl_RX2_174 dX2_read_87 (fun g87 H locs hg87 hw => ?_)
        refine lv_aload_n hx hb dX2_read_90 rfl (lv_at hl 0 rfl) ?_
        refine ts_iconst hx hb dX2_read_91 ?_
        refine mm_put9 cx hK hw tl_RX2_177 dX2_read_92 (fun g92 H locs hg92 hw => ?_)
        have cut200 : ∀ (gd : GS) (q : Nat) (hR : RG gd g) (h8 : gd 4 8 = cc) (hq : gd 4 6 = (q : Int) ∧ q ≤ 200) (hcs : (gd 4 7 = 0 ∧ (chF n tx a = 101 ∨ (nmz (chF n tx a) = 1 ∧ dgs n tx a ≠ 0)) ∧ q = beh n tx a ∧ gd 4 9 = numF n tx a) ∨ (gd 4 7 = 1 ∧ ¬ (chF n tx a = 101 ∨ (nmz (chF n tx a) = 1 ∧ dgs n tx a ≠ 0)) ∧ (q : Int) = (a : Int) + wrA n tx a)) (H : Heap) (locs : List Loc) (hw : mmB D A s cI ad gd H locs) (ls : Array Slot) (hl : lv_has ls 3 [(0, .ref (ad 0)), (1, .int (iN cc))]), W p l e ({ frames := 2, cells := 0, slots := 0, locals := 45 } : Room) s m args below meth c H locs 0 0 (mmQv D cI ad A below args s (fun g1 => RG g1 g ∧ g1 4 8 = chF n tx a ∧ ((okF n tx a = true ∧ g1 4 7 = 0 ∧ g1 4 6 = (beh n tx a : Int) + 1 ∧ g1 4 9 = numF n tx a) ∨ (okF n tx a = false ∧ g1 4 7 = 1 ∧ g1 4 6 = (a : Int) + wrA n tx a)))) (F0 m 200 ls []) := by
          intro gd q hR h8 hq hcs H locs hw ls hl
          refine lv_aload_n hx hb dX2_read_200 rfl (lv_at hl 0 rfl) ?_
          refine ts_bipush hx hb dX2_read_201 (by decide) ?_
          refine ts_bipush hx hb dX2_read_203 (by decide) ?_
          refine mm_calli (rest := []) cx hK hA hw hl (c_X2_sign l 59 59 gd n tx q (TXM_GO hx0 (GO_RG hR)) hq (by omega) (by omega)) tg_RX2_180 ⟨rfl, rfl⟩ 2 rfl (by decide +kernel) ⟨Nat.le_of_ble_eq_true rfl, Nat.le_of_ble_eq_true rfl⟩ ⟨Nat.zero_le _, Nat.zero_le _⟩ (Nat.le_of_ble_eq_true rfl) dX2_read_205 (rfl) (fun z205 g205 H locs hq205 hw => ?_)
          obtain ⟨hz205, hs205, hd205⟩ := hq205
          have hfin : (okF n tx a = true ∧ g205 4 7 = 0 ∧ g205 4 6 = (beh n tx a : Int) + 1 ∧ g205 4 9 = numF n tx a) ∨ (okF n tx a = false ∧ g205 4 7 = 1 ∧ g205 4 6 = (a : Int) + wrA n tx a) := by
            have hs9 := hs205.2.2.2.2 9 (by decide) (by decide)
            have hW := wrA_z n tx a
            have hfalse : ¬ ((chF n tx a = 101 ∨ (nmz (chF n tx a) = 1 ∧ dgs n tx a ≠ 0)) ∧ chF n tx (beh n tx a) = 59) → okF n tx a = false := fun w => by
              cases hh : okF n tx a
              · rfl
              · exact absurd (okF_z.mp hh) w
            rcases hcs with hcs | hcs
            · rw [hcs.2.2.1] at hz205
              by_cases h59 : chF n tx (beh n tx a) = 59
              · exact Or.inl ⟨okF_z.mpr ⟨hcs.2.1, h59⟩, by omega, by omega, by omega⟩
              · exact Or.inr ⟨hfalse (fun w => h59 w.2), by omega, by omega⟩
            · exact Or.inr ⟨hfalse (fun w => hcs.2.1 w.1), by omega, by omega⟩
          refine lv_istore_n (lv' := [(2, .int (iN z205)), (0, .ref (ad 0)), (1, .int (iN cc))]) hx hb dX2_read_208 rfl hl (by decide) rfl (fun ls hl => ?_)
          exact mm_vret cx hr hlocks hw (⟨RG_tr (RG_SG hs205) hR, (hs205.2.2.2.2 8 (by decide) (by decide)).trans (h8.trans hcc), hfin⟩) dX2_read_209
        have h926 : g92 4 6 = z81 := by rw [hg92, u2_4, if_neg (by decide), hg87, u2_4, if_neg (by decide), hg82, u2_4, if_pos rfl]
        have h927 : g92 4 7 = ov := by rw [hg92, u2_4, if_neg (by decide), hg87, u2_4, if_neg (by decide), hg82, u2_4, if_neg (by decide), h617]
        have h928 : g92 4 8 = cc := by rw [hg92, u2_4, if_neg (by decide), hg87, u2_4, if_pos rfl]
        have h929 : g92 4 9 = 0 := by rw [hg92, u2_4, if_pos rfl]
        have hR92 : RG g92 g := by
          rw [hg92, hg87, hg82, hg61]
          exact RG_tr (RG_set _ _ _ (by decide)) (RG_tr (RG_set _ _ _ (by decide)) (RG_tr (RG_set _ _ _ (by decide)) (RG_set _ _ _ (by decide))))
        refine lv_aload_n hx hb dX2_read_95 rfl (lv_at hl 0 rfl) ?_
        refine mm_get7 cx hK hw tl_RX2_170 dX2_read_96 (fun z96 hz96 => ?_)
        rw [h927] at hz96
        refine ts_if_ne (tgt := 200) hx hb (by omega) dX2_read_99 (by decide) (fun c99 => ?_) (fun c99 => ?_)
        · skip
          have hcsn : (g92 4 7 = 0 ∧ (chF n tx a = 101 ∨ (nmz (chF n tx a) = 1 ∧ dgs n tx a ≠ 0)) ∧ (g92 4 6).toNat = beh n tx a ∧ g92 4 9 = numF n tx a) ∨ (g92 4 7 = 1 ∧ ¬ (chF n tx a = 101 ∨ (nmz (chF n tx a) = 1 ∧ dgs n tx a ≠ 0)) ∧ (((g92 4 6).toNat : Nat) : Int) = (a : Int) + wrA n tx a) := by
            have hW := wrA_z n tx a
            refine Or.inr ⟨by omega, by omega, by omega⟩
          have hRn := hR92
          have h8n := h928
          exact cut200 (g92) ((g92 4 6).toNat) (hRn) (h8n) (by omega) (hcsn) _ _ hw _ (lv_sub hl [0, 1] rfl)
        · skip
          refine lv_iload_n hx hb dX2_read_102 rfl (lv_at hl 1 rfl) ?_
          refine ts_bipush hx hb dX2_read_103 (by decide) ?_
          refine ts_icmp_eq (tgt := 200) hx hb (by omega) dX2_read_105 (by decide) (fun c105 => ?_) (fun c105 => ?_)
          · skip
            have hcsn : (g92 4 7 = 0 ∧ (chF n tx a = 101 ∨ (nmz (chF n tx a) = 1 ∧ dgs n tx a ≠ 0)) ∧ (g92 4 6).toNat = beh n tx a ∧ g92 4 9 = numF n tx a) ∨ (g92 4 7 = 1 ∧ ¬ (chF n tx a = 101 ∨ (nmz (chF n tx a) = 1 ∧ dgs n tx a ≠ 0)) ∧ (((g92 4 6).toNat : Nat) : Int) = (a : Int) + wrA n tx a) := by
              have hD := dgs_z n tx a
              refine Or.inl ⟨by omega, by omega, by omega, by omega⟩
            have hRn := hR92
            have h8n := h928
            exact cut200 (g92) ((g92 4 6).toNat) (hRn) (h8n) (by omega) (hcsn) _ _ hw _ (lv_sub hl [0, 1] rfl)
          · skip
            have hnz1 : nmz (chF n tx a) = 1 := by omega
            have hne1 : chF n tx a ≠ 101 := by omega
            have hov0 : ov = 0 := by omega
            have ha92 : g92 4 6 = (a : Int) + 1 := by omega
            clear hov
            refine lv_aload_n hx hb dX2_read_108 rfl (lv_at hl 0 rfl) ?_
            refine lv_aload_n hx hb dX2_read_109 rfl (lv_at hl 0 rfl) ?_
            refine ts_bipush hx hb dX2_read_110 (by decide) ?_
            refine ts_bipush hx hb dX2_read_112 (by decide) ?_
            refine mm_calli (rest := [.ref (ad 0)]) cx hK hA hw hl (c_X2_sign l 48 57 g92 n tx (a + 1) (TXM_GO hx0 (GO_RG hR92)) (by omega) (by omega) (by omega)) tg_RX2_180 ⟨rfl, rfl⟩ 2 rfl (by decide +kernel) ⟨Nat.le_of_ble_eq_true rfl, Nat.le_of_ble_eq_true rfl⟩ ⟨Nat.zero_le _, Nat.zero_le _⟩ (Nat.le_of_ble_eq_true rfl) dX2_read_114 (rfl) (fun z114 g114 H locs hq114 hw => ?_)
            obtain ⟨hz114, hs114, hd114⟩ := hq114
            have h1146 : (dgz (chF n tx (a + 1)) = 1 ∧ g114 4 7 = 0 ∧ g114 4 6 = (a : Int) + 2) ∨ (dgz (chF n tx (a + 1)) = 0 ∧ g114 4 7 = 1 ∧ g114 4 6 = (a : Int) + 1) := by
              have hzc := dgz_c (chF n tx (a + 1))
              rw [hz114] at hd114
              rcases hzc with hzc | hzc
              · exact Or.inl ⟨hzc.2, by omega, by omega⟩
              · exact Or.inr ⟨hzc.2, by omega, by omega⟩
            clear hd114
            refine ts_bipush hx hb dX2_read_117 (by decide) ?_
            refine ts_isub hx hb dX2_read_119 (fun z119 hz119 => ?_)
            refine mm_put9 cx hK hw tl_RX2_177 dX2_read_120 (fun g120 H locs hg120 hw => ?_)
            have h1206 : g120 4 6 = g114 4 6 := by rw [hg120, u2_4, if_neg (by decide)]
            have h1207 : g120 4 7 = g114 4 7 := by rw [hg120, u2_4, if_neg (by decide)]
            have h1208 : g120 4 8 = cc := by rw [hg120, u2_4, if_neg (by decide), hs114.2.2.2.2 8 (by decide) (by decide), h928]
            have h1209 : g120 4 9 = z119 := by rw [hg120, u2_4, if_pos rfl]
            have hR120 : RG g120 g := by
              rw [hg120]
              exact RG_tr (RG_set _ _ _ (by decide)) (RG_tr (RG_SG hs114) hR92)
            have h1205 : g120 4 5 = g 4 5 := hR120.2.2.2.2 5 (by decide) (by decide) (by decide) (by decide)
            refine lv_aload_n hx hb dX2_read_123 rfl (lv_at hl 0 rfl) ?_
            have cut165 : ∀ (ow : Int) (how : (ow = 1 ∧ dgz (chF n tx (a + 1)) = 1 ∧ dgz (chF n tx (a + 2)) = 1 ∧ g114 4 7 = 0 ∧ g114 4 6 = (a : Int) + 2) ∨ (ow = 0 ∧ dgz (chF n tx (a + 1)) = 1 ∧ dgz (chF n tx (a + 2)) = 0 ∧ g114 4 7 = 0 ∧ g114 4 6 = (a : Int) + 2) ∨ (ow = 0 ∧ dgz (chF n tx (a + 1)) = 0 ∧ g114 4 7 = 1 ∧ g114 4 6 = (a : Int) + 1)) (H : Heap) (locs : List Loc) (hw : mmB D A s cI ad g120 H locs) (ls : Array Slot) (hl : lv_has ls 3 [(0, .ref (ad 0)), (1, .int (iN cc))]), W p l e ({ frames := 2, cells := 0, slots := 0, locals := 45 } : Room) s m args below meth c H locs 0 0 (mmQv D cI ad A below args s (fun g1 => RG g1 g ∧ g1 4 8 = chF n tx a ∧ ((okF n tx a = true ∧ g1 4 7 = 0 ∧ g1 4 6 = (beh n tx a : Int) + 1 ∧ g1 4 9 = numF n tx a) ∨ (okF n tx a = false ∧ g1 4 7 = 1 ∧ g1 4 6 = (a : Int) + wrA n tx a)))) (F0 m 165 ls [.int (iN ow)]) := by
              intro ow how H locs hw ls hl
              refine lv_istore_n (lv' := [(2, .int (iN ow)), (0, .ref (ad 0)), (1, .int (iN cc))]) hx hb dX2_read_165 rfl hl (by decide) rfl (fun ls hl => ?_)
              clear h1146
              refine lv_aload_n hx hb dX2_read_166 rfl (lv_at hl 1 rfl) ?_
              refine lv_iload_n hx hb dX2_read_167 rfl (lv_at hl 0 rfl) ?_
              refine ts_if_eq (tgt := 193) hx hb (by omega) dX2_read_168 (by decide) (fun c168 => ?_) (fun c168 => ?_)
              · skip
                refine lv_aload_n hx hb dX2_read_193 rfl (lv_at hl 1 rfl) ?_
                refine mm_get9 cx hK hw tl_RX2_177 dX2_read_194 (fun z194 hz194 => ?_)
                rw [h1209] at hz194
                refine mm_put9 cx hK hw tl_RX2_177 dX2_read_197 (fun g197 H locs hg197 hw => ?_)
                have hRn : RG g197 g := by
                  rw [hg197]
                  exact RG_tr (RG_set _ _ _ (by decide)) (hR120)
                have h8n : g197 4 8 = cc := by
                  rw [hg197, u2_4, if_neg (by decide)]
                  exact h1208
                have h6n : g197 4 6 = g120 4 6 := by rw [hg197, u2_4, if_neg (by decide)]
                have h7n : g197 4 7 = g120 4 7 := by rw [hg197, u2_4, if_neg (by decide)]
                have h9n : g197 4 9 = z194 := by rw [hg197, u2_4, if_pos rfl]
                have hcsn : (g197 4 7 = 0 ∧ (chF n tx a = 101 ∨ (nmz (chF n tx a) = 1 ∧ dgs n tx a ≠ 0)) ∧ (g197 4 6).toNat = beh n tx a ∧ g197 4 9 = numF n tx a) ∨ (g197 4 7 = 1 ∧ ¬ (chF n tx a = 101 ∨ (nmz (chF n tx a) = 1 ∧ dgs n tx a ≠ 0)) ∧ (((g197 4 6).toNat : Nat) : Int) = (a : Int) + wrA n tx a) := by
                  have hD := dgs_z n tx a
                  have hW := wrA_z n tx a
                  rcases how with how | how | how
                  · exfalso; omega
                  · refine Or.inl ⟨by omega, by omega, by omega, by omega⟩
                  · refine Or.inr ⟨by omega, by omega, by omega⟩
                exact cut200 (g197) ((g197 4 6).toNat) (hRn) (h8n) (by omega) (hcsn) _ _ hw _ (lv_sub hl [1, 2] rfl)
              · skip
                refine ts_bipush hx hb dX2_read_171 (by decide) ?_
                refine lv_aload_n hx hb dX2_read_173 rfl (lv_at hl 1 rfl) ?_
                refine mm_get9 cx hK hw tl_RX2_177 dX2_read_174 (fun z174 hz174 => ?_)
                rw [h1209] at hz174
                refine ts_imul hx hb dX2_read_177 (fun z177 hz177 => ?_)
                refine lv_aload_n hx hb dX2_read_178 rfl (lv_at hl 1 rfl) ?_
                refine ts_bipush hx hb dX2_read_179 (by decide) ?_
                refine ts_bipush hx hb dX2_read_181 (by decide) ?_
                refine mm_calli (rest := [.int (iN z177), .ref (ad 0)]) cx hK hA hw hl (c_X2_sign l 48 57 g120 n tx (a + 2) (TXM_GO hx0 (GO_RG hR120)) (by omega) (by omega) (by omega)) tg_RX2_180 ⟨rfl, rfl⟩ 2 rfl (by decide +kernel) ⟨Nat.le_of_ble_eq_true rfl, Nat.le_of_ble_eq_true rfl⟩ ⟨Nat.zero_le _, Nat.zero_le _⟩ (Nat.le_of_ble_eq_true rfl) dX2_read_183 (rfl) (fun z183 g183 H locs hq183 hw => ?_)
                obtain ⟨hz183, hs183, hd183⟩ := hq183
                have h1836 : g183 4 7 = 0 ∧ g183 4 6 = (a : Int) + 3 := by
                  have hzc := dgz_c (chF n tx (a + 2))
                  rw [hz183] at hd183
                  omega
                clear hd183
                refine ts_iadd hx hb dX2_read_186 (fun z186 hz186 => ?_)
                refine ts_bipush hx hb dX2_read_187 (by decide) ?_
                refine ts_isub hx hb dX2_read_189 (fun z189 hz189 => ?_)
                refine lv_goto (tgt := 197) hx hb dX2_read_190 (by decide) ?_
                
                refine mm_put9 cx hK hw tl_RX2_177 dX2_read_197 (fun g197 H locs hg197 hw => ?_)
                have hRn : RG g197 g := by
                  rw [hg197]
                  exact RG_tr (RG_set _ _ _ (by decide)) (RG_tr (RG_SG hs183) hR120)
                have h8n : g197 4 8 = cc := by
                  rw [hg197, u2_4, if_neg (by decide)]
                  exact (hs183.2.2.2.2 8 (by decide) (by decide)).trans h1208
                have h6n : g197 4 6 = g183 4 6 := by rw [hg197, u2_4, if_neg (by decide)]
                have h7n : g197 4 7 = g183 4 7 := by rw [hg197, u2_4, if_neg (by decide)]
                have h9n : g197 4 9 = z189 := by rw [hg197, u2_4, if_pos rfl]
                have hcsn : (g197 4 7 = 0 ∧ (chF n tx a = 101 ∨ (nmz (chF n tx a) = 1 ∧ dgs n tx a ≠ 0)) ∧ (g197 4 6).toNat = beh n tx a ∧ g197 4 9 = numF n tx a) ∨ (g197 4 7 = 1 ∧ ¬ (chF n tx a = 101 ∨ (nmz (chF n tx a) = 1 ∧ dgs n tx a ≠ 0)) ∧ (((g197 4 6).toNat : Nat) : Int) = (a : Int) + wrA n tx a) := by
                  have hD := dgs_z n tx a
                  refine Or.inl ⟨by omega, by omega, by omega, by omega⟩
                exact cut200 (g197) ((g197 4 6).toNat) (hRn) (h8n) (by omega) (hcsn) _ _ hw _ (lv_sub hl [1, 2] rfl)
            refine mm_get7 cx hK hw tl_RX2_170 dX2_read_124 (fun z124 hz124 => ?_)
            rw [h1207] at hz124
            refine ts_if_ne (tgt := 164) hx hb (by omega) dX2_read_127 (by decide) (fun c127 => ?_) (fun c127 => ?_)
            · skip
              refine ts_iconst hx hb dX2_read_164 ?_
              exact cut165 (0) (by omega) _ _ hw _ (lv_sub hl [0, 1] rfl)
            · skip
              refine lv_aload_n hx hb dX2_read_130 rfl (lv_at hl 0 rfl) ?_
              refine mm_get6 cx hK hw tl_RX2_167 dX2_read_131 (fun z131 hz131 => ?_)
              rw [h1206] at hz131
              refine lv_aload_n hx hb dX2_read_134 rfl (lv_at hl 0 rfl) ?_
              refine mm_get5 cx hK hw tl_RX2_163 dX2_read_135 (fun z135 hz135 => ?_)
              rw [h1205] at hz135
              refine ts_icmp_ge (tgt := 164) hx hb (by omega) dX2_read_138 (by decide) (fun c138 => ?_) (fun c138 => ?_)
              · skip
                have hdz2 : dgz (chF n tx (a + 2)) = 0 := by
                  rw [show chF n tx (a + 2) = 0 by unfold chF; rw [if_neg (by omega)]]
                  decide
                refine ts_iconst hx hb dX2_read_164 ?_
                exact cut165 (0) (by omega) _ _ hw _ (lv_sub hl [0, 1] rfl)
              · skip
                refine lv_aload_n hx hb dX2_read_141 rfl (lv_at hl 0 rfl) ?_
                refine mm_get4 cx hK hw tl_RX2_19 dX2_read_142 ?_
                refine lv_aload_n hx hb dX2_read_145 rfl (lv_at hl 0 rfl) ?_
                refine mm_get6 cx hK hw tl_RX2_167 dX2_read_146 (fun z146 hz146 => ?_)
                refine mm_ld3 cx hK hw (a + 2) (by omega) dX2_read_149 (fun z149 hz149 => ?_)
                have hch2 : chF n tx (a + 2) = z149 := by
                  unfold chF
                  rw [if_pos (by omega), hz149, hR120.2.2.2.1]
                  exact (hx0.2.2.1 (a + 2) (by omega)).symm
                refine ts_bipush hx hb dX2_read_150 (by decide) ?_
                refine ts_bipush hx hb dX2_read_152 (by decide) ?_
                refine ps_call (rest := []) cx hl (c_X2_in l z149 48 57 (by omega)) tg_RX2_48 ⟨rfl, rfl⟩ 3 rfl (by decide +kernel) ⟨Nat.le_of_ble_eq_true rfl, Nat.le_of_ble_eq_true rfl⟩ ⟨Nat.zero_le _, Nat.zero_le _⟩ (Nat.le_of_ble_eq_true rfl) dX2_read_154 (rfl) (fun z154 hz154 => ?_)
                refine ts_if_eq (tgt := 164) hx hb (by omega) dX2_read_157 (by decide) (fun c157 => ?_) (fun c157 => ?_)
                · skip
                  have hdz2 : dgz (chF n tx (a + 2)) = 0 := by
                    have hzc := dgz_c (chF n tx (a + 2))
                    omega
                  refine ts_iconst hx hb dX2_read_164 ?_
                  exact cut165 (0) (by omega) _ _ hw _ (lv_sub hl [0, 1] rfl)
                · skip
                  have hdz2 : dgz (chF n tx (a + 2)) = 1 := by
                    have hzc := dgz_c (chF n tx (a + 2))
                    omega
                  refine ts_iconst hx hb dX2_read_160 ?_
                  refine lv_goto (tgt := 165) hx hb dX2_read_161 (by decide) ?_
                  exact cut165 (1) (by omega) _ _ hw _ (lv_sub hl [0, 1] rfl)
    refine lv_aload_n hx hb dX2_read_25 rfl (lv_at hl 1 rfl) ?_
    refine lv_iload_n hx hb dX2_read_26 rfl (lv_at hl 0 rfl) ?_
    refine ts_bipush hx hb dX2_read_27 (by decide) ?_
    refine ts_icmp_eq (tgt := 60) hx hb (by omega) dX2_read_29 (by decide) (fun c29 => ?_) (fun c29 => ?_)
    · skip
      refine ts_iconst hx hb dX2_read_60 ?_
      have hnz : nmz (chF n tx a) = 1 := by
        unfold nmz
        rw [← hcc, if_pos (by omega)]
      exact cut61 (0) (by omega) _ _ hw _ (lv_sub hl [1, 0] rfl)
    · skip
      refine lv_iload_n hx hb dX2_read_32 rfl (lv_at hl 0 rfl) ?_
      refine ts_bipush hx hb dX2_read_33 (by decide) ?_
      refine ts_icmp_eq (tgt := 60) hx hb (by omega) dX2_read_35 (by decide) (fun c35 => ?_) (fun c35 => ?_)
      · skip
        refine ts_iconst hx hb dX2_read_60 ?_
        have hnz : nmz (chF n tx a) = 1 := by
          unfold nmz
          rw [← hcc, if_pos (by omega)]
        exact cut61 (0) (by omega) _ _ hw _ (lv_sub hl [1, 0] rfl)
      · skip
        refine lv_iload_n hx hb dX2_read_38 rfl (lv_at hl 0 rfl) ?_
        refine ts_bipush hx hb dX2_read_39 (by decide) ?_
        refine ts_icmp_eq (tgt := 60) hx hb (by omega) dX2_read_41 (by decide) (fun c41 => ?_) (fun c41 => ?_)
        · skip
          refine ts_iconst hx hb dX2_read_60 ?_
          have hnz : nmz (chF n tx a) = 1 := by
            unfold nmz
            rw [← hcc, if_pos (by omega)]
          exact cut61 (0) (by omega) _ _ hw _ (lv_sub hl [1, 0] rfl)
        · skip
          refine lv_iload_n hx hb dX2_read_44 rfl (lv_at hl 0 rfl) ?_
          refine ts_bipush hx hb dX2_read_45 (by decide) ?_
          refine ts_icmp_eq (tgt := 60) hx hb (by omega) dX2_read_47 (by decide) (fun c47 => ?_) (fun c47 => ?_)
          · skip
            refine ts_iconst hx hb dX2_read_60 ?_
            have hnz : nmz (chF n tx a) = 0 := by
              unfold nmz
              rw [← hcc, if_neg (by omega)]
            exact cut61 (0) (by omega) _ _ hw _ (lv_sub hl [1, 0] rfl)
          · skip
            refine lv_iload_n hx hb dX2_read_50 rfl (lv_at hl 0 rfl) ?_
            refine ts_bipush hx hb dX2_read_51 (by decide) ?_
            refine ts_icmp_eq (tgt := 60) hx hb (by omega) dX2_read_53 (by decide) (fun c53 => ?_) (fun c53 => ?_)
            · skip
              refine ts_iconst hx hb dX2_read_60 ?_
              have hnz : nmz (chF n tx a) = 1 := by
                unfold nmz
                rw [← hcc, if_pos (by omega)]
              exact cut61 (0) (by omega) _ _ hw _ (lv_sub hl [1, 0] rfl)
            · skip
              refine ts_iconst hx hb dX2_read_56 ?_
              refine lv_goto (tgt := 61) hx hb dX2_read_57 (by decide) ?_
              have hnz : nmz (chF n tx a) = 0 := by
                unfold nmz
                rw [← hcc, if_neg (by omega)]
              exact cut61 (1) (by omega) _ _ hw _ (lv_sub hl [1, 0] rfl)
  refine lv_aload_n hx hb dX2_read_4 rfl (lv_at hl 0 rfl) ?_
  refine mm_get5 cx hK hw tl_RX2_163 dX2_read_5 (fun z5 hz5 => ?_)
  refine ts_icmp_ge (tgt := 23) hx hb (by omega) dX2_read_8 (by decide) (fun c8 => ?_) (fun c8 => ?_)
  · skip
    have hch : chF n tx a = 0 := by
      unfold chF
      rw [if_neg (by omega)]
    refine ts_iconst hx hb dX2_read_23 ?_
    exact cut24 (0) (hch.symm) _ _ hw _ (lv_sub hl [0] rfl)
  · skip
    refine lv_aload_n hx hb dX2_read_11 rfl (lv_at hl 0 rfl) ?_
    refine mm_get4 cx hK hw tl_RX2_19 dX2_read_12 ?_
    refine lv_aload_n hx hb dX2_read_15 rfl (lv_at hl 0 rfl) ?_
    refine mm_get6 cx hK hw tl_RX2_167 dX2_read_16 (fun z16 hz16 => ?_)
    refine mm_ld3 cx hK hw (a) (by omega) dX2_read_19 (fun z19 hz19 => ?_)
    have hch : chF n tx a = z19 := by
      unfold chF
      rw [if_pos (by omega), hz19]
      exact (hx0.2.2.1 a (by omega)).symm
    refine lv_goto (tgt := 24) hx hb dX2_read_20 (by decide) ?_
    exact cut24 (z19) (hch.symm) _ _ hw _ (lv_sub hl [0] rfl)
set_option maxHeartbeats 4000000 in
set_option maxRecDepth 100000 in
theorem c_X2_does (l : Launch) (g : GS) (S : StT) (hx0 : RM g S) (hv0 : VS S) (lt nm : Int) (h8 : g 4 8 = lt) (h9 : g 4 9 = nm ∧ 0 ≤ nm ∧ nm ≤ 100) (hlb : 0 ≤ lt ∧ lt ≤ 126) : mmMi l yX2_does (wU yX2_does cX2_does 3 (some .int)) ({ frames := 5, cells := 0, slots := 0, locals := 118 } : Room) [] g (fun z g1 => ((z < 0 ∧ (doO S lt nm).1 = z ∧ (doO S lt nm).2 = S ∧ g1 = g) ∨ (z = 0 ∧ 0 ≤ (doO S lt nm).1)) ∧ RM g1 (doO S lt nm).2 ∧ ME g1 g) := by
  refine mmMi_of (by decide) (Nat.le_of_ble_eq_true rfl) ?_
  intro p e s m args below meth c D cI tb ad A ls cx hr hlocks hK hA hw hl
  have hx := cx.1
  have hb := cx.2.1
  have hl : lv_has ls 3 [(0, .ref (ad 0))] := hl
  have hvb := VS_nums hv0
  have s8 := hx0.1 8 (by omega)
  have s9 := hx0.1 9 (by omega)
  refine lv_aload_n hx hb dX2_does_0 rfl (lv_at hl 0 rfl) ?_
  refine mm_get8 cx hK hw tl_RX2_174 dX2_does_1 (fun z1 hz1 => ?_)
  refine ts_bipush hx hb dX2_does_4 (by decide) ?_
  refine ts_icmp_ne (tgt := 20) hx hb (by omega) dX2_does_6 (by decide) (fun c6 => ?_) (fun c6 => ?_)
  · skip
    refine lv_aload_n hx hb dX2_does_20 rfl (lv_at hl 0 rfl) ?_
    refine mm_get8 cx hK hw tl_RX2_174 dX2_does_21 (fun z21 hz21 => ?_)
    refine ts_bipush hx hb dX2_does_24 (by decide) ?_
    refine ts_icmp_ne (tgt := 40) hx hb (by omega) dX2_does_26 (by decide) (fun c26 => ?_) (fun c26 => ?_)
    · skip
      refine lv_aload_n hx hb dX2_does_40 rfl (lv_at hl 0 rfl) ?_
      refine mm_get8 cx hK hw tl_RX2_174 dX2_does_41 (fun z41 hz41 => ?_)
      refine ts_bipush hx hb dX2_does_44 (by decide) ?_
      refine ts_icmp_ne (tgt := 60) hx hb (by omega) dX2_does_46 (by decide) (fun c46 => ?_) (fun c46 => ?_)
      · skip
        refine lv_aload_n hx hb dX2_does_60 rfl (lv_at hl 0 rfl) ?_
        refine mm_get8 cx hK hw tl_RX2_174 dX2_does_61 (fun z61 hz61 => ?_)
        refine ts_bipush hx hb dX2_does_64 (by decide) ?_
        refine ts_icmp_ne (tgt := 90) hx hb (by omega) dX2_does_66 (by decide) (fun c66 => ?_) (fun c66 => ?_)
        · skip
          have hdo : doO S lt nm = endO S := by
            unfold doO
            rw [if_neg (by omega), if_neg (by omega), if_neg (by omega), if_neg (by omega)]
          refine lv_aload_n hx hb dX2_does_90 rfl (lv_at hl 0 rfl) ?_
          refine mm_get0 cx hK hw tl_RX2_7 dX2_does_91 ?_
          refine ts_bipush hx hb dX2_does_94 (by decide) ?_
          refine mm_ld0 cx hK hw (8) (by omega) dX2_does_96 (fun z96 hz96 => ?_)
          refine ts_iconst hx hb dX2_does_97 ?_
          refine ts_icmp_ne (tgt := 106) hx hb (by omega) dX2_does_98 (by decide) (fun c98 => ?_) (fun c98 => ?_)
          · skip
            refine ts_iconst hx hb dX2_does_106 ?_
            refine lv_istore_n (lv' := [(1, .int (iN 0)), (0, .ref (ad 0))]) hx hb dX2_does_107 rfl hl (by decide) rfl (fun ls hl => ?_)
            refine lv_iload_n hx hb dX2_does_108 rfl (lv_at hl 0 rfl) ?_
            refine ts_if_ne (tgt := 197) hx hb (by omega) dX2_does_109 (by decide) (fun c109 => ?_) (fun c109 => ?_)
            · exfalso
              omega
            · skip
              refine lv_aload_n hx hb dX2_does_112 rfl (lv_at hl 1 rfl) ?_
              refine mm_get8 cx hK hw tl_RX2_174 dX2_does_113 (fun z113 hz113 => ?_)
              refine ts_bipush hx hb dX2_does_116 (by decide) ?_
              refine ts_icmp_ne (tgt := 132) hx hb (by omega) dX2_does_118 (by decide) (fun c118 => ?_) (fun c118 => ?_)
              · skip
                refine lv_aload_n hx hb dX2_does_132 rfl (lv_at hl 1 rfl) ?_
                refine mm_get8 cx hK hw tl_RX2_174 dX2_does_133 (fun z133 hz133 => ?_)
                refine ts_bipush hx hb dX2_does_136 (by decide) ?_
                refine ts_icmp_ne (tgt := 152) hx hb (by omega) dX2_does_138 (by decide) (fun c138 => ?_) (fun c138 => ?_)
                · skip
                  refine lv_aload_n hx hb dX2_does_152 rfl (lv_at hl 1 rfl) ?_
                  refine mm_get8 cx hK hw tl_RX2_174 dX2_does_153 (fun z153 hz153 => ?_)
                  refine ts_bipush hx hb dX2_does_156 (by decide) ?_
                  refine ts_icmp_ne (tgt := 172) hx hb (by omega) dX2_does_158 (by decide) (fun c158 => ?_) (fun c158 => ?_)
                  · skip
                    refine lv_aload_n hx hb dX2_does_172 rfl (lv_at hl 1 rfl) ?_
                    refine mm_get8 cx hK hw tl_RX2_174 dX2_does_173 (fun z173 hz173 => ?_)
                    refine ts_bipush hx hb dX2_does_176 (by decide) ?_
                    refine ts_icmp_ne (tgt := 192) hx hb (by omega) dX2_does_178 (by decide) (fun c178 => ?_) (fun c178 => ?_)
                    · skip
                      refine lv_aload_n hx hb dX2_does_192 rfl (lv_at hl 1 rfl) ?_
                      refine mm_calli (rest := []) cx hK hA hw hl (c_X2_ends l g S hx0 hv0) tg_RX2_100 ⟨rfl, rfl⟩ 0 rfl (by decide +kernel) ⟨Nat.le_of_ble_eq_true rfl, Nat.le_of_ble_eq_true rfl⟩ ⟨Nat.zero_le _, Nat.zero_le _⟩ (Nat.le_of_ble_eq_true rfl) dX2_does_193 (rfl) (fun z193 g193 H locs hq193 hw => ?_)
                      have hve := (VS_nums (VS_end hv0)).2.1
                      have hO1 : (doO S lt nm).1 = (endA S).1 1 := by
                        rw [hdo]
                        unfold endO
                        rw [if_neg (by omega)]
                      have hO2 : (doO S lt nm).2 = endA S := by
                        rw [hdo]
                        unfold endO
                        rw [if_neg (by omega)]
                      refine lv_istore_n (lv' := [(2, .int (iN z193)), (1, .int (iN 0)), (0, .ref (ad 0))]) hx hb dX2_does_196 rfl hl (by decide) rfl (fun ls hl => ?_)
                      refine lv_iload_n hx hb dX2_does_197 rfl (lv_at hl 1 rfl) ?_
                      exact mm_ret cx hr hlocks hw (⟨Or.inr ⟨by omega, by rw [hO1]; omega⟩, by rw [hO2]; exact hq193.2.1, hq193.2.2⟩) dX2_does_198
                    · exfalso
                      omega
                  · exfalso
                    omega
                · exfalso
                  omega
              · exfalso
                omega
          · skip
            have hE : doO S lt nm = (-1000002, S) := by
              rw [hdo]
              unfold endO
              rw [if_pos (by omega)]
            refine ts_ldc (z := -1000002) hx hb cx.2.2.2.1 cx.2.2.2.2 tk_RX2_67 dX2_does_101 ?_
            refine lv_goto (tgt := 107) hx hb dX2_does_103 (by decide) ?_
            refine lv_istore_n (lv' := [(1, .int (iN ((-1000002)))), (0, .ref (ad 0))]) hx hb dX2_does_107 rfl hl (by decide) rfl (fun ls hl => ?_)
            refine lv_iload_n hx hb dX2_does_108 rfl (lv_at hl 0 rfl) ?_
            refine ts_if_ne (tgt := 197) hx hb (by omega) dX2_does_109 (by decide) (fun c109 => ?_) (fun c109 => ?_)
            · skip
              
              refine lv_iload_n hx hb dX2_does_197 rfl (lv_at hl 0 rfl) ?_
              exact mm_ret cx hr hlocks hw (⟨Or.inl ⟨by omega, by rw [hE], by rw [hE], rfl⟩, by rw [hE]; exact hx0, ME_rf _⟩) dX2_does_198
            · exfalso
              omega
        · skip
          have hdo : doO S lt nm = begO S nm := by
            unfold doO
            rw [if_neg (by omega), if_neg (by omega), if_neg (by omega), if_pos (by omega)]
          refine lv_aload_n hx hb dX2_does_69 rfl (lv_at hl 0 rfl) ?_
          refine mm_get9 cx hK hw tl_RX2_177 dX2_does_70 (fun z70 hz70 => ?_)
          refine ts_iconst hx hb dX2_does_73 ?_
          refine ts_iconst hx hb dX2_does_74 ?_
          refine ps_call (rest := []) cx hl (c_X2_in l z70 2 4 (by omega)) tg_RX2_48 ⟨rfl, rfl⟩ 3 rfl (by decide +kernel) ⟨Nat.le_of_ble_eq_true rfl, Nat.le_of_ble_eq_true rfl⟩ ⟨Nat.zero_le _, Nat.zero_le _⟩ (Nat.le_of_ble_eq_true rfl) dX2_does_75 (rfl) (fun z75 hz75 => ?_)
          refine ts_if_eq (tgt := 85) hx hb (by omega) dX2_does_78 (by decide) (fun c78 => ?_) (fun c78 => ?_)
          · skip
            have hE : doO S lt nm = (-1000001, S) := by
              rw [hdo]
              unfold begO
              rw [if_pos (by omega)]
            refine ts_ldc (z := -1000001) hx hb cx.2.2.2.1 cx.2.2.2.2 tk_RX2_63 dX2_does_85 ?_
            refine lv_goto (tgt := 107) hx hb dX2_does_87 (by decide) ?_
            refine lv_istore_n (lv' := [(1, .int (iN ((-1000001)))), (0, .ref (ad 0))]) hx hb dX2_does_107 rfl hl (by decide) rfl (fun ls hl => ?_)
            refine lv_iload_n hx hb dX2_does_108 rfl (lv_at hl 0 rfl) ?_
            refine ts_if_ne (tgt := 197) hx hb (by omega) dX2_does_109 (by decide) (fun c109 => ?_) (fun c109 => ?_)
            · skip
              
              refine lv_iload_n hx hb dX2_does_197 rfl (lv_at hl 0 rfl) ?_
              exact mm_ret cx hr hlocks hw (⟨Or.inl ⟨by omega, by rw [hE], by rw [hE], rfl⟩, by rw [hE]; exact hx0, ME_rf _⟩) dX2_does_198
            · exfalso
              omega
          · skip
            refine ts_iconst hx hb dX2_does_81 ?_
            refine lv_goto (tgt := 107) hx hb dX2_does_82 (by decide) ?_
            refine lv_istore_n (lv' := [(1, .int (iN 0)), (0, .ref (ad 0))]) hx hb dX2_does_107 rfl hl (by decide) rfl (fun ls hl => ?_)
            refine lv_iload_n hx hb dX2_does_108 rfl (lv_at hl 0 rfl) ?_
            refine ts_if_ne (tgt := 197) hx hb (by omega) dX2_does_109 (by decide) (fun c109 => ?_) (fun c109 => ?_)
            · exfalso
              omega
            · skip
              refine lv_aload_n hx hb dX2_does_112 rfl (lv_at hl 1 rfl) ?_
              refine mm_get8 cx hK hw tl_RX2_174 dX2_does_113 (fun z113 hz113 => ?_)
              refine ts_bipush hx hb dX2_does_116 (by decide) ?_
              refine ts_icmp_ne (tgt := 132) hx hb (by omega) dX2_does_118 (by decide) (fun c118 => ?_) (fun c118 => ?_)
              · skip
                refine lv_aload_n hx hb dX2_does_132 rfl (lv_at hl 1 rfl) ?_
                refine mm_get8 cx hK hw tl_RX2_174 dX2_does_133 (fun z133 hz133 => ?_)
                refine ts_bipush hx hb dX2_does_136 (by decide) ?_
                refine ts_icmp_ne (tgt := 152) hx hb (by omega) dX2_does_138 (by decide) (fun c138 => ?_) (fun c138 => ?_)
                · skip
                  refine lv_aload_n hx hb dX2_does_152 rfl (lv_at hl 1 rfl) ?_
                  refine mm_get8 cx hK hw tl_RX2_174 dX2_does_153 (fun z153 hz153 => ?_)
                  refine ts_bipush hx hb dX2_does_156 (by decide) ?_
                  refine ts_icmp_ne (tgt := 172) hx hb (by omega) dX2_does_158 (by decide) (fun c158 => ?_) (fun c158 => ?_)
                  · skip
                    refine lv_aload_n hx hb dX2_does_172 rfl (lv_at hl 1 rfl) ?_
                    refine mm_get8 cx hK hw tl_RX2_174 dX2_does_173 (fun z173 hz173 => ?_)
                    refine ts_bipush hx hb dX2_does_176 (by decide) ?_
                    refine ts_icmp_ne (tgt := 192) hx hb (by omega) dX2_does_178 (by decide) (fun c178 => ?_) (fun c178 => ?_)
                    · exfalso
                      omega
                    · skip
                      refine lv_aload_n hx hb dX2_does_181 rfl (lv_at hl 1 rfl) ?_
                      refine lv_aload_n hx hb dX2_does_182 rfl (lv_at hl 1 rfl) ?_
                      refine mm_get9 cx hK hw tl_RX2_177 dX2_does_183 (fun z183 hz183 => ?_)
                      have hnm2 : z183 = nm := by omega
                      refine mm_calli (rest := []) cx hK hA hw hl (c_X2_begins l z183 g S.1 s9 (by omega)) tg_RX2_22 ⟨rfl, rfl⟩ 1 rfl (by decide +kernel) ⟨Nat.le_of_ble_eq_true rfl, Nat.le_of_ble_eq_true rfl⟩ ⟨Nat.zero_le _, Nat.zero_le _⟩ (Nat.le_of_ble_eq_true rfl) dX2_does_186 (rfl) (fun z186 g186 H locs hq186 hw => ?_)
                      rw [hnm2] at hq186
                      have hO1 : (doO S lt nm).1 = 60 - 7 * nm := by
                        rw [hdo]
                        unfold begO
                        rw [if_neg (by omega)]
                      have hO2 : (doO S lt nm).2 = begA S nm := by
                        rw [hdo]
                        unfold begO
                        rw [if_neg (by omega)]
                      refine lv_goto (tgt := 196) hx hb dX2_does_189 (by decide) ?_
                      
                      refine lv_istore_n (lv' := [(2, .int (iN z186)), (1, .int (iN 0)), (0, .ref (ad 0))]) hx hb dX2_does_196 rfl hl (by decide) rfl (fun ls hl => ?_)
                      refine lv_iload_n hx hb dX2_does_197 rfl (lv_at hl 1 rfl) ?_
                      exact mm_ret cx hr hlocks hw (⟨Or.inr ⟨by omega, by rw [hO1]; omega⟩, by rw [hO2]; exact ⟨hq186.2.1, hq186.2.2.1⟩, hq186.2.2.2⟩) dX2_does_198
                  · exfalso
                    omega
                · exfalso
                  omega
              · exfalso
                omega
      · skip
        have hdo : doO S lt nm = scrO S nm := by
          unfold doO
          rw [if_neg (by omega), if_neg (by omega), if_pos (by omega)]
        refine lv_aload_n hx hb dX2_does_49 rfl (lv_at hl 0 rfl) ?_
        refine lv_aload_n hx hb dX2_does_50 rfl (lv_at hl 0 rfl) ?_
        refine mm_get9 cx hK hw tl_RX2_177 dX2_does_51 (fun z51 hz51 => ?_)
        refine mm_callr (rest := []) cx hK hA hw hl (c_X2_scrapFault l z51 g S hx0 hv0 (by omega)) tg_RX2_115 ⟨rfl, rfl⟩ 1 rfl (by decide +kernel) ⟨Nat.le_of_ble_eq_true rfl, Nat.le_of_ble_eq_true rfl⟩ ⟨Nat.zero_le _, Nat.zero_le _⟩ (Nat.le_of_ble_eq_true rfl) dX2_does_54 (rfl) (fun z54 hz54 => ?_)
        have hzl : -1000002 ≤ z54 := by
          rcases hz54 with w | w
          · have w2 := (opLo hv0).2.2 z51
            rw [w.2] at w2
            exact w2
          · omega
        have hnm : z51 = nm := by omega
        rw [hnm] at hz54
        refine lv_goto (tgt := 107) hx hb dX2_does_57 (by decide) ?_
        refine lv_istore_n (lv' := [(1, .int (iN z54)), (0, .ref (ad 0))]) hx hb dX2_does_107 rfl hl (by decide) rfl (fun ls hl => ?_)
        refine lv_iload_n hx hb dX2_does_108 rfl (lv_at hl 0 rfl) ?_
        refine ts_if_ne (tgt := 197) hx hb (by omega) dX2_does_109 (by decide) (fun c109 => ?_) (fun c109 => ?_)
        · skip
          have hE : doO S lt nm = (z54, S) := by
            rw [hdo]
            rcases hz54 with w | w
            · exact w.2
            · omega
          refine lv_iload_n hx hb dX2_does_197 rfl (lv_at hl 0 rfl) ?_
          exact mm_ret cx hr hlocks hw (⟨Or.inl ⟨by omega, by rw [hE], by rw [hE], rfl⟩, by rw [hE]; exact hx0, ME_rf _⟩) dX2_does_198
        · skip
          refine lv_aload_n hx hb dX2_does_112 rfl (lv_at hl 1 rfl) ?_
          refine mm_get8 cx hK hw tl_RX2_174 dX2_does_113 (fun z113 hz113 => ?_)
          refine ts_bipush hx hb dX2_does_116 (by decide) ?_
          refine ts_icmp_ne (tgt := 132) hx hb (by omega) dX2_does_118 (by decide) (fun c118 => ?_) (fun c118 => ?_)
          · skip
            refine lv_aload_n hx hb dX2_does_132 rfl (lv_at hl 1 rfl) ?_
            refine mm_get8 cx hK hw tl_RX2_174 dX2_does_133 (fun z133 hz133 => ?_)
            refine ts_bipush hx hb dX2_does_136 (by decide) ?_
            refine ts_icmp_ne (tgt := 152) hx hb (by omega) dX2_does_138 (by decide) (fun c138 => ?_) (fun c138 => ?_)
            · skip
              refine lv_aload_n hx hb dX2_does_152 rfl (lv_at hl 1 rfl) ?_
              refine mm_get8 cx hK hw tl_RX2_174 dX2_does_153 (fun z153 hz153 => ?_)
              refine ts_bipush hx hb dX2_does_156 (by decide) ?_
              refine ts_icmp_ne (tgt := 172) hx hb (by omega) dX2_does_158 (by decide) (fun c158 => ?_) (fun c158 => ?_)
              · exfalso
                omega
              · skip
                refine lv_aload_n hx hb dX2_does_161 rfl (lv_at hl 1 rfl) ?_
                refine lv_aload_n hx hb dX2_does_162 rfl (lv_at hl 1 rfl) ?_
                refine mm_get9 cx hK hw tl_RX2_177 dX2_does_163 (fun z163 hz163 => ?_)
                have hnm2 : z163 = nm := by omega
                refine mm_calli (rest := []) cx hK hA hw hl (c_X2_scraps l z163 z163.toNat g S hx0 hv0 (by omega)) tg_RX2_118 ⟨rfl, rfl⟩ 1 rfl (by decide +kernel) ⟨Nat.le_of_ble_eq_true rfl, Nat.le_of_ble_eq_true rfl⟩ ⟨Nat.zero_le _, Nat.zero_le _⟩ (Nat.le_of_ble_eq_true rfl) dX2_does_166 (rfl) (fun z166 g166 H locs hq166 hw => ?_)
                rw [hnm2] at hq166
                have hhb := VS_hand hv0 (k := nm.toNat) (by omega)
                have hO1 : (doO S lt nm).1 = (hand S).getD nm.toNat 0 := by
                  rw [hdo]
                  unfold scrO
                  rw [if_neg (by omega), if_neg (by omega)]
                have hO2 : (doO S lt nm).2 = scrA S nm.toNat := by
                  rw [hdo]
                  unfold scrO
                  rw [if_neg (by omega), if_neg (by omega)]
                refine lv_goto (tgt := 196) hx hb dX2_does_169 (by decide) ?_
                
                refine lv_istore_n (lv' := [(2, .int (iN z166)), (1, .int (iN z54)), (0, .ref (ad 0))]) hx hb dX2_does_196 rfl hl (by decide) rfl (fun ls hl => ?_)
                refine lv_iload_n hx hb dX2_does_197 rfl (lv_at hl 1 rfl) ?_
                exact mm_ret cx hr hlocks hw (⟨Or.inr ⟨by omega, by rw [hO1]; omega⟩, by rw [hO2]; exact hq166.2.1, hq166.2.2⟩) dX2_does_198
            · exfalso
              omega
          · exfalso
            omega
    · skip
      have hdo : doO S lt nm = buyO S nm := by
        unfold doO
        rw [if_neg (by omega), if_pos (by omega)]
      refine lv_aload_n hx hb dX2_does_29 rfl (lv_at hl 0 rfl) ?_
      refine lv_aload_n hx hb dX2_does_30 rfl (lv_at hl 0 rfl) ?_
      refine mm_get9 cx hK hw tl_RX2_177 dX2_does_31 (fun z31 hz31 => ?_)
      refine mm_callr (rest := []) cx hK hA hw hl (c_X2_buyFault l z31 g S hx0 hv0 (by omega)) tg_RX2_112 ⟨rfl, rfl⟩ 1 rfl (by decide +kernel) ⟨Nat.le_of_ble_eq_true rfl, Nat.le_of_ble_eq_true rfl⟩ ⟨Nat.zero_le _, Nat.zero_le _⟩ (Nat.le_of_ble_eq_true rfl) dX2_does_34 (rfl) (fun z34 hz34 => ?_)
      have hzl : -1000002 ≤ z34 := by
        rcases hz34 with w | w
        · have w2 := (opLo hv0).2.1 z31
          rw [w.2] at w2
          exact w2
        · omega
      have hnm : z31 = nm := by omega
      rw [hnm] at hz34
      refine lv_goto (tgt := 107) hx hb dX2_does_37 (by decide) ?_
      refine lv_istore_n (lv' := [(1, .int (iN z34)), (0, .ref (ad 0))]) hx hb dX2_does_107 rfl hl (by decide) rfl (fun ls hl => ?_)
      refine lv_iload_n hx hb dX2_does_108 rfl (lv_at hl 0 rfl) ?_
      refine ts_if_ne (tgt := 197) hx hb (by omega) dX2_does_109 (by decide) (fun c109 => ?_) (fun c109 => ?_)
      · skip
        have hE : doO S lt nm = (z34, S) := by
          rw [hdo]
          rcases hz34 with w | w
          · exact w.2
          · omega
        refine lv_iload_n hx hb dX2_does_197 rfl (lv_at hl 0 rfl) ?_
        exact mm_ret cx hr hlocks hw (⟨Or.inl ⟨by omega, by rw [hE], by rw [hE], rfl⟩, by rw [hE]; exact hx0, ME_rf _⟩) dX2_does_198
      · skip
        refine lv_aload_n hx hb dX2_does_112 rfl (lv_at hl 1 rfl) ?_
        refine mm_get8 cx hK hw tl_RX2_174 dX2_does_113 (fun z113 hz113 => ?_)
        refine ts_bipush hx hb dX2_does_116 (by decide) ?_
        refine ts_icmp_ne (tgt := 132) hx hb (by omega) dX2_does_118 (by decide) (fun c118 => ?_) (fun c118 => ?_)
        · skip
          refine lv_aload_n hx hb dX2_does_132 rfl (lv_at hl 1 rfl) ?_
          refine mm_get8 cx hK hw tl_RX2_174 dX2_does_133 (fun z133 hz133 => ?_)
          refine ts_bipush hx hb dX2_does_136 (by decide) ?_
          refine ts_icmp_ne (tgt := 152) hx hb (by omega) dX2_does_138 (by decide) (fun c138 => ?_) (fun c138 => ?_)
          · exfalso
            omega
          · skip
            refine lv_aload_n hx hb dX2_does_141 rfl (lv_at hl 1 rfl) ?_
            refine lv_aload_n hx hb dX2_does_142 rfl (lv_at hl 1 rfl) ?_
            refine mm_get9 cx hK hw tl_RX2_177 dX2_does_143 (fun z143 hz143 => ?_)
            have hnm2 : z143 = nm := by omega
            refine mm_calli (rest := []) cx hK hA hw hl (c_X2_buys l z143 z143.toNat g S hx0 hv0 (by omega) (by rw [hnm2]; omega)) tg_RX2_97 ⟨rfl, rfl⟩ 1 rfl (by decide +kernel) ⟨Nat.le_of_ble_eq_true rfl, Nat.le_of_ble_eq_true rfl⟩ ⟨Nat.zero_le _, Nat.zero_le _⟩ (Nat.le_of_ble_eq_true rfl) dX2_does_146 (rfl) (fun z146 g146 H locs hq146 hw => ?_)
            rw [hnm2] at hq146
            have hw0 : why S.1 nm.toNat = 0 := by omega
            have hw1 := (why_0 hw0).2.1
            have hpb := VS_pb hv0 nm.toNat (by omega)
            have hO1 : (doO S lt nm).1 = S.1 (10 + nm.toNat) - 1 := by
              rw [hdo]
              unfold buyO
              rw [if_neg (by omega), if_neg (by omega)]
            have hO2 : (doO S lt nm).2 = buyA S nm.toNat := by
              rw [hdo]
              unfold buyO
              rw [if_neg (by omega), if_neg (by omega)]
            refine lv_goto (tgt := 196) hx hb dX2_does_149 (by decide) ?_
            
            refine lv_istore_n (lv' := [(2, .int (iN z146)), (1, .int (iN z34)), (0, .ref (ad 0))]) hx hb dX2_does_196 rfl hl (by decide) rfl (fun ls hl => ?_)
            refine lv_iload_n hx hb dX2_does_197 rfl (lv_at hl 1 rfl) ?_
            exact mm_ret cx hr hlocks hw (⟨Or.inr ⟨by omega, by rw [hO1]; omega⟩, by rw [hO2]; exact hq146.2.1, hq146.2.2⟩) dX2_does_198
        · exfalso
          omega
  · skip
    have hdo : doO S lt nm = playO S nm := by
      unfold doO
      rw [if_pos (by omega)]
    refine lv_aload_n hx hb dX2_does_9 rfl (lv_at hl 0 rfl) ?_
    refine lv_aload_n hx hb dX2_does_10 rfl (lv_at hl 0 rfl) ?_
    refine mm_get9 cx hK hw tl_RX2_177 dX2_does_11 (fun z11 hz11 => ?_)
    refine mm_callr (rest := []) cx hK hA hw hl (c_X2_playFault l z11 g S hx0 hv0 (by omega)) tg_RX2_109 ⟨rfl, rfl⟩ 1 rfl (by decide +kernel) ⟨Nat.le_of_ble_eq_true rfl, Nat.le_of_ble_eq_true rfl⟩ ⟨Nat.zero_le _, Nat.zero_le _⟩ (Nat.le_of_ble_eq_true rfl) dX2_does_14 (rfl) (fun z14 hz14 => ?_)
    have hzl : -1000002 ≤ z14 := by
      rcases hz14 with w | w
      · have w2 := (opLo hv0).1 z11
        rw [w.2] at w2
        exact w2
      · omega
    have hnm : z11 = nm := by omega
    rw [hnm] at hz14
    refine lv_goto (tgt := 107) hx hb dX2_does_17 (by decide) ?_
    refine lv_istore_n (lv' := [(1, .int (iN z14)), (0, .ref (ad 0))]) hx hb dX2_does_107 rfl hl (by decide) rfl (fun ls hl => ?_)
    refine lv_iload_n hx hb dX2_does_108 rfl (lv_at hl 0 rfl) ?_
    refine ts_if_ne (tgt := 197) hx hb (by omega) dX2_does_109 (by decide) (fun c109 => ?_) (fun c109 => ?_)
    · skip
      have hE : doO S lt nm = (z14, S) := by
        rw [hdo]
        rcases hz14 with w | w
        · exact w.2
        · omega
      refine lv_iload_n hx hb dX2_does_197 rfl (lv_at hl 0 rfl) ?_
      exact mm_ret cx hr hlocks hw (⟨Or.inl ⟨by omega, by rw [hE], by rw [hE], rfl⟩, by rw [hE]; exact hx0, ME_rf _⟩) dX2_does_198
    · skip
      refine lv_aload_n hx hb dX2_does_112 rfl (lv_at hl 1 rfl) ?_
      refine mm_get8 cx hK hw tl_RX2_174 dX2_does_113 (fun z113 hz113 => ?_)
      refine ts_bipush hx hb dX2_does_116 (by decide) ?_
      refine ts_icmp_ne (tgt := 132) hx hb (by omega) dX2_does_118 (by decide) (fun c118 => ?_) (fun c118 => ?_)
      · exfalso
        omega
      · skip
        refine lv_aload_n hx hb dX2_does_121 rfl (lv_at hl 1 rfl) ?_
        refine lv_aload_n hx hb dX2_does_122 rfl (lv_at hl 1 rfl) ?_
        refine mm_get9 cx hK hw tl_RX2_177 dX2_does_123 (fun z123 hz123 => ?_)
        have hnm2 : z123 = nm := by omega
        refine mm_calli (rest := []) cx hK hA hw hl (c_X2_plays l z123 z123.toNat g S hx0 hv0 (by omega)) tg_RX2_91 ⟨rfl, rfl⟩ 1 rfl (by decide +kernel) ⟨Nat.le_of_ble_eq_true rfl, Nat.le_of_ble_eq_true rfl⟩ ⟨Nat.zero_le _, Nat.zero_le _⟩ (Nat.le_of_ble_eq_true rfl) dX2_does_126 (rfl) (fun z126 g126 H locs hq126 hw => ?_)
        rw [hnm2] at hq126
        have hhb := VS_hand hv0 (k := nm.toNat) (by omega)
        have hO1 : (doO S lt nm).1 = (hand S).getD nm.toNat 0 := by
          rw [hdo]
          unfold playO
          rw [if_neg (by omega), if_neg (by omega)]
        have hO2 : (doO S lt nm).2 = playA S nm.toNat := by
          rw [hdo]
          unfold playO
          rw [if_neg (by omega), if_neg (by omega)]
        refine lv_goto (tgt := 196) hx hb dX2_does_129 (by decide) ?_
        
        refine lv_istore_n (lv' := [(2, .int (iN z126)), (1, .int (iN z14)), (0, .ref (ad 0))]) hx hb dX2_does_196 rfl hl (by decide) rfl (fun ls hl => ?_)
        refine lv_iload_n hx hb dX2_does_197 rfl (lv_at hl 1 rfl) ?_
        exact mm_ret cx hr hlocks hw (⟨Or.inr ⟨by omega, by rw [hO1]; omega⟩, by rw [hO2]; exact hq126.2.1, hq126.2.2⟩) dX2_does_198
