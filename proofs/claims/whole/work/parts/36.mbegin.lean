def zSC : SCT := fun _ => 0
def sB (np s9 : Int) : SCT := uf (uf (uf (uf zSC 9 s9) 0 np) 3 1) 4 1
def sP (np s9 : Int) (i : Int) : SCT := fun j => if 10 ≤ j ∧ (j : Int) < 10 + i then tv 8 (j - 10) else sB np s9 j
def sDl (np s9 p k : Int) : SCT := fun j => if j = 10 then 60 - (7 * p + (k - k / 3)) else if j = 13 then 24 - (3 * p + k / 3) else sP np s9 10 j
def bL (np : Int) (i : Nat) : LLT := fun p w => if p < i then beL np p w else []
theorem sDl_next (np s9 p : Int) (j : Nat) : sDl np s9 p 10 j = sDl np s9 (p + 1) 0 j := by
  unfold sDl
  by_cases h : j = 10
  · rw [if_pos h, if_pos h]; omega
  · rw [if_neg h, if_neg h]
    by_cases h3 : j = 13
    · rw [if_pos h3, if_pos h3]; omega
    · rw [if_neg h3, if_neg h3]
theorem sDl_end {np s9 : Int} {sc : SCT} (h9 : s9 = sc 9) (j : Nat) (hj : j < 30) : sDl np s9 np 0 j = beS sc np j := by
  unfold sDl beS sP sB zSC uf
  by_cases h : j = 10
  · subst h; simp
  · by_cases h3 : j = 13
    · subst h3; simp
    · rw [if_neg h, if_neg h3]
      by_cases h20 : 10 ≤ j ∧ j < 20
      · rw [if_pos (by omega), if_neg (by omega), if_neg (by omega), if_neg (by omega), if_neg (by omega), if_neg h, if_neg h3, if_pos h20]
      · rw [if_neg (show ¬ (10 ≤ j ∧ (j : Int) < 10 + 10) by omega), if_neg h, if_neg h3, if_neg h20]
        (repeat' split) <;> first | rfl | omega | (dsimp only; omega)
theorem bL_put {np : Int} {i : Nat} (k : Nat) (hk : k < 10) : ul (ul (bL np i) i 0 (deck10.take k)) i 0 (ul (bL np i) i 0 (deck10.take k) i 0 ++ [deck10.getD k 0]) = ul (bL np i) i 0 (deck10.take (k + 1)) := by
  rw [ul_ul, ul_s]
  congr 1
  have : ∀ k : Fin 10, deck10.take k.1 ++ [deck10.getD k.1 0] = deck10.take (k.1 + 1) := by decide
  exact this ⟨k, hk⟩
theorem bL_next {np : Int} {i : Nat} (hi : (i : Int) < np) (p w : Nat) : dr 5 (ul (bL np i) i 0 (deck10.take 10)) i p w = bL np (i + 1) p w := by
  have e0 : (ul (bL np i) i 0 (deck10.take 10)) i 0 = deck10 := by rw [ul_s]; rfl
  have e1 : (ul (bL np i) i 0 (deck10.take 10)) i 1 = [] := by
    rw [ul_w _ _ (by decide)]
    unfold bL
    rw [if_neg (by omega)]
  rw [dr_new e0 e1]
  unfold bL
  by_cases hp : p = i
  · subst hp
    rw [if_pos rfl, if_pos (show p < p + 1 by omega)]
    unfold beL
    rw [if_pos hi]
    by_cases w0 : w = 0
    · rw [if_pos w0, if_pos w0]
    · rw [if_neg w0, if_neg w0]
      by_cases w1 : w = 1
      · rw [if_pos w1, if_pos w1]
      · rw [if_neg w1, if_neg w1, ul_w _ _ w0, if_neg (by omega)]
  · rw [if_neg hp, ul_p _ _ hp]
    by_cases h2 : p < i
    · rw [if_pos h2, if_pos (by omega)]
    · rw [if_neg h2, if_neg (by omega)]
theorem bL_lens {np : Int} (hnp : np ≤ 4) {i : Nat} (hi : (i : Int) < np) : lenS (ul (bL np i) i 0 (deck10.take 10)) ≤ 164 := by
  have h4 : i < 4 := by omega
  have e : ∀ p w : Nat, ((bL np i p w).length : Int) ≤ 5 := by
    intro p w
    unfold bL beL
    split
    · split
      · split
        · decide
        · split <;> decide
      · decide
    · decide
  rw [lenS_ul _ _ h4 (by omega)]
  have h1 : lenS (bL np i) ≤ 16 * 5 := sumN_le (n := 16) (fun q _ => e _ _)
  have h2 : ((deck10.take 10).length : Int) = 10 := rfl
  omega
set_option maxHeartbeats 4000000 in
set_option maxRecDepth 100000 in
theorem c_X2_begins (l : Launch) (np : Int) (g : GS) (sc : SCT) (h9 : g 0 9 = sc 9) (hnp : 2 ≤ np ∧ np ≤ 4) : mmMi l yX2_begins (wU yX2_begins cX2_begins 6 (some .int)) ({ frames := 4, cells := 0, slots := 0, locals := 93 } : Room) [.int (iN np)] g (fun z g1 => z = 60 - 7 * np ∧ SM g1 (beS sc np) ∧ QM g1 (beL np) ∧ ME g1 g) := by
  refine mmMi_of (by decide) (Nat.le_of_ble_eq_true rfl) ?_
  intro p e s m args below meth c D cI tb ad A ls cx hr hlocks hK hA hw hl
  have hx := cx.1
  have hb := cx.2.1
  have hl : lv_has ls 6 [(0, .ref (ad 0)), (1, .int (iN np))] := hl
  refine lv_aload_n hx hb dX2_begins_0 rfl (lv_at hl 0 rfl) ?_
  refine mm_get0 cx hK hw tl_RX2_7 dX2_begins_1 ?_
  refine ts_bipush hx hb dX2_begins_4 (by decide) ?_
  refine mm_ld0 cx hK hw (9) (by omega) dX2_begins_6 (fun z6 hz6 => ?_)
  refine lv_istore_n (lv' := [(2, .int (iN z6)), (0, .ref (ad 0)), (1, .int (iN np))]) hx hb dX2_begins_7 rfl hl (by decide) rfl (fun ls hl => ?_)
  refine ts_iconst hx hb dX2_begins_8 ?_
  refine lv_istore_n (lv' := [(3, .int (iN 0)), (2, .int (iN z6)), (0, .ref (ad 0)), (1, .int (iN np))]) hx hb dX2_begins_9 rfl hl (by decide) rfl (fun ls hl => ?_)
  have cut10 : ∀ (fu : Nat) (i : Int) (ga : GS) (hmu : (2670 - i).toNat < fu) (hi : 0 ≤ i ∧ i ≤ 2670) (ha : ∀ j : Nat, (j : Int) < i → ga 0 j = 0) (hea : ME ga g) (H : Heap) (locs : List Loc) (hw : mmB D A s cI ad ga H locs) (ls : Array Slot) (hl : lv_has ls 6 [(0, .ref (ad 0)), (1, .int (iN np)), (2, .int (iN z6)), (3, .int (iN i))]), W p l e ({ frames := 4, cells := 0, slots := 0, locals := 93 } : Room) s m args below meth c H locs 0 0 (mmQi D cI ad A below args s (fun z g1 => z = 60 - 7 * np ∧ SM g1 (beS sc np) ∧ QM g1 (beL np) ∧ ME g1 g)) (F0 m 10 ls []) := by
    intro fu
    induction fu with
    | zero => intro i ga hmu; exact absurd hmu (Nat.not_lt_zero _)
    | succ fu ih10 =>
      intro i ga hmu hi ha hea H locs hw ls hl
      refine lv_iload_n hx hb dX2_begins_10 rfl (lv_at hl 3 rfl) ?_
      refine ts_sipush hx hb dX2_begins_11 (by decide) ?_
      refine ts_icmp_ge (tgt := 30) hx hb (by omega) dX2_begins_14 (by decide) (fun c14 => ?_) (fun c14 => ?_)
      · skip
        refine lv_aload_n hx hb dX2_begins_30 rfl (lv_at hl 0 rfl) ?_
        refine mm_get0 cx hK hw tl_RX2_7 dX2_begins_31 ?_
        refine ts_bipush hx hb dX2_begins_34 (by decide) ?_
        refine lv_iload_n hx hb dX2_begins_36 rfl (lv_at hl 2 rfl) ?_
        refine mm_st0 cx hK hw (9) (by omega) dX2_begins_37 (fun g37 H locs hg37 hw => ?_)
        refine lv_aload_n hx hb dX2_begins_38 rfl (lv_at hl 0 rfl) ?_
        refine mm_get0 cx hK hw tl_RX2_7 dX2_begins_39 ?_
        refine ts_iconst hx hb dX2_begins_42 ?_
        refine lv_iload_n hx hb dX2_begins_43 rfl (lv_at hl 1 rfl) ?_
        refine mm_st0 cx hK hw (0) (by omega) dX2_begins_44 (fun g44 H locs hg44 hw => ?_)
        refine lv_aload_n hx hb dX2_begins_45 rfl (lv_at hl 0 rfl) ?_
        refine mm_get0 cx hK hw tl_RX2_7 dX2_begins_46 ?_
        refine ts_iconst hx hb dX2_begins_49 ?_
        refine ts_iconst hx hb dX2_begins_50 ?_
        refine mm_st0 cx hK hw (3) (by omega) dX2_begins_51 (fun g51 H locs hg51 hw => ?_)
        refine lv_aload_n hx hb dX2_begins_52 rfl (lv_at hl 0 rfl) ?_
        refine mm_get0 cx hK hw tl_RX2_7 dX2_begins_53 ?_
        refine ts_iconst hx hb dX2_begins_56 ?_
        refine ts_iconst hx hb dX2_begins_57 ?_
        refine mm_st0 cx hK hw (4) (by omega) dX2_begins_58 (fun g58 H locs hg58 hw => ?_)
        have hs30 : SM ga zSC := fun j hj => ha j (by omega)
        have hq30 : QM ga (bL np 0) := fun p' w' hp' hw' => by
          have e : bL np 0 p' w' = [] := if_neg (by omega)
          rw [e]
          exact ⟨ha _ (by omega), by decide, fun k hk => by simp at hk⟩
        have hs58 : SM g58 (sP np z6 0) := by
          rw [hg58, hg51, hg44, hg37]
          refine SM_congr (SM_set (SM_set (SM_set (SM_set hs30)))) (fun j hj => ?_)
          unfold sP sB
          rw [if_neg (by omega)]
        have hq58 : QM g58 (bL np 0) := by
          rw [hg58, hg51, hg44, hg37]
          exact QM_set (QM_set (QM_set (QM_set hq30 (by omega)) (by omega)) (by omega)) (by omega)
        have he58 : ME g58 g := by
          rw [hg58, hg51, hg44, hg37]
          exact ME_tr (ME_set _ _ _) (ME_tr (ME_set _ _ _) (ME_tr (ME_set _ _ _) (ME_tr (ME_set _ _ _) hea)))
        refine ts_iconst hx hb dX2_begins_59 ?_
        refine lv_istore_n (lv' := [(3, .int (iN 0)), (0, .ref (ad 0)), (1, .int (iN np)), (2, .int (iN z6))]) hx hb dX2_begins_60 rfl hl (by decide) rfl (fun ls hl => ?_)
        have cut61 : ∀ (fu : Nat) (i : Int) (gp : GS) (hmu : (10 - i).toNat < fu) (hi : 0 ≤ i ∧ i ≤ 10) (hsp : SM gp (sP np z6 i)) (hqp : QM gp (bL np 0)) (hep : ME gp g) (H : Heap) (locs : List Loc) (hw : mmB D A s cI ad gp H locs) (ls : Array Slot) (hl : lv_has ls 6 [(0, .ref (ad 0)), (1, .int (iN np)), (3, .int (iN i))]), W p l e ({ frames := 4, cells := 0, slots := 0, locals := 93 } : Room) s m args below meth c H locs 0 0 (mmQi D cI ad A below args s (fun z g1 => z = 60 - 7 * np ∧ SM g1 (beS sc np) ∧ QM g1 (beL np) ∧ ME g1 g)) (F0 m 61 ls []) := by
          intro fu
          induction fu with
          | zero => intro i gp hmu; exact absurd hmu (Nat.not_lt_zero _)
          | succ fu ih61 =>
            intro i gp hmu hi hsp hqp hep H locs hw ls hl
            refine lv_iload_n hx hb dX2_begins_61 rfl (lv_at hl 2 rfl) ?_
            refine ts_bipush hx hb dX2_begins_62 (by decide) ?_
            refine ts_icmp_ge (tgt := 86) hx hb (by omega) dX2_begins_64 (by decide) (fun c64 => ?_) (fun c64 => ?_)
            · skip
              have hs86 : SM gp (sDl np z6 0 0) := SM_congr hsp (fun j hj => by
                unfold sDl
                rw [show i = 10 by omega]
                by_cases h10 : j = 10
                · rw [if_pos h10, h10]; rfl
                · rw [if_neg h10]
                  by_cases h13 : j = 13
                  · rw [if_pos h13, h13]; rfl
                  · rw [if_neg h13])
              refine ts_iconst hx hb dX2_begins_86 ?_
              refine lv_istore_n (lv' := [(3, .int (iN 0)), (0, .ref (ad 0)), (1, .int (iN np))]) hx hb dX2_begins_87 rfl hl (by decide) rfl (fun ls hl => ?_)
              have cut88 : ∀ (fu : Nat) (i : Int) (gd : GS) (hmu : (np - i).toNat < fu) (hi : 0 ≤ i ∧ i ≤ np) (hsd : SM gd (sDl np z6 i 0)) (hqd : QM gd (bL np i.toNat)) (hed : ME gd g) (H : Heap) (locs : List Loc) (hw : mmB D A s cI ad gd H locs) (ls : Array Slot) (hl : lv_has ls 6 [(0, .ref (ad 0)), (1, .int (iN np)), (3, .int (iN i))]), W p l e ({ frames := 4, cells := 0, slots := 0, locals := 93 } : Room) s m args below meth c H locs 0 0 (mmQi D cI ad A below args s (fun z g1 => z = 60 - 7 * np ∧ SM g1 (beS sc np) ∧ QM g1 (beL np) ∧ ME g1 g)) (F0 m 88 ls []) := by
                intro fu
                induction fu with
                | zero => intro i gd hmu; exact absurd hmu (Nat.not_lt_zero _)
                | succ fu ih88 =>
                  intro i gd hmu hi hsd hqd hed H locs hw ls hl
                  refine lv_iload_n hx hb dX2_begins_88 rfl (lv_at hl 2 rfl) ?_
                  refine lv_iload_n hx hb dX2_begins_89 rfl (lv_at hl 1 rfl) ?_
                  refine ts_icmp_ge (tgt := 158) hx hb (by omega) dX2_begins_90 (by decide) (fun c90 => ?_) (fun c90 => ?_)
                  · skip
                    have hsE : SM gd (beS sc np) := by
                      rw [show i = np by omega] at hsd
                      exact SM_congr hsd (fun j hj => sDl_end (by rw [hz6]; exact h9) j hj)
                    have hqE : QM gd (beL np) := QM_congr hqd (fun p' w' _ _ => by
                      unfold bL
                      by_cases h : p' < i.toNat
                      · rw [if_pos h]
                      · rw [if_neg h]
                        unfold beL
                        rw [if_neg (by omega)])
                    refine lv_aload_n hx hb dX2_begins_158 rfl (lv_at hl 0 rfl) ?_
                    refine mm_get0 cx hK hw tl_RX2_7 dX2_begins_159 ?_
                    refine ts_bipush hx hb dX2_begins_162 (by decide) ?_
                    refine mm_ld0 cx hK hw (10) (by omega) dX2_begins_164 (fun z164 hz164 => ?_)
                    exact mm_ret cx hr hlocks hw (⟨by rw [hz164, hsE 10 (by omega)]; rfl, hsE, hqE, hed⟩) dX2_begins_165
                  · skip
                    have hqd0 : QM gd (ul (bL np i.toNat) i.toNat 0 (deck10.take (0 : Int).toNat)) := QM_congr hqd (fun p' w' _ _ => by
                      show bL np i.toNat p' w' = ul (bL np i.toNat) i.toNat 0 [] p' w'
                      unfold ul
                      split
                      · rename_i q
                        unfold bL
                        rw [if_neg (by omega)]
                      · rfl)
                    refine ts_iconst hx hb dX2_begins_93 ?_
                    refine lv_istore (lv' := [(4, .int (iN 0)), (0, .ref (ad 0)), (1, .int (iN np)), (3, .int (iN i))]) hx hb dX2_begins_94 hl (by decide) rfl (fun ls hl => ?_)
                    have cut96 : ∀ (fu : Nat) (k : Int) (gb : GS) (hmu : (10 - k).toNat < fu) (hk : 0 ≤ k ∧ k ≤ 10) (hsb : SM gb (sDl np z6 i k)) (hqb : QM gb (ul (bL np i.toNat) i.toNat 0 (deck10.take k.toNat))) (heb : ME gb g) (H : Heap) (locs : List Loc) (hw : mmB D A s cI ad gb H locs) (ls : Array Slot) (hl : lv_has ls 6 [(0, .ref (ad 0)), (1, .int (iN np)), (3, .int (iN i)), (4, .int (iN k))]), W p l e ({ frames := 4, cells := 0, slots := 0, locals := 93 } : Room) s m args below meth c H locs 0 0 (mmQi D cI ad A below args s (fun z g1 => z = 60 - 7 * np ∧ SM g1 (beS sc np) ∧ QM g1 (beL np) ∧ ME g1 g)) (F0 m 96 ls []) := by
                      intro fu
                      induction fu with
                      | zero => intro k gb hmu; exact absurd hmu (Nat.not_lt_zero _)
                      | succ fu ih96 =>
                        intro k gb hmu hk hsb hqb heb H locs hw ls hl
                        refine lv_iload hx hb dX2_begins_96 (lv_at hl 3 rfl) ?_
                        refine ts_bipush hx hb dX2_begins_98 (by decide) ?_
                        refine ts_icmp_ge (tgt := 146) hx hb (by omega) dX2_begins_100 (by decide) (fun c100 => ?_) (fun c100 => ?_)
                        · skip
                          rw [show k.toNat = 10 by omega] at hqb
                          rw [show k = 10 by omega] at hsb
                          refine lv_aload_n hx hb dX2_begins_146 rfl (lv_at hl 0 rfl) ?_
                          refine lv_iload_n hx hb dX2_begins_147 rfl (lv_at hl 2 rfl) ?_
                          refine ts_iconst hx hb dX2_begins_148 ?_
                          refine mm_callv (rest := []) cx hK hA hw hl (c_X2_draw l i 5 i.toNat 5 (by omega) gb (ul (bL np i.toNat) i.toNat 0 (deck10.take 10)) hqb (bL_lens (by omega) (by omega))) tg_RX2_55 ⟨rfl, rfl⟩ 2 rfl (by decide +kernel) ⟨Nat.le_of_ble_eq_true rfl, Nat.le_of_ble_eq_true rfl⟩ ⟨Nat.zero_le _, Nat.zero_le _⟩ (Nat.le_of_ble_eq_true rfl) dX2_begins_149 (rfl) (fun g149 H locs hq149 hw => ?_)
                          obtain ⟨z152, hz152⟩ : ∃ z : Int, z = i + 1 := ⟨_, rfl⟩
                          refine lv_iinc (v := iN z152) (lv' := [(3, .int (iN z152)), (0, .ref (ad 0)), (1, .int (iN np)), (4, .int (iN k))]) hx hb dX2_begins_152 hl (k := 2) rfl (by rw [hz152]; exact iN_add _ _) (by decide) rfl (fun ls hl => ?_)
                          have hsdn : SM g149 (sDl np z6 z152 0) := by
                            rw [hz152]
                            exact SM_congr (SM_MR hsb hq149.2) (fun j hj => sDl_next _ _ _ j)
                          have hqdn : QM g149 (bL np z152.toNat) := by
                            rw [show z152.toNat = i.toNat + 1 by omega]
                            exact QM_congr hq149.1 (fun p' w' _ _ => bL_next (by omega) p' w')
                          have hedn : ME g149 g := ME_tr (ME_MR hq149.2) heb
                          refine lv_goto (tgt := 88) hx hb dX2_begins_155 (by decide) ?_
                          exact ih88 (z152) (g149) (by omega) (by omega) (hsdn) (hqdn) (hedn) _ _ hw _ (lv_sub hl [1, 2, 0] rfl)
                        · skip
                          refine lv_iload hx hb dX2_begins_103 (lv_at hl 3 rfl) ?_
                          refine ts_iconst hx hb dX2_begins_105 ?_
                          refine ts_irem hx hb (by omega) dX2_begins_106 (fun z106 hz106 => ?_)
                          have cut116 : ∀ (z116 : Int) (h116 : z116 = if k % 3 = 2 then 3 else 0) (H : Heap) (locs : List Loc) (hw : mmB D A s cI ad gb H locs) (ls : Array Slot) (hl : lv_has ls 6 [(0, .ref (ad 0)), (1, .int (iN np)), (3, .int (iN i)), (4, .int (iN k))]), W p l e ({ frames := 4, cells := 0, slots := 0, locals := 93 } : Room) s m args below meth c H locs 0 0 (mmQi D cI ad A below args s (fun z g1 => z = 60 - 7 * np ∧ SM g1 (beS sc np) ∧ QM g1 (beL np) ∧ ME g1 g)) (F0 m 116 ls [.int (iN z116)]) := by
                            intro z116 h116 H locs hw ls hl
                            refine lv_istore (lv' := [(5, .int (iN z116)), (0, .ref (ad 0)), (1, .int (iN np)), (3, .int (iN i)), (4, .int (iN k))]) hx hb dX2_begins_116 hl (by decide) rfl (fun ls hl => ?_)
                            refine lv_aload_n hx hb dX2_begins_118 rfl (lv_at hl 1 rfl) ?_
                            refine mm_get0 cx hK hw tl_RX2_7 dX2_begins_119 ?_
                            refine ts_bipush hx hb dX2_begins_122 (by decide) ?_
                            refine lv_iload hx hb dX2_begins_124 (lv_at hl 0 rfl) ?_
                            refine ts_iadd hx hb dX2_begins_126 (fun z126 hz126 => ?_)
                            refine lv_dup2_11 hx hb dX2_begins_127 rfl rfl ?_
                            refine mm_ld0 cx hK hw (10 + z116.toNat) (by omega) dX2_begins_128 (fun z128 hz128 => ?_)
                            rw [hsb (10 + z116.toNat) (by split at h116 <;> omega)] at hz128
                            refine ts_iconst hx hb dX2_begins_129 ?_
                            refine ts_isub hx hb dX2_begins_130 (fun z130 hz130 => ?_)
                            refine mm_st0 cx hK hw (10 + z116.toNat) (by omega) dX2_begins_131 (fun g131 H locs hg131 hw => ?_)
                            have hs131 : SM g131 (sDl np z6 i (k + 1)) := by
                              rw [hg131]
                              refine SM_congr (SM_set hsb) (fun j hj => ?_)
                              unfold uf
                              by_cases e : j = 10 + z116.toNat
                              · rw [if_pos e, hz130, hz128, ← e]
                                unfold sDl
                                split at h116
                                · rw [if_neg (by omega), if_pos (by omega), if_neg (by omega), if_pos (by omega)]; omega
                                · rw [if_pos (by omega), if_pos (by omega)]; omega
                              · rw [if_neg e]
                                unfold sDl
                                by_cases h10 : j = 10
                                · rw [if_pos h10, if_pos h10]
                                  split at h116 <;> omega
                                · rw [if_neg h10, if_neg h10]
                                  by_cases h13 : j = 13
                                  · rw [if_pos h13, if_pos h13]
                                    split at h116 <;> omega
                                  · rw [if_neg h13, if_neg h13]
                            have hq131 : QM g131 (ul (bL np i.toNat) i.toNat 0 (deck10.take k.toNat)) := by
                              rw [hg131]
                              exact QM_set hqb (by split at h116 <;> omega)
                            refine lv_aload_n hx hb dX2_begins_132 rfl (lv_at hl 1 rfl) ?_
                            refine lv_iload_n hx hb dX2_begins_133 rfl (lv_at hl 3 rfl) ?_
                            refine ts_iconst hx hb dX2_begins_134 ?_
                            refine lv_iload hx hb dX2_begins_135 (lv_at hl 0 rfl) ?_
                            refine mm_callv (rest := []) cx hK hA hw hl (c_X2_put l i 0 i.toNat 0 (by omega) (z116) g131 (ul (bL np i.toNat) i.toNat 0 (deck10.take k.toNat)) hq131 (by rw [ul_s, List.length_take]; show min _ 10 < 164; omega)) tg_RX2_30 ⟨rfl, rfl⟩ 3 rfl (by decide +kernel) ⟨Nat.le_of_ble_eq_true rfl, Nat.le_of_ble_eq_true rfl⟩ ⟨Nat.zero_le _, Nat.zero_le _⟩ (Nat.le_of_ble_eq_true rfl) dX2_begins_137 (rfl) (fun g137 H locs hq137 hw => ?_)
                            obtain ⟨z140, hz140⟩ : ∃ z : Int, z = k + 1 := ⟨_, rfl⟩
                            refine lv_iinc (v := iN z140) (lv' := [(4, .int (iN z140)), (5, .int (iN z116)), (0, .ref (ad 0)), (1, .int (iN np)), (3, .int (iN i))]) hx hb dX2_begins_140 hl (k := 4) rfl (by rw [hz140]; exact iN_add _ _) (by decide) rfl (fun ls hl => ?_)
                            have hdk : deck10.getD k.toNat 0 = z116 := by
                              have t : ∀ k : Fin 10, deck10.getD k.1 0 = if k.1 % 3 = 2 then 3 else 0 := by decide
                              have := t ⟨k.toNat, by omega⟩
                              simp only at this
                              rw [this, h116]
                              by_cases hq : k % 3 = 2
                              · rw [if_pos hq, if_pos (by omega)]
                              · rw [if_neg hq, if_neg (by omega)]
                            have hsbn : SM g137 (sDl np z6 i z140) := by rw [hz140]; exact SM_MR hs131 hq137.2
                            have hqbn : QM g137 (ul (bL np i.toNat) i.toNat 0 (deck10.take z140.toNat)) := by
                              have q := hq137.1
                              rw [← hdk, bL_put k.toNat (by omega)] at q
                              rw [show z140.toNat = k.toNat + 1 by omega]
                              exact q
                            have hebn : ME g137 g := ME_tr (ME_MR hq137.2) (by rw [hg131]; exact ME_tr (ME_set _ _ _) heb)
                            refine lv_goto (tgt := 96) hx hb dX2_begins_143 (by decide) ?_
                            exact ih96 (z140) (g137) (by omega) (by omega) (hsbn) (hqbn) (hebn) _ _ hw _ (lv_sub hl [2, 3, 4, 0] rfl)
                          refine ts_iconst hx hb dX2_begins_107 ?_
                          refine ts_icmp_ne (tgt := 115) hx hb (by omega) dX2_begins_108 (by decide) (fun c108 => ?_) (fun c108 => ?_)
                          · skip
                            refine ts_iconst hx hb dX2_begins_115 ?_
                            exact cut116 (0) (by split <;> omega) _ _ hw _ (lv_sub hl [0, 1, 2, 3] rfl)
                          · skip
                            refine ts_iconst hx hb dX2_begins_111 ?_
                            refine lv_goto (tgt := 116) hx hb dX2_begins_112 (by decide) ?_
                            exact cut116 (3) (by split <;> omega) _ _ hw _ (lv_sub hl [0, 1, 2, 3] rfl)
                    exact cut96 _ (0) (gd) (Nat.lt_succ_self _) (by omega) (hsd) (hqd0) (hed) _ _ hw _ (lv_sub hl [1, 2, 3, 0] rfl)
              exact cut88 _ (0) (gp) (Nat.lt_succ_self _) (by omega) (hs86) (hqp) (hep) _ _ hw _ (lv_sub hl [1, 2, 0] rfl)
            · skip
              refine lv_aload_n hx hb dX2_begins_67 rfl (lv_at hl 0 rfl) ?_
              refine mm_get0 cx hK hw tl_RX2_7 dX2_begins_68 ?_
              refine ts_bipush hx hb dX2_begins_71 (by decide) ?_
              refine lv_iload_n hx hb dX2_begins_73 rfl (lv_at hl 2 rfl) ?_
              refine ts_iadd hx hb dX2_begins_74 (fun z74 hz74 => ?_)
              refine lv_iload_n hx hb dX2_begins_75 rfl (lv_at hl 2 rfl) ?_
              refine ps_call (rest := [.int (iN z74), .ref (ad 1)]) cx hl (c_X2_inPile l i i.toNat (by omega)) tg_RX2_52 ⟨rfl, rfl⟩ 1 rfl (by decide +kernel) ⟨Nat.le_of_ble_eq_true rfl, Nat.le_of_ble_eq_true rfl⟩ ⟨Nat.zero_le _, Nat.zero_le _⟩ (Nat.le_of_ble_eq_true rfl) dX2_begins_76 (rfl) (fun z76 hz76 => ?_)
              refine mm_st0 cx hK hw (10 + i.toNat) (by omega) dX2_begins_79 (fun g79 H locs hg79 hw => ?_)
              obtain ⟨z80, hz80⟩ : ∃ z : Int, z = i + 1 := ⟨_, rfl⟩
              refine lv_iinc (v := iN z80) (lv' := [(3, .int (iN z80)), (0, .ref (ad 0)), (1, .int (iN np))]) hx hb dX2_begins_80 hl (k := 2) rfl (by rw [hz80]; exact iN_add _ _) (by decide) rfl (fun ls hl => ?_)
              have hspn : SM g79 (sP np z6 z80) := by
                rw [hg79]
                refine SM_congr (SM_set hsp) (fun j hj => ?_)
                unfold uf sP
                by_cases e : j = 10 + i.toNat
                · rw [if_pos e, if_pos (by omega), hz76]
                  congr 1
                  omega
                · rw [if_neg e]
                  by_cases e2 : 10 ≤ j ∧ (j : Int) < 10 + i
                  · rw [if_pos e2, if_pos (by omega)]
                  · rw [if_neg e2, if_neg (by omega)]
              refine lv_goto (tgt := 61) hx hb dX2_begins_83 (by decide) ?_
              exact ih61 (z80) (g79) (by omega) (by omega) (hspn) (by rw [hg79]; exact QM_set hqp (by omega)) (by rw [hg79]; exact ME_tr (ME_set _ _ _) hep) _ _ hw _ (lv_sub hl [1, 2, 0] rfl)
        exact cut61 _ (0) (g58) (Nat.lt_succ_self _) (by omega) (hs58) (hq58) (he58) _ _ hw _ (lv_sub hl [1, 2, 0] rfl)
      · skip
        refine lv_aload_n hx hb dX2_begins_17 rfl (lv_at hl 0 rfl) ?_
        refine mm_get0 cx hK hw tl_RX2_7 dX2_begins_18 ?_
        refine lv_iload_n hx hb dX2_begins_21 rfl (lv_at hl 3 rfl) ?_
        refine ts_iconst hx hb dX2_begins_22 ?_
        refine mm_st0 cx hK hw (i.toNat) (by omega) dX2_begins_23 (fun g23 H locs hg23 hw => ?_)
        obtain ⟨z24, hz24⟩ : ∃ z : Int, z = i + 1 := ⟨_, rfl⟩
        refine lv_iinc (v := iN z24) (lv' := [(3, .int (iN z24)), (0, .ref (ad 0)), (1, .int (iN np)), (2, .int (iN z6))]) hx hb dX2_begins_24 hl (k := 3) rfl (by rw [hz24]; exact iN_add _ _) (by decide) rfl (fun ls hl => ?_)
        have han : ∀ j : Nat, (j : Int) < z24 → g23 0 j = 0 := by
          intro j hj
          rw [hg23, u2_r]
          by_cases e : j = i.toNat
          · rw [if_pos e]
          · rw [if_neg e]; exact ha j (by omega)
        refine lv_goto (tgt := 10) hx hb dX2_begins_27 (by decide) ?_
        exact ih10 (z24) (g23) (by omega) (by omega) (han) (by rw [hg23]; exact ME_tr (ME_set _ _ _) hea) _ _ hw _ (lv_sub hl [1, 2, 3, 0] rfl)
  exact cut10 _ (0) (g) (Nat.lt_succ_self _) (by omega) (fun j hj => by omega) (ME_rf g) _ _ hw _ (lv_sub hl [2, 3, 1, 0] rfl)
