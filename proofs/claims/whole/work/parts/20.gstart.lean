set_option maxHeartbeats 4000000 in
set_option maxRecDepth 100000 in
theorem c_J7_fill_53178 (l : Launch) (n : Nat) (v : Int) (F : Nat → Int) (hn : n ≤ 1000000) : awMv l yJ7_fill_53178 (wU yJ7_fill_53178 cJ7_fill_53178 4 none) ({ frames := 0, cells := 0, slots := 0, locals := 0 } : Room) (fun a => [.ref (a), .int (iN v)]) n F (fun F1 => ∀ j : Nat, j < n → F1 j = v) := by
  refine awMv_of (by decide) (fun _ => Nat.le_of_ble_eq_true rfl) ?_
  intro p e s m args below meth c D cI a A ls cx hr hlocks hK hA hw hl
  have hx := cx.1
  have hb := cx.2.1
  have hl : lv_has ls 4 [(0, .ref (a)), (1, .int (iN v))] := hl
  refine ts_iconst hx hb dJ7_fill_53178_0 ?_
  refine lv_istore_n (lv' := [(2, .int (iN 0)), (0, .ref (a)), (1, .int (iN v))]) hx hb dJ7_fill_53178_1 rfl hl (by decide) rfl (fun ls hl => ?_)
  refine lv_aload_n hx hb dJ7_fill_53178_2 rfl (lv_at hl 1 rfl) ?_
  refine aw_len cx hK hw dJ7_fill_53178_3 ?_
  refine lv_istore_n (lv' := [(3, .int (iN ((n : Int)))), (2, .int (iN 0)), (0, .ref (a)), (1, .int (iN v))]) hx hb dJ7_fill_53178_4 rfl hl (by decide) rfl (fun ls hl => ?_)
  have cut5 : ∀ (fu : Nat) (i : Int) (Fa : Nat → Int) (hmu : ((n : Int) - i).toNat < fu) (hi : 0 ≤ i ∧ i ≤ n) (ha : ∀ j : Nat, (j : Int) < i → Fa j = v) (H : Heap) (locs : List Loc) (hw : awB D A s cI a n Fa H locs) (ls : Array Slot) (hl : lv_has ls 4 [(0, .ref (a)), (1, .int (iN v)), (2, .int (iN i)), (3, .int (iN ((n : Int))))]), W p l e ({ frames := 0, cells := 0, slots := 0, locals := 0 } : Room) s m args below meth c H locs 0 0 (awQv D cI a n A below args s (fun F1 => ∀ j : Nat, j < n → F1 j = v)) (F0 m 5 ls []) := by
    intro fu
    induction fu with
    | zero => intro i Fa hmu; exact absurd hmu (Nat.not_lt_zero _)
    | succ fu ih5 =>
      intro i Fa hmu hi ha H locs hw ls hl
      refine lv_iload_n hx hb dJ7_fill_53178_5 rfl (lv_at hl 2 rfl) ?_
      refine lv_iload_n hx hb dJ7_fill_53178_6 rfl (lv_at hl 3 rfl) ?_
      refine ts_icmp_ge (tgt := 20) hx hb (by omega) dJ7_fill_53178_7 (by decide) (fun c7 => ?_) (fun c7 => ?_)
      · skip
        exact aw_vret cx hr hlocks hw (fun j hj => ha j (by omega)) dJ7_fill_53178_20
      · skip
        refine lv_aload_n hx hb dJ7_fill_53178_10 rfl (lv_at hl 0 rfl) ?_
        refine lv_iload_n hx hb dJ7_fill_53178_11 rfl (lv_at hl 2 rfl) ?_
        refine lv_iload_n hx hb dJ7_fill_53178_12 rfl (lv_at hl 1 rfl) ?_
        refine aw_st cx hK hw ((i).toNat) (by omega) dJ7_fill_53178_13 (fun g13 H locs hg13 hw => ?_)
        obtain ⟨z14, hz14⟩ : ∃ z : Int, z = i + 1 := ⟨_, rfl⟩
        refine lv_iinc (v := iN z14) (lv' := [(2, .int (iN z14)), (0, .ref (a)), (1, .int (iN v)), (3, .int (iN ((n : Int))))]) hx hb dJ7_fill_53178_14 hl (k := 2) rfl (by rw [hz14]; exact iN_add _ _) (by decide) rfl (fun ls hl => ?_)
        have hnw : ∀ j : Nat, (j : Int) < z14 → g13 j = v := by
          intro j hj
          rw [hg13]
          by_cases hji : j = i.toNat
          · rw [hji, uf_s]
          · rw [uf_n _ _ hji]
            exact ha j (by omega)
        refine lv_goto (tgt := 5) hx hb dJ7_fill_53178_17 (by decide) ?_
        exact ih5 (z14) (g13) (by omega) (by omega) (hnw) _ _ hw _ (lv_sub hl [1, 2, 0, 3] rfl)
  exact cut5 _ (0) (F) (Nat.lt_succ_self _) (by omega) (fun j hj => by omega) _ _ hw _ (lv_sub hl [2, 3, 1, 0] rfl)
def stD (np : Int) (q : Nat) : Int := if ((q / 4 : Nat) : Int) < np then (if q % 4 = 0 then 10 * ((q / 4 : Nat) : Int) else 10 * ((q / 4 : Nat) : Int) + 10) else 10 * np
def deck10 : List Int := [0, 0, 3, 0, 0, 3, 0, 0, 3, 0]
def dealL (np : Int) : LLT := fun p w => if (p : Int) < np ∧ w = 0 then deck10 else []
theorem tv9_k (k : Nat) (hk : k < 10) : tv 9 k = if k % 3 = 2 then 3 else 0 := by
  have : ∀ k : Fin 10, tv 9 k.1 = if k.1 % 3 = 2 then 3 else 0 := by decide +kernel
  exact this ⟨k, hk⟩
theorem deal_PX {g : GS} {np : Int} (hnp : 2 ≤ np ∧ np ≤ 4) (h1 : ∀ q : Nat, q ≤ 16 → g 1 q = stD np q) (h0 : ∀ j : Nat, (j : Int) < 10 * np → g 0 j = tv 9 (j % 10)) : PX g (lx (dealL np)) := by
  have hc : np = 2 ∨ np = 3 ∨ np = 4 := by omega
  refine ⟨?_, fun r hr => ?_, fun r hr k hk => ?_, ?_⟩
  · rw [h1 0 (by omega)]
    rcases hc with rfl | rfl | rfl <;> rfl
  · rw [h1 r (by omega), h1 (r + 1) (by omega)]
    have t2 : ∀ r : Fin 16, stD 2 (r.1 + 1) = stD 2 r.1 + ((lx (dealL 2) r.1).length : Int) := by decide +kernel
    have t3 : ∀ r : Fin 16, stD 3 (r.1 + 1) = stD 3 r.1 + ((lx (dealL 3) r.1).length : Int) := by decide +kernel
    have t4 : ∀ r : Fin 16, stD 4 (r.1 + 1) = stD 4 r.1 + ((lx (dealL 4) r.1).length : Int) := by decide +kernel
    rcases hc with rfl | rfl | rfl
    · exact t2 ⟨r, hr⟩
    · exact t3 ⟨r, hr⟩
    · exact t4 ⟨r, hr⟩
  · rw [h1 r (by omega)]
    have hk10 : k < 10 := by
      refine Nat.lt_of_lt_of_le hk ?_
      unfold lx dealL
      split
      · exact Nat.le_refl 10
      · exact Nat.zero_le _
    have t2 : ∀ r : Fin 16, ∀ k : Fin 10, k.1 < (lx (dealL 2) r.1).length → (((stD 2 r.1).toNat + k.1 : Nat) : Int) < 10 * 2 ∧ tv 9 (((stD 2 r.1).toNat + k.1) % 10) = (lx (dealL 2) r.1).getD k.1 0 := by decide +kernel
    have t3 : ∀ r : Fin 16, ∀ k : Fin 10, k.1 < (lx (dealL 3) r.1).length → (((stD 3 r.1).toNat + k.1 : Nat) : Int) < 10 * 3 ∧ tv 9 (((stD 3 r.1).toNat + k.1) % 10) = (lx (dealL 3) r.1).getD k.1 0 := by decide +kernel
    have t4 : ∀ r : Fin 16, ∀ k : Fin 10, k.1 < (lx (dealL 4) r.1).length → (((stD 4 r.1).toNat + k.1 : Nat) : Int) < 10 * 4 ∧ tv 9 (((stD 4 r.1).toNat + k.1) % 10) = (lx (dealL 4) r.1).getD k.1 0 := by decide +kernel
    rcases hc with rfl | rfl | rfl
    · have := t2 ⟨r, hr⟩ ⟨k, hk10⟩ hk
      rw [h0 _ this.1]; exact this.2
    · have := t3 ⟨r, hr⟩ ⟨k, hk10⟩ hk
      rw [h0 _ this.1]; exact this.2
    · have := t4 ⟨r, hr⟩ ⟨k, hk10⟩ hk
      rw [h0 _ this.1]; exact this.2
  · rw [h1 16 (by omega)]
    rcases hc with rfl | rfl | rfl <;> decide
theorem PX_congr {g : GS} {LX LY : Nat → List Int} (h : PX g LX) (e : ∀ r, r < 16 → LX r = LY r) : PX g LY := ⟨h.1, fun r hr => by rw [← e r hr]; exact h.2.1 r hr, fun r hr k hk => by rw [← e r hr] at hk ⊢; exact h.2.2.1 r hr k hk, h.2.2.2⟩
theorem dr_cons {L : LLT} {p : Nat} {a : Int} {t : List Int} (h : L p 0 = a :: t) (n : Nat) : dr (n + 1) L p = dr n (ul (ul L p 0 t) p 1 (L p 1 ++ [a])) p := by
  show dr n (dr1 L p) p = _
  have hne : L p 0 ≠ [] := by rw [h]; exact List.cons_ne_nil _ _
  have e : dr1 L p = mvL L p 0 0 1 := by
    unfold dr1
    rw [flip_ne hne, if_neg hne]
  rw [e]
  unfold mvL
  rw [h]
  rfl
/-- the first five cards of a new deck -/
theorem dr_new {L : LLT} {p : Nat} (h0 : L p 0 = deck10) (h1 : L p 1 = []) (p' w : Nat) : dr 5 L p p' w = if p' = p then (if w = 0 then [3, 0, 0, 3, 0] else if w = 1 then [0, 0, 3, 0, 0] else L p w) else L p' w := by
  rw [dr_cons (a := 0) (t := [0, 3, 0, 0, 3, 0, 0, 3, 0]) h0, dr_cons (a := 0) (t := [3, 0, 0, 3, 0, 0, 3, 0]) (by rw [ul_w _ _ (by decide), ul_s]), dr_cons (a := 3) (t := [0, 0, 3, 0, 0, 3, 0]) (by rw [ul_w _ _ (by decide), ul_s]), dr_cons (a := 0) (t := [0, 3, 0, 0, 3, 0]) (by rw [ul_w _ _ (by decide), ul_s]), dr_cons (a := 0) (t := [3, 0, 0, 3, 0]) (by rw [ul_w _ _ (by decide), ul_s])]
  show (ul _ p 1 _) p' w = _
  by_cases hp : p' = p
  · subst hp
    rw [if_pos rfl]
    by_cases hw1 : w = 1
    · subst hw1
      rw [ul_s, if_neg (by decide), if_pos rfl, ul_s, ul_s, ul_s, ul_s, h1]
      rfl
    · rw [ul_w _ _ hw1]
      by_cases hw0 : w = 0
      · subst hw0
        rw [ul_s, if_pos rfl]
      · rw [ul_w _ _ hw0, ul_w _ _ hw1, ul_w _ _ hw0, ul_w _ _ hw1, ul_w _ _ hw0, ul_w _ _ hw1, ul_w _ _ hw0, ul_w _ _ hw1, ul_w _ _ hw0, if_neg hw0, if_neg hw1]
  · rw [if_neg hp]
    simp only [ul_p _ _ hp]
def drwL (np : Int) (i : Nat) : LLT := fun p w => if p < i then beL np p w else dealL np p w
theorem drw_next {np : Int} {i : Nat} (hi : (i : Int) < np) (p w : Nat) : dr 5 (drwL np i) i p w = drwL np (i + 1) p w := by
  have e0 : drwL np i i 0 = deck10 := by
    unfold drwL dealL
    rw [if_neg (by omega), if_pos ⟨hi, rfl⟩]
  have e1 : drwL np i i 1 = [] := by
    unfold drwL dealL
    rw [if_neg (by omega), if_neg (fun q => by omega)]
  rw [dr_new e0 e1]
  unfold drwL
  by_cases hp : p = i
  · subst hp
    rw [if_pos rfl, if_pos (show p < p + 1 by omega), if_neg (show ¬ p < p by omega)]
    unfold beL
    rw [if_pos hi]
    by_cases w0 : w = 0
    · rw [if_pos w0, if_pos w0]
    · rw [if_neg w0, if_neg w0]
      by_cases w1 : w = 1
      · rw [if_pos w1, if_pos w1]
      · rw [if_neg w1, if_neg w1]
        unfold dealL
        rw [if_neg (fun q => w0 q.2)]
  · rw [if_neg hp]
    by_cases h2 : p < i
    · rw [if_pos h2, if_pos (by omega)]
    · rw [if_neg h2, if_neg (by omega)]
set_option maxHeartbeats 4000000 in
set_option maxRecDepth 100000 in
theorem c_X0_dealDecks (l : Launch) (g : GS) (hn : 2 ≤ g 4 4 ∧ g 4 4 ≤ 4) (hp8 : ∀ k : Nat, k < 10 → g 2 k = tv 8 k) : gmMv l yX0_dealDecks (wU yX0_dealDecks cX0_dealDecks 4 none) ({ frames := 0, cells := 0, slots := 0, locals := 0 } : Room) [] g (fun g1 => PX g1 (lx (dealL (g 4 4))) ∧ (∀ k : Nat, k < 10 → g1 2 k = tv 8 k - (if k = 0 then 7 * g 4 4 else if k = 3 then 3 * g 4 4 else 0)) ∧ g1 3 = g 3 ∧ g1 4 = g 4) := by
  refine gmMv_of (by decide) (Nat.le_of_ble_eq_true rfl) ?_
  intro p e s m args below meth c D cI tb ad A ls cx hr hlocks hK hA hT hw hl
  have hx := cx.1
  have hb := cx.2.1
  have hl : lv_has ls 4 [(0, .ref (ad 0))] := hl
  obtain ⟨np, hnp⟩ : ∃ np, np = g 4 4 := ⟨_, rfl⟩
  rw [← hnp] at hn
  refine ts_iconst hx hb dX0_dealDecks_0 ?_
  refine lv_istore_n (lv' := [(1, .int (iN 0)), (0, .ref (ad 0))]) hx hb dX0_dealDecks_1 rfl hl (by decide) rfl (fun ls hl => ?_)
  refine ts_iconst hx hb dX0_dealDecks_2 ?_
  refine lv_istore_n (lv' := [(2, .int (iN 0)), (1, .int (iN 0)), (0, .ref (ad 0))]) hx hb dX0_dealDecks_3 rfl hl (by decide) rfl (fun ls hl => ?_)
  have cut4 : ∀ (fu : Nat) (i : Int) (d : Int) (ga : GS) (hmu : (4 - i).toNat < fu) (hi : 0 ≤ i ∧ i ≤ 4) (hd : (i ≤ np ∧ d = 10 * i) ∨ (np < i ∧ d = 10 * np)) (hst : ∀ q : Nat, (q : Int) < 4 * i → ga 1 q = stD np q) (hcd : ∀ j : Nat, (j : Int) < d → ga 0 j = tv 9 (j % 10)) (hpi : ∀ k : Nat, k < 10 → ga 2 k = tv 8 k - (if k = 0 then 7 * (d / 10) else if k = 3 then 3 * (d / 10) else 0)) (hr34 : ga 3 = g 3 ∧ ga 4 = g 4) (H : Heap) (locs : List Loc) (hw : gmB D A s cI ad ga H locs) (ls : Array Slot) (hl : lv_has ls 4 [(0, .ref (ad 0)), (1, .int (iN d)), (2, .int (iN i))]), W p l e ({ frames := 0, cells := 0, slots := 0, locals := 0 } : Room) s m args below meth c H locs 0 0 (gmQv D cI ad A below args s (fun g1 => PX g1 (lx (dealL (g 4 4))) ∧ (∀ k : Nat, k < 10 → g1 2 k = tv 8 k - (if k = 0 then 7 * g 4 4 else if k = 3 then 3 * g 4 4 else 0)) ∧ g1 3 = g 3 ∧ g1 4 = g 4)) (F0 m 4 ls []) := by
    intro fu
    induction fu with
    | zero => intro i d ga hmu; exact absurd hmu (Nat.not_lt_zero _)
    | succ fu ih4 =>
      intro i d ga hmu hi hd hst hcd hpi hr34 H locs hw ls hl
      refine lv_iload_n hx hb dX0_dealDecks_4 rfl (lv_at hl 2 rfl) ?_
      refine ts_iconst hx hb dX0_dealDecks_5 ?_
      refine ts_icmp_ge (tgt := 109) hx hb (by omega) dX0_dealDecks_6 (by decide) (fun c6 => ?_) (fun c6 => ?_)
      · skip
        refine lv_aload_n hx hb dX0_dealDecks_109 rfl (lv_at hl 0 rfl) ?_
        refine gm_get1 cx hK hw tl_RX0_15 dX0_dealDecks_110 ?_
        refine ts_bipush hx hb dX0_dealDecks_113 (by decide) ?_
        refine lv_iload_n hx hb dX0_dealDecks_115 rfl (lv_at hl 1 rfl) ?_
        refine gm_st1 cx hK hw (16) (by omega) dX0_dealDecks_116 (fun g116 H locs hg116 hw => ?_)
        have hPD : PX g116 (lx (dealL np)) := by
          refine deal_PX hn (fun q hq => ?_) (fun j hj => ?_)
          · rw [hg116, u2_r]
            by_cases q16 : q = 16
            · rw [if_pos q16, q16]
              have : stD np 16 = 10 * np := by
                unfold stD
                rw [if_neg (by omega)]
              omega
            · rw [if_neg q16]
              exact hst q (by omega)
          · rw [hg116, u2_row _ (by decide)]
            exact hcd j (by omega)
        have hpe : ∀ k : Nat, k < 10 → g116 2 k = tv 8 k - (if k = 0 then 7 * np else if k = 3 then 3 * np else 0) := by
          intro k hk
          rw [hg116, u2_row _ (by decide), hpi k hk, show d / 10 = np by omega]
        exact gm_vret cx hr hlocks hw (⟨by rw [← hnp]; exact hPD, by rw [← hnp]; exact hpe, by rw [hg116, u2_row _ (by decide)]; exact hr34.1, by rw [hg116, u2_row _ (by decide)]; exact hr34.2⟩) dX0_dealDecks_117
      · skip
        refine lv_aload_n hx hb dX0_dealDecks_9 rfl (lv_at hl 0 rfl) ?_
        refine gm_get1 cx hK hw tl_RX0_15 dX0_dealDecks_10 ?_
        refine lv_iload_n hx hb dX0_dealDecks_13 rfl (lv_at hl 2 rfl) ?_
        refine ts_iconst hx hb dX0_dealDecks_14 ?_
        refine ts_imul hx hb dX0_dealDecks_15 (fun z15 hz15 => ?_)
        refine ts_iconst hx hb dX0_dealDecks_16 ?_
        refine ts_iadd hx hb dX0_dealDecks_17 (fun z17 hz17 => ?_)
        refine lv_iload_n hx hb dX0_dealDecks_18 rfl (lv_at hl 1 rfl) ?_
        refine gm_st1 cx hK hw ((4 * i).toNat) (by omega) dX0_dealDecks_19 (fun g19 H locs hg19 hw => ?_)
        refine ts_iconst hx hb dX0_dealDecks_20 ?_
        refine lv_istore_n (lv' := [(3, .int (iN 0)), (0, .ref (ad 0)), (1, .int (iN d)), (2, .int (iN i))]) hx hb dX0_dealDecks_21 rfl hl (by decide) rfl (fun ls hl => ?_)
        have cut70 : ∀ (d2 : Int) (gb : GS) (hdj : (i < np ∧ d2 = 10 * i + 10) ∨ (np ≤ i ∧ d2 = 10 * np)) (hst2 : ∀ q : Nat, (q : Int) < 4 * i + 1 → gb 1 q = stD np q) (hcd2 : ∀ j : Nat, (j : Int) < d2 → gb 0 j = tv 9 (j % 10)) (hpi2 : ∀ k : Nat, k < 10 → gb 2 k = tv 8 k - (if k = 0 then 7 * (d2 / 10) else if k = 3 then 3 * (d2 / 10) else 0)) (hrb : gb 3 = g 3 ∧ gb 4 = g 4) (H : Heap) (locs : List Loc) (hw : gmB D A s cI ad gb H locs) (ls : Array Slot) (hl : lv_has ls 4 [(0, .ref (ad 0)), (1, .int (iN d2)), (2, .int (iN i))]), W p l e ({ frames := 0, cells := 0, slots := 0, locals := 0 } : Room) s m args below meth c H locs 0 0 (gmQv D cI ad A below args s (fun g1 => PX g1 (lx (dealL (g 4 4))) ∧ (∀ k : Nat, k < 10 → g1 2 k = tv 8 k - (if k = 0 then 7 * g 4 4 else if k = 3 then 3 * g 4 4 else 0)) ∧ g1 3 = g 3 ∧ g1 4 = g 4)) (F0 m 70 ls []) := by
          intro d2 gb hdj hst2 hcd2 hpi2 hrb H locs hw ls hl
          refine lv_aload_n hx hb dX0_dealDecks_70 rfl (lv_at hl 0 rfl) ?_
          refine gm_get1 cx hK hw tl_RX0_15 dX0_dealDecks_71 ?_
          refine lv_iload_n hx hb dX0_dealDecks_74 rfl (lv_at hl 2 rfl) ?_
          refine ts_iconst hx hb dX0_dealDecks_75 ?_
          refine ts_imul hx hb dX0_dealDecks_76 (fun z76 hz76 => ?_)
          refine ts_iconst hx hb dX0_dealDecks_77 ?_
          refine ts_iadd hx hb dX0_dealDecks_78 (fun z78 hz78 => ?_)
          refine lv_iload_n hx hb dX0_dealDecks_79 rfl (lv_at hl 1 rfl) ?_
          refine gm_st1 cx hK hw ((4 * i + 1).toNat) (by omega) dX0_dealDecks_80 (fun g80 H locs hg80 hw => ?_)
          refine lv_aload_n hx hb dX0_dealDecks_81 rfl (lv_at hl 0 rfl) ?_
          refine gm_get1 cx hK hw tl_RX0_15 dX0_dealDecks_82 ?_
          refine lv_iload_n hx hb dX0_dealDecks_85 rfl (lv_at hl 2 rfl) ?_
          refine ts_iconst hx hb dX0_dealDecks_86 ?_
          refine ts_imul hx hb dX0_dealDecks_87 (fun z87 hz87 => ?_)
          refine ts_iconst hx hb dX0_dealDecks_88 ?_
          refine ts_iadd hx hb dX0_dealDecks_89 (fun z89 hz89 => ?_)
          refine lv_iload_n hx hb dX0_dealDecks_90 rfl (lv_at hl 1 rfl) ?_
          refine gm_st1 cx hK hw ((4 * i + 2).toNat) (by omega) dX0_dealDecks_91 (fun g91 H locs hg91 hw => ?_)
          refine lv_aload_n hx hb dX0_dealDecks_92 rfl (lv_at hl 0 rfl) ?_
          refine gm_get1 cx hK hw tl_RX0_15 dX0_dealDecks_93 ?_
          refine lv_iload_n hx hb dX0_dealDecks_96 rfl (lv_at hl 2 rfl) ?_
          refine ts_iconst hx hb dX0_dealDecks_97 ?_
          refine ts_imul hx hb dX0_dealDecks_98 (fun z98 hz98 => ?_)
          refine ts_iconst hx hb dX0_dealDecks_99 ?_
          refine ts_iadd hx hb dX0_dealDecks_100 (fun z100 hz100 => ?_)
          refine lv_iload_n hx hb dX0_dealDecks_101 rfl (lv_at hl 1 rfl) ?_
          refine gm_st1 cx hK hw ((4 * i + 3).toNat) (by omega) dX0_dealDecks_102 (fun g102 H locs hg102 hw => ?_)
          obtain ⟨z103, hz103⟩ : ∃ z : Int, z = i + 1 := ⟨_, rfl⟩
          refine lv_iinc (v := iN z103) (lv' := [(2, .int (iN z103)), (0, .ref (ad 0)), (1, .int (iN d2))]) hx hb dX0_dealDecks_103 hl (k := 2) rfl (by rw [hz103]; exact iN_add _ _) (by decide) rfl (fun ls hl => ?_)
          have hstn : ∀ q : Nat, (q : Int) < 4 * z103 → g102 1 q = stD np q := by
            intro q hq
            have hsd : (4 * i + 1 ≤ q → stD np q = d2) := by
              intro h1
              unfold stD
              rw [show ((q / 4 : Nat) : Int) = i by omega, if_neg (show ¬ q % 4 = 0 by omega)]
              split <;> omega
            rw [hg102, u2_r, hg91, u2_r, hg80, u2_r]
            by_cases q3 : q = (4 * i + 3).toNat
            · rw [if_pos q3, hsd (by omega)]
            · rw [if_neg q3]
              by_cases q2 : q = (4 * i + 2).toNat
              · rw [if_pos q2, hsd (by omega)]
              · rw [if_neg q2]
                by_cases q1 : q = (4 * i + 1).toNat
                · rw [if_pos q1, hsd (by omega)]
                · rw [if_neg q1]
                  exact hst2 q (by omega)
          have hcdn : ∀ j : Nat, (j : Int) < d2 → g102 0 j = tv 9 (j % 10) := by
            rw [hg102, u2_row _ (by decide), hg91, u2_row _ (by decide), hg80, u2_row _ (by decide)]
            exact hcd2
          have hpin : ∀ k : Nat, k < 10 → g102 2 k = tv 8 k - (if k = 0 then 7 * (d2 / 10) else if k = 3 then 3 * (d2 / 10) else 0) := by
            rw [hg102, u2_row _ (by decide), hg91, u2_row _ (by decide), hg80, u2_row _ (by decide)]
            exact hpi2
          have hr34n : g102 3 = g 3 ∧ g102 4 = g 4 := by
            rw [hg102, u2_row _ (by decide), u2_row _ (by decide), hg91, u2_row _ (by decide), u2_row _ (by decide), hg80, u2_row _ (by decide), u2_row _ (by decide)]
            exact hrb
          refine lv_goto (tgt := 4) hx hb dX0_dealDecks_106 (by decide) ?_
          exact ih4 (z103) (d2) (g102) (by omega) (by omega) (by omega) (hstn) (hcdn) (hpin) (hr34n) _ _ hw _ (lv_sub hl [1, 2, 0] rfl)
        have hst2e : ∀ q : Nat, (q : Int) < 4 * i + 1 → g19 1 q = stD np q := by
          intro q hq
          rw [hg19, u2_r]
          by_cases hqi : q = (4 * i).toNat
          · rw [if_pos hqi]
            unfold stD
            rw [show ((q / 4 : Nat) : Int) = i by omega, show q % 4 = 0 by omega, if_pos rfl]
            split <;> omega
          · rw [if_neg hqi]
            exact hst q (by omega)
        have cut22 : ∀ (fu : Nat) (j : Int) (d2 : Int) (gb : GS) (hmu : (10 - j).toNat < fu) (hj : 0 ≤ j ∧ j ≤ 10) (hdj : (i < np ∧ d2 = 10 * i + j) ∨ (np ≤ i ∧ j = 0 ∧ d2 = 10 * np)) (hst2 : ∀ q : Nat, (q : Int) < 4 * i + 1 → gb 1 q = stD np q) (hcd2 : ∀ j : Nat, (j : Int) < d2 → gb 0 j = tv 9 (j % 10)) (hpi2 : ∀ k : Nat, k < 10 → gb 2 k = tv 8 k - (if k = 0 then 7 * (d / 10) + (j - j / 3) else if k = 3 then 3 * (d / 10) + j / 3 else 0)) (hrb : gb 3 = g 3 ∧ gb 4 = g 4) (H : Heap) (locs : List Loc) (hw : gmB D A s cI ad gb H locs) (ls : Array Slot) (hl : lv_has ls 4 [(0, .ref (ad 0)), (1, .int (iN d2)), (2, .int (iN i)), (3, .int (iN j))]), W p l e ({ frames := 0, cells := 0, slots := 0, locals := 0 } : Room) s m args below meth c H locs 0 0 (gmQv D cI ad A below args s (fun g1 => PX g1 (lx (dealL (g 4 4))) ∧ (∀ k : Nat, k < 10 → g1 2 k = tv 8 k - (if k = 0 then 7 * g 4 4 else if k = 3 then 3 * g 4 4 else 0)) ∧ g1 3 = g 3 ∧ g1 4 = g 4)) (F0 m 22 ls []) := by
          intro fu
          induction fu with
          | zero => intro j d2 gb hmu; exact absurd hmu (Nat.not_lt_zero _)
          | succ fu ih22 =>
            intro j d2 gb hmu hj hdj hst2 hcd2 hpi2 hrb H locs hw ls hl
            refine lv_iload_n hx hb dX0_dealDecks_22 rfl (lv_at hl 3 rfl) ?_
            refine ts_bipush hx hb dX0_dealDecks_23 (by decide) ?_
            refine ts_icmp_ge (tgt := 70) hx hb (by omega) dX0_dealDecks_25 (by decide) (fun c25 => ?_) (fun c25 => ?_)
            · skip
              exact cut70 (d2) (gb) (by omega) (hst2) (hcd2) (fun k hk => by rw [hpi2 k hk]; (repeat' split) <;> omega) (hrb) _ _ hw _ (lv_sub hl [0, 1, 2] rfl)
            · skip
              have hnpb : gb 4 4 = np := by rw [hrb.2]; exact hnp.symm
              refine lv_iload_n hx hb dX0_dealDecks_28 rfl (lv_at hl 2 rfl) ?_
              refine lv_aload_n hx hb dX0_dealDecks_29 rfl (lv_at hl 0 rfl) ?_
              refine gm_get4 cx hK hw tl_RX0_30 dX0_dealDecks_30 (fun z30 hz30 => ?_)
              
              refine ts_icmp_ge (tgt := 70) hx hb (by omega) dX0_dealDecks_33 (by decide) (fun c33 => ?_) (fun c33 => ?_)
              · skip
                exact cut70 (d2) (gb) (by omega) (hst2) (hcd2) (fun k hk => by rw [hpi2 k hk]; (repeat' split) <;> omega) (hrb) _ _ hw _ (lv_sub hl [0, 1, 2] rfl)
              · skip
                rw [hnpb] at hz30
                refine lv_aload_n hx hb dX0_dealDecks_36 rfl (lv_at hl 0 rfl) ?_
                refine gm_get0 cx hK hw tl_RX0_9 dX0_dealDecks_37 ?_
                refine lv_iload_n hx hb dX0_dealDecks_40 rfl (lv_at hl 1 rfl) ?_
                refine tt_gst cx hT hw.2.2 9 (by decide) rfl dX0_dealDecks_41 ?_
                refine lv_iload_n hx hb dX0_dealDecks_44 rfl (lv_at hl 3 rfl) ?_
                refine tt_ld hx hb hT hw.2.2 9 (by decide) (j.toNat) (by omega) dX0_dealDecks_45 (fun z45 hz45 => ?_)
                have hb45 := tv_b 9 (j.toNat)
                have ht9 := tv9_k j.toNat (by omega)
                have hz45c : (z45 = 0 ∧ j.toNat % 3 ≠ 2) ∨ (z45 = 3 ∧ j.toNat % 3 = 2) := by rw [hz45, ht9]; split <;> omega
                refine gm_st0 cx hK hw (d2.toNat) (by omega) dX0_dealDecks_46 (fun g46 H locs hg46 hw => ?_)
                refine lv_aload_n hx hb dX0_dealDecks_47 rfl (lv_at hl 0 rfl) ?_
                refine gm_get2 cx hK hw tl_RX0_18 dX0_dealDecks_48 ?_
                refine tt_gst cx hT hw.2.2 9 (by decide) rfl dX0_dealDecks_51 ?_
                refine lv_iload_n hx hb dX0_dealDecks_54 rfl (lv_at hl 3 rfl) ?_
                refine tt_ld hx hb hT hw.2.2 9 (by decide) (j.toNat) (by omega) dX0_dealDecks_55 (fun z55 hz55 => ?_)
                have hb55 := tv_b 9 (j.toNat)
                refine lv_dup2_11 hx hb dX0_dealDecks_56 rfl rfl ?_
                refine gm_ld2 cx hK hw (z55.toNat) (by omega) dX0_dealDecks_57 (fun z57 hz57 => ?_)
                refine ts_iconst hx hb dX0_dealDecks_58 ?_
                refine ts_isub hx hb dX0_dealDecks_59 (fun z59 hz59 => ?_)
                refine gm_st2 cx hK hw (z55.toNat) (by omega) dX0_dealDecks_60 (fun g60 H locs hg60 hw => ?_)
                obtain ⟨z61, hz61⟩ : ∃ z : Int, z = d2 + 1 := ⟨_, rfl⟩
                refine lv_iinc (v := iN z61) (lv' := [(1, .int (iN z61)), (0, .ref (ad 0)), (2, .int (iN i)), (3, .int (iN j))]) hx hb dX0_dealDecks_61 hl (k := 1) rfl (by rw [hz61]; exact iN_add _ _) (by decide) rfl (fun ls hl => ?_)
                obtain ⟨z64, hz64⟩ : ∃ z : Int, z = j + 1 := ⟨_, rfl⟩
                refine lv_iinc (v := iN z64) (lv' := [(3, .int (iN z64)), (1, .int (iN z61)), (0, .ref (ad 0)), (2, .int (iN i))]) hx hb dX0_dealDecks_64 hl (k := 3) rfl (by rw [hz64]; exact iN_add _ _) (by decide) rfl (fun ls hl => ?_)
                have hz55c : z55 = z45 := by rw [hz55, hz45]
                have hst2n : ∀ q : Nat, (q : Int) < 4 * i + 1 → g60 1 q = stD np q := by
                  rw [hg60, u2_row _ (by decide), hg46, u2_row _ (by decide)]
                  exact hst2
                have hcd2n : ∀ j' : Nat, (j' : Int) < z61 → g60 0 j' = tv 9 (j' % 10) := by
                  intro j' hj'
                  rw [hg60, u2_row _ (by decide), hg46, u2_r]
                  by_cases hjd : j' = d2.toNat
                  · rw [if_pos hjd, hz45, show j' % 10 = j.toNat by omega]
                  · rw [if_neg hjd]
                    exact hcd2 j' (by omega)
                have hpi2n : ∀ k : Nat, k < 10 → g60 2 k = tv 8 k - (if k = 0 then 7 * (d / 10) + (z64 - z64 / 3) else if k = 3 then 3 * (d / 10) + z64 / 3 else 0) := by
                  intro k hk
                  have hpk := hpi2 k hk
                  rw [hg60, u2_r]
                  by_cases hkz : k = z55.toNat
                  · rw [if_pos hkz, hz59, hz57, hg46, u2_row _ (by decide), ← hkz]
                    rcases hz45c with q | q
                    · have hk0 : k = 0 := by omega
                      subst hk0
                      rw [if_pos rfl] at hpk ⊢
                      omega
                    · have hk3 : k = 3 := by omega
                      subst hk3
                      rw [if_neg (by decide), if_pos rfl] at hpk ⊢
                      omega
                  · rw [if_neg hkz, hg46, u2_row _ (by decide), hpk]
                    by_cases hk0 : k = 0
                    · subst hk0
                      rw [if_pos rfl, if_pos rfl]
                      omega
                    · rw [if_neg hk0, if_neg hk0]
                      by_cases hk3 : k = 3
                      · subst hk3
                        rw [if_pos rfl, if_pos rfl]
                        omega
                      · rw [if_neg hk3, if_neg hk3]
                have hrbn : g60 3 = g 3 ∧ g60 4 = g 4 := by
                  rw [hg60, u2_row _ (by decide), u2_row _ (by decide), hg46, u2_row _ (by decide), u2_row _ (by decide)]
                  exact hrb
                refine lv_goto (tgt := 22) hx hb dX0_dealDecks_67 (by decide) ?_
                exact ih22 (z64) (z61) (g60) (by omega) (by omega) (by omega) (hst2n) (hcd2n) (hpi2n) (hrbn) _ _ hw _ (lv_sub hl [2, 1, 3, 0] rfl)
        exact cut22 _ (0) (d) (g19) (Nat.lt_succ_self _) (by omega) (by omega) (hst2e) (by rw [hg19, u2_row _ (by decide)]; exact hcd) (fun k hk => by rw [hg19, u2_row _ (by decide), hpi k hk]; (repeat' split) <;> omega) (by rw [hg19, u2_row _ (by decide), u2_row _ (by decide)]; exact hr34) _ _ hw _ (lv_sub hl [1, 2, 3, 0] rfl)
  exact cut4 _ (0) (0) (g) (Nat.lt_succ_self _) (by omega) (by omega) (fun q hq => by omega) (fun j hj => by omega) (fun k hk => by rw [hp8 k hk]; (repeat' split) <;> omega) (⟨rfl, rfl⟩) _ _ hw _ (lv_sub hl [2, 1, 0] rfl)
