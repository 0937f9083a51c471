theorem goA_stop {S : StT} (h : ¬ (0 < S.1 4 ∧ 0 ≤ ffst 6 9 (hand S))) : ∀ n : Nat, goA n S = S
  | 0 => rfl
  | _ + 1 => if_neg h
theorem goA_step {S : StT} (h : 0 < S.1 4 ∧ 0 ≤ ffst 6 9 (hand S)) (n : Nat) : goA (n + 1) S = goA n (playA S (ffst 6 9 (hand S)).toNat) := if_pos h
theorem goF_stop {S : StT} (h : ¬ 0 ≤ ffst 0 2 (hand S)) : ∀ n : Nat, goF n S = S
  | 0 => rfl
  | _ + 1 => if_neg h
theorem goF_step {S : StT} (h : 0 ≤ ffst 0 2 (hand S)) (n : Nat) : goF (n + 1) S = goF n (playA S (ffst 0 2 (hand S)).toNat) := if_pos h
theorem goB_stop {S : StT} (h : ¬ 0 ≤ dearN S.1 10) : ∀ n : Nat, goB n S = S
  | 0 => rfl
  | _ + 1 => if_neg h
theorem goB_step {S : StT} (h : 0 ≤ dearN S.1 10) (n : Nat) : goB (n + 1) S = goB n (buyA S (dearN S.1 10).toNat) := if_pos h
theorem play_8 (S : StT) (i : Nat) : (playA S i).1 8 = S.1 8 := by
  show plS S.1 ((hand S).getD i 0).toNat (plC S i ((hand S).getD i 0).toNat).1 8 = S.1 8
  rw [plS_hi _ _ _ (by omega), if_neg (by omega)]
theorem buy_8 (S : StT) (k : Nat) : (buyA S k).1 8 = S.1 8 := by
  show buS S.1 k 8 = _
  unfold buS
  rw [uf_n _ _ (by omega), uf_n _ _ (by omega), uf_n _ _ (by omega)]
theorem ffst_ok {lo hi : Int} {S : StT} (h : 0 ≤ ffst lo hi (hand S)) : (ffst lo hi (hand S)).toNat < (hand S).length ∧ (ffst lo hi (hand S) : Int) < (hand S).length ∧ lo ≤ (hand S).getD (ffst lo hi (hand S)).toNat 0 ∧ (hand S).getD (ffst lo hi (hand S)).toNat 0 ≤ hi := by
  rcases ffst_spec lo hi (hand S) with ⟨h1, -⟩ | ⟨k, h1, h2, h3, -⟩
  · omega
  · rw [h1, Int.toNat_natCast]
    exact ⟨h2, by omega, h3.1, h3.2⟩
theorem playO_ok {S : StT} {i : Int} (h1 : 0 ≤ i ∧ i < (hand S).length) (h8 : S.1 8 = 0) (hk : (hand S).getD i.toNat 0 ≤ 2 ∨ (6 ≤ (hand S).getD i.toNat 0 ∧ 0 < S.1 4)) : playO S i = ((hand S).getD i.toNat 0, playA S i.toNat) := by
  unfold playO
  rw [if_neg (fun h => h h1), if_neg (by omega)]
theorem buyO_ok {S : StT} {k : Int} (h1 : 0 ≤ k ∧ k ≤ 9) (hw : why S.1 k.toNat = 0) : buyO S k = (S.1 (10 + k.toNat) - 1, buyA S k.toNat) := by
  unfold buyO
  rw [if_neg (fun h => h h1), if_neg (fun h => h hw)]
theorem endO_ok {S : StT} (h8 : S.1 8 = 0) : endO S = ((endA S).1 1, endA S) := by
  unfold endO
  rw [if_neg (by omega)]
/-- what one step of a loop leaves -/
theorem step_A {S : StT} (hv : VS S) (h8 : S.1 8 = 0) (h : 0 < S.1 4 ∧ 0 ≤ ffst 6 9 (hand S)) : playO S (ffst 6 9 (hand S)) = ((hand S).getD (ffst 6 9 (hand S)).toNat 0, playA S (ffst 6 9 (hand S)).toNat) ∧ VS (playA S (ffst 6 9 (hand S)).toNat) ∧ (playA S (ffst 6 9 (hand S)).toNat).1 8 = 0 := by
  have hf := ffst_ok h.2
  exact ⟨playO_ok ⟨h.2, hf.2.1⟩ h8 (Or.inr ⟨hf.2.2.1, h.1⟩), (VS_play hv hf.1 (Or.inr ⟨hf.2.2.1, h.1⟩)).1, (play_8 _ _).trans h8⟩
theorem step_F {S : StT} (hv : VS S) (h8 : S.1 8 = 0) (h : 0 ≤ ffst 0 2 (hand S)) : playO S (ffst 0 2 (hand S)) = ((hand S).getD (ffst 0 2 (hand S)).toNat 0, playA S (ffst 0 2 (hand S)).toNat) ∧ VS (playA S (ffst 0 2 (hand S)).toNat) ∧ (playA S (ffst 0 2 (hand S)).toNat).1 8 = 0 := by
  have hf := ffst_ok h
  exact ⟨playO_ok ⟨h, hf.2.1⟩ h8 (Or.inl hf.2.2.2), (VS_play hv hf.1 (Or.inl hf.2.2.2)).1, (play_8 _ _).trans h8⟩
theorem step_B {S : StT} (hv : VS S) (h8 : S.1 8 = 0) (h : 0 ≤ dearN S.1 10) : buyO S (dearN S.1 10) = (S.1 (10 + (dearN S.1 10).toNat) - 1, buyA S (dearN S.1 10).toNat) ∧ VS (buyA S (dearN S.1 10).toNat) ∧ (buyA S (dearN S.1 10).toNat).1 8 = 0 := by
  have hd := dearN_b S.1 10
  have hd2 := hd.2.2 h
  exact ⟨buyO_ok (by omega) hd2.2, VS_buy hv (by omega) hd2.2, (buy_8 _ _).trans h8⟩
theorem ffst_b (lo hi : Int) {S : StT} (hv : VS S) : -1 ≤ ffst lo hi (hand S) ∧ ffst lo hi (hand S) ≤ 164 := by
  have hl := VS_len hv (p := pl S) (w := 1) (VS_pl hv).1 (by omega)
  have hl2 : (((hand S).length : Nat) : Int) ≤ 164 := hl
  rcases ffst_spec lo hi (hand S) with ⟨h1, -⟩ | ⟨k, h1, h2, -, -⟩ <;> omega
set_option maxHeartbeats 4000000 in
set_option maxRecDepth 100000 in
theorem c_X0_playTurnAlike (l : Launch) (g : GS) (S : StT) (hx0 : RX g S) (hv0 : VS S) (h80 : S.1 8 = 0) : gmMv l yX0_playTurnAlike (wU yX0_playTurnAlike cX0_playTurnAlike 3 none) ({ frames := 4, cells := 0, slots := 0, locals := 135 } : Room) [] g (fun g1 => RX g1 (turnA S)) := by
  refine gmMv_of (by decide) (Nat.le_of_ble_eq_true rfl) ?_
  intro p e s m args below meth c D cI tb ad A ls cx hr hlocks hK hA hT hw hl
  have hx := cx.1
  have hb := cx.2.1
  have hl : lv_has ls 3 [(0, .ref (ad 0))] := hl
  have cut48 : ∀ (ga : GS) (hxi : RX ga (goA 164 S)) (hvi : VS (goA 164 S)) (h8i : (goA 164 S).1 8 = 0) (H : Heap) (locs : List Loc) (hw : gmB D A s cI ad ga H locs) (ls : Array Slot) (hl : lv_has ls 3 [(0, .ref (ad 0))]), W p l e ({ frames := 4, cells := 0, slots := 0, locals := 135 } : Room) s m args below meth c H locs 0 0 (gmQv D cI ad A below args s (fun g1 => RX g1 (turnA S))) (F0 m 48 ls []) := by
    intro ga hxi hvi h8i H locs hw ls hl
    refine ts_iconst hx hb dX0_playTurnAlike_48 ?_
    refine lv_istore_n (lv' := [(1, .int (iN 0)), (0, .ref (ad 0))]) hx hb dX0_playTurnAlike_49 rfl hl (by decide) rfl (fun ls hl => ?_)
    have cut83 : ∀ (ga : GS) (hxi : RX ga (goF 164 (goA 164 S))) (hvi : VS (goF 164 (goA 164 S))) (h8i : (goF 164 (goA 164 S)).1 8 = 0) (H : Heap) (locs : List Loc) (hw : gmB D A s cI ad ga H locs) (ls : Array Slot) (hl : lv_has ls 3 [(0, .ref (ad 0))]), W p l e ({ frames := 4, cells := 0, slots := 0, locals := 135 } : Room) s m args below meth c H locs 0 0 (gmQv D cI ad A below args s (fun g1 => RX g1 (turnA S))) (F0 m 83 ls []) := by
      intro ga hxi hvi h8i H locs hw ls hl
      refine ts_iconst hx hb dX0_playTurnAlike_83 ?_
      refine lv_istore_n (lv' := [(1, .int (iN 0)), (0, .ref (ad 0))]) hx hb dX0_playTurnAlike_84 rfl hl (by decide) rfl (fun ls hl => ?_)
      have cut116 : ∀ (ga : GS) (hxi : RX ga (goB 164 (goF 164 (goA 164 S)))) (hvi : VS (goB 164 (goF 164 (goA 164 S)))) (h8i : (goB 164 (goF 164 (goA 164 S))).1 8 = 0) (H : Heap) (locs : List Loc) (hw : gmB D A s cI ad ga H locs) (ls : Array Slot) (hl : lv_has ls 3 [(0, .ref (ad 0))]), W p l e ({ frames := 4, cells := 0, slots := 0, locals := 135 } : Room) s m args below meth c H locs 0 0 (gmQv D cI ad A below args s (fun g1 => RX g1 (turnA S))) (F0 m 116 ls []) := by
        intro ga hxi hvi h8i H locs hw ls hl
        refine lv_aload_n hx hb dX0_playTurnAlike_116 rfl (lv_at hl 0 rfl) ?_
        refine gm_calli (rest := []) cx hK hT hA hw hl (c_X0_endTurn l ga (goB 164 (goF 164 (goA 164 S))) hxi hvi) tg_RX0_148 ⟨rfl, rfl⟩ 0 rfl (by decide +kernel) ⟨Nat.le_of_ble_eq_true rfl, Nat.le_of_ble_eq_true rfl⟩ ⟨Nat.zero_le _, Nat.zero_le _⟩ (Nat.le_of_ble_eq_true rfl) dX0_playTurnAlike_117 (rfl) (fun z117 g117 H locs hq117 hw => ?_)
        rw [endO_ok h8i] at hq117
        refine lv_pop hx hb dX0_playTurnAlike_120 rfl ?_
        exact gm_vret cx hr hlocks hw (hq117.2) dX0_playTurnAlike_121
      have cut85 : ∀ (fu : Nat) (i : Int) (ga : GS) (Si : StT) (hmu : (164 - i).toNat < fu) (hi : 0 ≤ i ∧ i ≤ 164) (hxi : RX ga Si) (hvi : VS Si) (h8i : Si.1 8 = 0) (hgo : goB (164 - i).toNat Si = goB 164 (goF 164 (goA 164 S))) (H : Heap) (locs : List Loc) (hw : gmB D A s cI ad ga H locs) (ls : Array Slot) (hl : lv_has ls 3 [(0, .ref (ad 0)), (1, .int (iN i))]), W p l e ({ frames := 4, cells := 0, slots := 0, locals := 135 } : Room) s m args below meth c H locs 0 0 (gmQv D cI ad A below args s (fun g1 => RX g1 (turnA S))) (F0 m 85 ls []) := by
        intro fu
        induction fu with
        | zero => intro i ga Si hmu; exact absurd hmu (Nat.not_lt_zero _)
        | succ fu ih85 =>
          intro i ga Si hmu hi hxi hvi h8i hgo H locs hw ls hl
          refine lv_iload_n hx hb dX0_playTurnAlike_85 rfl (lv_at hl 1 rfl) ?_
          refine ts_sipush hx hb dX0_playTurnAlike_86 (by decide) ?_
          refine ts_icmp_ge (tgt := 116) hx hb (by omega) dX0_playTurnAlike_89 (by decide) (fun c89 => ?_) (fun c89 => ?_)
          · skip
            have hend : goB (164 - i).toNat Si = Si := by rw [show (164 - i).toNat = 0 by omega]; rfl
            exact cut116 (ga) (by rw [← hgo, hend]; exact hxi) (by rw [← hgo, hend]; exact hvi) (by rw [← hgo, hend]; exact h8i) _ _ hw _ (lv_sub hl [0] rfl)
          · skip
            refine lv_aload_n hx hb dX0_playTurnAlike_92 rfl (lv_at hl 0 rfl) ?_
            refine gm_callr (rest := []) cx hK hT hA hw hl (c_X0_dearestToBuy l ga Si.1 hxi.1 (VS_NX hxi hvi)) tg_RX0_142 ⟨rfl, rfl⟩ 0 rfl (by decide +kernel) ⟨Nat.le_of_ble_eq_true rfl, Nat.le_of_ble_eq_true rfl⟩ ⟨Nat.zero_le _, Nat.zero_le _⟩ (Nat.le_of_ble_eq_true rfl) dX0_playTurnAlike_93 (rfl) (fun z93 hz93 => ?_)
            have hfb := dearN_b Si.1 10
            refine lv_istore_n (lv' := [(2, .int (iN z93)), (0, .ref (ad 0)), (1, .int (iN i))]) hx hb dX0_playTurnAlike_96 rfl hl (by decide) rfl (fun ls hl => ?_)
            refine lv_iload_n hx hb dX0_playTurnAlike_97 rfl (lv_at hl 0 rfl) ?_
            refine ts_if_ge (tgt := 104) hx hb (by omega) dX0_playTurnAlike_98 (by decide) (fun c98 => ?_) (fun c98 => ?_)
            · skip
              have hcd : 0 ≤ dearN Si.1 10 := by omega
              have hst := step_B hvi h8i hcd
              refine lv_aload_n hx hb dX0_playTurnAlike_104 rfl (lv_at hl 1 rfl) ?_
              refine lv_iload_n hx hb dX0_playTurnAlike_105 rfl (lv_at hl 0 rfl) ?_
              refine gm_calli (rest := []) cx hK hT hA hw hl (c_X0_buyCard l z93 ga Si hxi hvi (by omega)) tg_RX0_145 ⟨rfl, rfl⟩ 1 rfl (by decide +kernel) ⟨Nat.le_of_ble_eq_true rfl, Nat.le_of_ble_eq_true rfl⟩ ⟨Nat.zero_le _, Nat.zero_le _⟩ (Nat.le_of_ble_eq_true rfl) dX0_playTurnAlike_106 (rfl) (fun z106 g106 H locs hq106 hw => ?_)
              rw [hz93] at hq106
              refine lv_pop hx hb dX0_playTurnAlike_109 rfl ?_
              obtain ⟨z110, hz110⟩ : ∃ z : Int, z = i + 1 := ⟨_, rfl⟩
              refine lv_iinc (v := iN z110) (lv' := [(1, .int (iN z110)), (2, .int (iN z93)), (0, .ref (ad 0))]) hx hb dX0_playTurnAlike_110 hl (k := 2) rfl (by rw [hz110]; exact iN_add _ _) (by decide) rfl (fun ls hl => ?_)
              refine lv_goto (tgt := 85) hx hb dX0_playTurnAlike_113 (by decide) ?_
              exact ih85 (z110) (g106) (buyA Si (dearN Si.1 10).toNat) (by omega) (by omega) (by rw [hst.1] at hq106; exact hq106.2) (hst.2.1) (hst.2.2) (by rw [← hgo, show (164 - i).toNat = (164 - z110).toNat + 1 by omega, goB_step hcd]) _ _ hw _ (lv_sub hl [2, 0] rfl)
            · skip
              have hend : goB (164 - i).toNat Si = Si := goB_stop (by omega) _
              refine lv_goto (tgt := 116) hx hb dX0_playTurnAlike_101 (by decide) ?_
              exact cut116 (ga) (by rw [← hgo, hend]; exact hxi) (by rw [← hgo, hend]; exact hvi) (by rw [← hgo, hend]; exact h8i) _ _ hw _ (lv_sub hl [1] rfl)
      exact cut85 _ (0) (ga) (goF 164 (goA 164 S)) (Nat.lt_succ_self _) (by omega) (hxi) (hvi) (h8i) (rfl) _ _ hw _ (lv_sub hl [1, 0] rfl)
    have cut50 : ∀ (fu : Nat) (i : Int) (ga : GS) (Si : StT) (hmu : (164 - i).toNat < fu) (hi : 0 ≤ i ∧ i ≤ 164) (hxi : RX ga Si) (hvi : VS Si) (h8i : Si.1 8 = 0) (hgo : goF (164 - i).toNat Si = goF 164 (goA 164 S)) (H : Heap) (locs : List Loc) (hw : gmB D A s cI ad ga H locs) (ls : Array Slot) (hl : lv_has ls 3 [(0, .ref (ad 0)), (1, .int (iN i))]), W p l e ({ frames := 4, cells := 0, slots := 0, locals := 135 } : Room) s m args below meth c H locs 0 0 (gmQv D cI ad A below args s (fun g1 => RX g1 (turnA S))) (F0 m 50 ls []) := by
      intro fu
      induction fu with
      | zero => intro i ga Si hmu; exact absurd hmu (Nat.not_lt_zero _)
      | succ fu ih50 =>
        intro i ga Si hmu hi hxi hvi h8i hgo H locs hw ls hl
        refine lv_iload_n hx hb dX0_playTurnAlike_50 rfl (lv_at hl 1 rfl) ?_
        refine ts_sipush hx hb dX0_playTurnAlike_51 (by decide) ?_
        refine ts_icmp_ge (tgt := 83) hx hb (by omega) dX0_playTurnAlike_54 (by decide) (fun c54 => ?_) (fun c54 => ?_)
        · skip
          have hend : goF (164 - i).toNat Si = Si := by rw [show (164 - i).toNat = 0 by omega]; rfl
          exact cut83 (ga) (by rw [← hgo, hend]; exact hxi) (by rw [← hgo, hend]; exact hvi) (by rw [← hgo, hend]; exact h8i) _ _ hw _ (lv_sub hl [0] rfl)
        · skip
          refine lv_aload_n hx hb dX0_playTurnAlike_57 rfl (lv_at hl 0 rfl) ?_
          refine ts_iconst hx hb dX0_playTurnAlike_58 ?_
          refine ts_iconst hx hb dX0_playTurnAlike_59 ?_
          refine gm_callr (rest := []) cx hK hT hA hw hl (c_X0_firstInHand l 0 2 ga Si hxi (VS_NX hxi hvi) (VS_kinds hvi) (by omega)) tg_RX0_135 ⟨rfl, rfl⟩ 2 rfl (by decide +kernel) ⟨Nat.le_of_ble_eq_true rfl, Nat.le_of_ble_eq_true rfl⟩ ⟨Nat.zero_le _, Nat.zero_le _⟩ (Nat.le_of_ble_eq_true rfl) dX0_playTurnAlike_60 (rfl) (fun z60 hz60 => ?_)
          have hfb := ffst_b 0 2 hvi
          refine lv_istore_n (lv' := [(2, .int (iN z60)), (0, .ref (ad 0)), (1, .int (iN i))]) hx hb dX0_playTurnAlike_63 rfl hl (by decide) rfl (fun ls hl => ?_)
          refine lv_iload_n hx hb dX0_playTurnAlike_64 rfl (lv_at hl 0 rfl) ?_
          refine ts_if_ge (tgt := 71) hx hb (by omega) dX0_playTurnAlike_65 (by decide) (fun c65 => ?_) (fun c65 => ?_)
          · skip
            have hcd : 0 ≤ ffst 0 2 (hand Si) := by omega
            have hst := step_F hvi h8i hcd
            refine lv_aload_n hx hb dX0_playTurnAlike_71 rfl (lv_at hl 1 rfl) ?_
            refine lv_iload_n hx hb dX0_playTurnAlike_72 rfl (lv_at hl 0 rfl) ?_
            refine gm_calli (rest := []) cx hK hT hA hw hl (c_X0_playCard l z60 ga Si hxi hvi (by omega)) tg_RX0_139 ⟨rfl, rfl⟩ 1 rfl (by decide +kernel) ⟨Nat.le_of_ble_eq_true rfl, Nat.le_of_ble_eq_true rfl⟩ ⟨Nat.zero_le _, Nat.zero_le _⟩ (Nat.le_of_ble_eq_true rfl) dX0_playTurnAlike_73 (rfl) (fun z73 g73 H locs hq73 hw => ?_)
            rw [hz60] at hq73
            refine lv_pop hx hb dX0_playTurnAlike_76 rfl ?_
            obtain ⟨z77, hz77⟩ : ∃ z : Int, z = i + 1 := ⟨_, rfl⟩
            refine lv_iinc (v := iN z77) (lv' := [(1, .int (iN z77)), (2, .int (iN z60)), (0, .ref (ad 0))]) hx hb dX0_playTurnAlike_77 hl (k := 2) rfl (by rw [hz77]; exact iN_add _ _) (by decide) rfl (fun ls hl => ?_)
            refine lv_goto (tgt := 50) hx hb dX0_playTurnAlike_80 (by decide) ?_
            exact ih50 (z77) (g73) (playA Si (ffst 0 2 (hand Si)).toNat) (by omega) (by omega) (by rw [hst.1] at hq73; exact hq73.2) (hst.2.1) (hst.2.2) (by rw [← hgo, show (164 - i).toNat = (164 - z77).toNat + 1 by omega, goF_step hcd]) _ _ hw _ (lv_sub hl [2, 0] rfl)
          · skip
            have hend : goF (164 - i).toNat Si = Si := goF_stop (by omega) _
            refine lv_goto (tgt := 83) hx hb dX0_playTurnAlike_68 (by decide) ?_
            exact cut83 (ga) (by rw [← hgo, hend]; exact hxi) (by rw [← hgo, hend]; exact hvi) (by rw [← hgo, hend]; exact h8i) _ _ hw _ (lv_sub hl [1] rfl)
    exact cut50 _ (0) (ga) (goA 164 S) (Nat.lt_succ_self _) (by omega) (hxi) (hvi) (h8i) (rfl) _ _ hw _ (lv_sub hl [1, 0] rfl)
  refine ts_iconst hx hb dX0_playTurnAlike_0 ?_
  refine lv_istore_n (lv' := [(1, .int (iN 0)), (0, .ref (ad 0))]) hx hb dX0_playTurnAlike_1 rfl hl (by decide) rfl (fun ls hl => ?_)
  have cut2 : ∀ (fu : Nat) (i : Int) (ga : GS) (Si : StT) (hmu : (164 - i).toNat < fu) (hi : 0 ≤ i ∧ i ≤ 164) (hxi : RX ga Si) (hvi : VS Si) (h8i : Si.1 8 = 0) (hgo : goA (164 - i).toNat Si = goA 164 S) (H : Heap) (locs : List Loc) (hw : gmB D A s cI ad ga H locs) (ls : Array Slot) (hl : lv_has ls 3 [(0, .ref (ad 0)), (1, .int (iN i))]), W p l e ({ frames := 4, cells := 0, slots := 0, locals := 135 } : Room) s m args below meth c H locs 0 0 (gmQv D cI ad A below args s (fun g1 => RX g1 (turnA S))) (F0 m 2 ls []) := by
    intro fu
    induction fu with
    | zero => intro i ga Si hmu; exact absurd hmu (Nat.not_lt_zero _)
    | succ fu ih2 =>
      intro i ga Si hmu hi hxi hvi h8i hgo H locs hw ls hl
      refine lv_iload_n hx hb dX0_playTurnAlike_2 rfl (lv_at hl 1 rfl) ?_
      refine ts_sipush hx hb dX0_playTurnAlike_3 (by decide) ?_
      refine ts_icmp_ge (tgt := 48) hx hb (by omega) dX0_playTurnAlike_6 (by decide) (fun c6 => ?_) (fun c6 => ?_)
      · skip
        
        have hend : goA (164 - i).toNat Si = Si := by rw [show (164 - i).toNat = 0 by omega]; rfl
        exact cut48 (ga) (by rw [← hgo, hend]; exact hxi) (by rw [← hgo, hend]; exact hvi) (by rw [← hgo, hend]; exact h8i) _ _ hw _ (lv_sub hl [0] rfl)
      · skip
        have hn4 : 0 ≤ ga 4 8 ∧ ga 4 8 ≤ 1000 := (VS_NX hxi hvi).2.2.2.2.1
        have hn4b : ga 4 8 = Si.1 4 := hxi.1.2.2.2.2.1
        refine lv_aload_n hx hb dX0_playTurnAlike_9 rfl (lv_at hl 0 rfl) ?_
        refine gm_get8 cx hK hw tl_RX0_43 dX0_playTurnAlike_10 (fun z10 hz10 => ?_)
        refine ts_if_le (tgt := 27) hx hb (by omega) dX0_playTurnAlike_13 (by decide) (fun c13 => ?_) (fun c13 => ?_)
        · skip
          refine ts_iconst hx hb dX0_playTurnAlike_27 ?_
          refine lv_istore_n (lv' := [(2, .int (iN ((-1)))), (0, .ref (ad 0)), (1, .int (iN i))]) hx hb dX0_playTurnAlike_28 rfl hl (by decide) rfl (fun ls hl => ?_)
          refine lv_iload_n hx hb dX0_playTurnAlike_29 rfl (lv_at hl 0 rfl) ?_
          refine ts_if_ge (tgt := 36) hx hb (by omega) dX0_playTurnAlike_30 (by decide) (fun c30 => ?_) (fun c30 => ?_)
          · exfalso
            omega
          · skip
            have hend : goA (164 - i).toNat Si = Si := goA_stop (by omega) _
            refine lv_goto (tgt := 48) hx hb dX0_playTurnAlike_33 (by decide) ?_
            
            exact cut48 (ga) (by rw [← hgo, hend]; exact hxi) (by rw [← hgo, hend]; exact hvi) (by rw [← hgo, hend]; exact h8i) _ _ hw _ (lv_sub hl [1] rfl)
        · skip
          refine lv_aload_n hx hb dX0_playTurnAlike_16 rfl (lv_at hl 0 rfl) ?_
          refine ts_bipush hx hb dX0_playTurnAlike_17 (by decide) ?_
          refine ts_bipush hx hb dX0_playTurnAlike_19 (by decide) ?_
          refine gm_callr (rest := []) cx hK hT hA hw hl (c_X0_firstInHand l 6 9 ga Si hxi (VS_NX hxi hvi) (VS_kinds hvi) (by omega)) tg_RX0_135 ⟨rfl, rfl⟩ 2 rfl (by decide +kernel) ⟨Nat.le_of_ble_eq_true rfl, Nat.le_of_ble_eq_true rfl⟩ ⟨Nat.zero_le _, Nat.zero_le _⟩ (Nat.le_of_ble_eq_true rfl) dX0_playTurnAlike_21 (rfl) (fun z21 hz21 => ?_)
          have hfb := ffst_b 6 9 hvi
          refine lv_goto (tgt := 28) hx hb dX0_playTurnAlike_24 (by decide) ?_
          refine lv_istore_n (lv' := [(2, .int (iN z21)), (0, .ref (ad 0)), (1, .int (iN i))]) hx hb dX0_playTurnAlike_28 rfl hl (by decide) rfl (fun ls hl => ?_)
          refine lv_iload_n hx hb dX0_playTurnAlike_29 rfl (lv_at hl 0 rfl) ?_
          refine ts_if_ge (tgt := 36) hx hb (by omega) dX0_playTurnAlike_30 (by decide) (fun c30 => ?_) (fun c30 => ?_)
          · skip
            have hcd : 0 < Si.1 4 ∧ 0 ≤ ffst 6 9 (hand Si) := by omega
            have hst := step_A hvi h8i hcd
            refine lv_aload_n hx hb dX0_playTurnAlike_36 rfl (lv_at hl 1 rfl) ?_
            refine lv_iload_n hx hb dX0_playTurnAlike_37 rfl (lv_at hl 0 rfl) ?_
            refine gm_calli (rest := []) cx hK hT hA hw hl (c_X0_playCard l z21 ga Si hxi hvi (by omega)) tg_RX0_139 ⟨rfl, rfl⟩ 1 rfl (by decide +kernel) ⟨Nat.le_of_ble_eq_true rfl, Nat.le_of_ble_eq_true rfl⟩ ⟨Nat.zero_le _, Nat.zero_le _⟩ (Nat.le_of_ble_eq_true rfl) dX0_playTurnAlike_38 (rfl) (fun z38 g38 H locs hq38 hw => ?_)
            rw [hz21] at hq38
            refine lv_pop hx hb dX0_playTurnAlike_41 rfl ?_
            obtain ⟨z42, hz42⟩ : ∃ z : Int, z = i + 1 := ⟨_, rfl⟩
            refine lv_iinc (v := iN z42) (lv' := [(1, .int (iN z42)), (2, .int (iN z21)), (0, .ref (ad 0))]) hx hb dX0_playTurnAlike_42 hl (k := 2) rfl (by rw [hz42]; exact iN_add _ _) (by decide) rfl (fun ls hl => ?_)
            refine lv_goto (tgt := 2) hx hb dX0_playTurnAlike_45 (by decide) ?_
            exact ih2 (z42) (g38) (playA Si (ffst 6 9 (hand Si)).toNat) (by omega) (by omega) (by rw [hst.1] at hq38; exact hq38.2) (hst.2.1) (hst.2.2) (by rw [← hgo, show (164 - i).toNat = (164 - z42).toNat + 1 by omega, goA_step hcd]) _ _ hw _ (lv_sub hl [2, 0] rfl)
          · skip
            have hend : goA (164 - i).toNat Si = Si := goA_stop (by omega) _
            refine lv_goto (tgt := 48) hx hb dX0_playTurnAlike_33 (by decide) ?_
            
            exact cut48 (ga) (by rw [← hgo, hend]; exact hxi) (by rw [← hgo, hend]; exact hvi) (by rw [← hgo, hend]; exact h8i) _ _ hw _ (lv_sub hl [1] rfl)
  exact cut2 _ (0) (g) (S) (Nat.lt_succ_self _) (by omega) (hx0) (hv0) (h80) (rfl) _ _ hw _ (lv_sub hl [1, 0] rfl)
theorem go_keep : ∀ (n : Nat) (S : StT), VS S → S.1 8 = 0 → (VS (goA n S) ∧ (goA n S).1 8 = 0) ∧ (VS (goF n S) ∧ (goF n S).1 8 = 0) ∧ (VS (goB n S) ∧ (goB n S).1 8 = 0)
  | 0, S, hv, h8 => ⟨⟨hv, h8⟩, ⟨hv, h8⟩, ⟨hv, h8⟩⟩
  | n + 1, S, hv, h8 => by
    refine ⟨?_, ?_, ?_⟩
    · by_cases h : 0 < S.1 4 ∧ 0 ≤ ffst 6 9 (hand S)
      · rw [goA_step h]
        have hs := step_A hv h8 h
        exact (go_keep n _ hs.2.1 hs.2.2).1
      · rw [goA_stop h]; exact ⟨hv, h8⟩
    · by_cases h : 0 ≤ ffst 0 2 (hand S)
      · rw [goF_step h]
        have hs := step_F hv h8 h
        exact (go_keep n _ hs.2.1 hs.2.2).2.1
      · rw [goF_stop h]; exact ⟨hv, h8⟩
    · by_cases h : 0 ≤ dearN S.1 10
      · rw [goB_step h]
        have hs := step_B hv h8 h
        exact (go_keep n _ hs.2.1 hs.2.2).2.2
      · rw [goB_stop h]; exact ⟨hv, h8⟩
theorem VS_turn {S : StT} (hv : VS S) (h8 : S.1 8 = 0) : VS (turnA S) := by
  have h1 := (go_keep 164 S hv h8).1
  have h2 := (go_keep 164 _ h1.1 h1.2).2.1
  have h3 := (go_keep 164 _ h2.1 h2.2).2.2
  exact VS_end h3.1
theorem VS_goes : ∀ (n : Nat) (S : StT), VS S → VS (goesA n S).2 ∧ 0 ≤ (goesA n S).1 ∧ (goesA n S).1 ≤ n
  | 0, S, hv => ⟨hv, Int.le_refl _, by show (0 : Int) ≤ ((0 : Nat) : Int); omega⟩
  | n + 1, S, hv => by
    unfold goesA
    by_cases h : S.1 8 = 1
    · rw [if_pos h]; exact ⟨hv, Int.le_refl _, by show (0 : Int) ≤ _; omega⟩
    · rw [if_neg h]
      have h8 := hv.2.2.2.2.1
      have := VS_goes n (turnA S) (VS_turn hv (by omega))
      exact ⟨this.1, by show 0 ≤ (goesA n (turnA S)).1 + 1; omega, by show (goesA n (turnA S)).1 + 1 ≤ ((n + 1 : Nat) : Int); omega⟩
theorem goes_stop {S : StT} (h : S.1 8 = 1) : ∀ n : Nat, goesA n S = (0, S)
  | 0 => rfl
  | _ + 1 => if_pos h
set_option maxHeartbeats 4000000 in
set_option maxRecDepth 100000 in
theorem c_X0_goOnAlike (l : Launch) (n : Nat) (g : GS) (S : StT) (hx0 : RX g S) (hv0 : VS S) (hn : n ≤ 60) : gmMi l yX0_goOnAlike (wU yX0_goOnAlike cX0_goOnAlike 3 (some .int)) ({ frames := 5, cells := 0, slots := 0, locals := 157 } : Room) [.int (iN ((n : Int)))] g (fun z g1 => z = (goesA n S).1 ∧ RX g1 (goesA n S).2) := by
  refine gmMi_of (by decide) (Nat.le_of_ble_eq_true rfl) ?_
  intro p e s m args below meth c D cI tb ad A ls cx hr hlocks hK hA hT hw hl
  have hx := cx.1
  have hb := cx.2.1
  have hl : lv_has ls 3 [(0, .ref (ad 0)), (1, .int (iN ((n : Int))))] := hl
  refine ts_iconst hx hb dX0_goOnAlike_0 ?_
  refine lv_istore_n (lv' := [(2, .int (iN 0)), (0, .ref (ad 0)), (1, .int (iN ((n : Int))))]) hx hb dX0_goOnAlike_1 rfl hl (by decide) rfl (fun ls hl => ?_)
  have cut2 : ∀ (fu : Nat) (i : Int) (ga : GS) (Si : StT) (hmu : ((n : Int) - i).toNat < fu) (hi : 0 ≤ i ∧ i ≤ n) (hxi : RX ga Si) (hvi : VS Si) (hg1 : i + (goesA ((n : Int) - i).toNat Si).1 = (goesA n S).1) (hg2 : (goesA ((n : Int) - i).toNat Si).2 = (goesA n S).2) (H : Heap) (locs : List Loc) (hw : gmB D A s cI ad ga H locs) (ls : Array Slot) (hl : lv_has ls 3 [(0, .ref (ad 0)), (1, .int (iN ((n : Int)))), (2, .int (iN i))]), W p l e ({ frames := 5, cells := 0, slots := 0, locals := 157 } : Room) s m args below meth c H locs 0 0 (gmQi D cI ad A below args s (fun z g1 => z = (goesA n S).1 ∧ RX g1 (goesA n S).2)) (F0 m 2 ls []) := by
    intro fu
    induction fu with
    | zero => intro i ga Si hmu; exact absurd hmu (Nat.not_lt_zero _)
    | succ fu ih2 =>
      intro i ga Si hmu hi hxi hvi hg1 hg2 H locs hw ls hl
      refine lv_iload_n hx hb dX0_goOnAlike_2 rfl (lv_at hl 2 rfl) ?_
      refine lv_iload_n hx hb dX0_goOnAlike_3 rfl (lv_at hl 1 rfl) ?_
      refine ts_icmp_ge (tgt := 24) hx hb (by omega) dX0_goOnAlike_4 (by decide) (fun c4 => ?_) (fun c4 => ?_)
      · skip
        rw [show ((n : Int) - i).toNat = 0 by omega] at hg1 hg2
        refine lv_iload_n hx hb dX0_goOnAlike_24 rfl (lv_at hl 2 rfl) ?_
        exact gm_ret cx hr hlocks hw (⟨by rw [← hg1]; show i = i + (0 : Int); omega, by rw [← hg2]; exact hxi⟩) dX0_goOnAlike_25
      · skip
        refine lv_aload_n hx hb dX0_goOnAlike_7 rfl (lv_at hl 0 rfl) ?_
        refine gm_get13 cx hK hw tl_RX0_58 dX0_goOnAlike_8 (fun z8 hz8 => ?_)
        have hn8 : ga 4 13 = Si.1 8 := hxi.1.2.2.2.2.2.2.2.2.2.1
        have hv8 := hvi.2.2.2.2.1
        refine ts_if_ne (tgt := 24) hx hb (by omega) dX0_goOnAlike_11 (by decide) (fun c11 => ?_) (fun c11 => ?_)
        · skip
          have he := goes_stop (show Si.1 8 = 1 by omega) ((n : Int) - i).toNat
          rw [he] at hg1 hg2
          refine lv_iload_n hx hb dX0_goOnAlike_24 rfl (lv_at hl 2 rfl) ?_
          exact gm_ret cx hr hlocks hw (⟨by rw [← hg1]; show i = i + (0 : Int); omega, by rw [← hg2]; exact hxi⟩) dX0_goOnAlike_25
        · skip
          have h8i : Si.1 8 = 0 := by omega
          refine lv_aload_n hx hb dX0_goOnAlike_14 rfl (lv_at hl 0 rfl) ?_
          refine gm_callv (rest := []) cx hK hT hA hw hl (c_X0_playTurnAlike l ga Si hxi hvi h8i) tg_RX0_132 ⟨rfl, rfl⟩ 0 rfl (by decide +kernel) ⟨Nat.le_of_ble_eq_true rfl, Nat.le_of_ble_eq_true rfl⟩ ⟨Nat.zero_le _, Nat.zero_le _⟩ (Nat.le_of_ble_eq_true rfl) dX0_goOnAlike_15 (rfl) (fun g15 H locs hq15 hw => ?_)
          obtain ⟨z18, hz18⟩ : ∃ z : Int, z = i + 1 := ⟨_, rfl⟩
          refine lv_iinc (v := iN z18) (lv' := [(2, .int (iN z18)), (0, .ref (ad 0)), (1, .int (iN ((n : Int))))]) hx hb dX0_goOnAlike_18 hl (k := 2) rfl (by rw [hz18]; exact iN_add _ _) (by decide) rfl (fun ls hl => ?_)
          have hgs : goesA ((n : Int) - i).toNat Si = ((goesA ((n : Int) - z18).toNat (turnA Si)).1 + 1, (goesA ((n : Int) - z18).toNat (turnA Si)).2) := by
            rw [show ((n : Int) - i).toNat = ((n : Int) - z18).toNat + 1 by omega]
            show (if Si.1 8 = 1 then _ else _) = _
            rw [if_neg (by omega)]
          refine lv_goto (tgt := 2) hx hb dX0_goOnAlike_21 (by decide) ?_
          exact ih2 (z18) (g15) (turnA Si) (by omega) (by omega) (hq15) (VS_turn hvi h8i) (by rw [hgs] at hg1; rw [← hg1]; show _ = i + ((goesA ((n : Int) - z18).toNat (turnA Si)).1 + 1); omega) (by rw [hgs] at hg2; rw [← hg2]) _ _ hw _ (lv_sub hl [1, 2, 0] rfl)
  exact cut2 _ (0) (g) (S) (Nat.lt_succ_self _) (by omega) (hx0) (hv0) (by rw [show ((n : Int) - 0).toNat = n by omega]; omega) (by rw [show ((n : Int) - 0).toNat = n by omega]) _ _ hw _ (lv_sub hl [1, 2, 0] rfl)
