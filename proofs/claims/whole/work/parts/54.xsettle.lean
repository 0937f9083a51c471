/-! ===== the roles of the Games change ===== -/
def ua (ga : GA) (i : Nat) (v : Nat → Nat) : GA := fun j => if j = i then v else ga j
theorem rh_ua (ga : GA) (k : Nat) (v : Nat → Nat) : rh (ua ga (2 + k) v) = uh (rh ga) k (v 0) := by
  funext j
  unfold rh ua uh
  by_cases h : j = k
  · rw [if_pos h, if_pos (by omega)]
  · rw [if_neg h, if_neg (by omega)]
theorem rh_u0 (ga : GA) (v : Nat → Nat) : rh (ua ga 0 v) = rh ga := by
  funext j
  unfold rh ua
  rw [if_neg (by omega)]
theorem rh_u1 (ga : GA) (v : Nat → Nat) : rh (ua ga 1 v) = rh ga := by
  funext j
  unfold rh ua
  rw [if_neg (by omega)]
/-- now goes to the history's place n, the spare one is now, what was there is spare -/
def SW (g g1 : XS) (n : Nat) : Prop := g1 0 = g 1 ∧ g1 1 = g (2 + n) ∧ (∀ j : Nat, j < 4 → g1 (2 + j) = if j = n then g 0 else g (2 + j)) ∧ g1 6 = g 6
/-- now and the history's place n change places -/
def SU (g g1 : XS) (n : Nat) : Prop := g1 0 = g (2 + n) ∧ g1 1 = g 1 ∧ (∀ j : Nat, j < 4 → g1 (2 + j) = if j = n then g 0 else g (2 + j)) ∧ g1 6 = g 6
/-- the oldest state goes behind the others -/
def SD (g g1 : XS) : Prop := g1 0 = g 0 ∧ g1 1 = g 1 ∧ g1 2 = g 3 ∧ g1 3 = g 4 ∧ g1 4 = g 5 ∧ g1 5 = g 2 ∧ g1 6 = g 6
section XROLE
variable {D : va_G} {A : Nat → Prop} {s : State} {ci : Nat → ClassId} {ad : Nat → Nat} {ga : GA} {g : XS} {H : Heap} {locs : List Loc}
theorem xp_swap (n : Nat) (hn : n < 4) (hw : xpB D A s ci ad (ga 1 0) (rh ga n) (uh (rh ga) n (ga 0 0)) ga g H locs) : ∃ (ga1 : GA) (g1 : XS), xmB D A s ci ad ga1 g1 H locs ∧ SW g g1 n := by
  have e : rh (ua (ua (ua ga 0 (ga 1)) 1 (ga (2 + n))) (2 + n) (ga 0)) = uh (rh ga) n (ga 0 0) := by rw [rh_ua, rh_u1, rh_u0]
  rw [← e] at hw
  rcases (show n = 0 ∨ n = 1 ∨ n = 2 ∨ n = 3 by omega) with rfl | rfl | rfl | rfl
  · refine ⟨ua (ua (ua ga 0 (ga 1)) 1 (ga (2 + 0))) (2 + 0) (ga 0), ux (ux (ux g 0 (g 1)) 1 (g (2 + 0))) (2 + 0) (g 0), ⟨hw.1.sub (ws' := xmR ci ad (ua (ua (ua ga 0 (ga 1)) 1 (ga (2 + 0))) (2 + 0) (ga 0)) (ux (ux (ux g 0 (g 1)) 1 (g (2 + 0))) (2 + 0) (g 0))) [0, 1, 2, 8, 9, 10, 11, 12, 13, 14, 15, 16, 17, 3, 4, 5, 6, 7, 18, 19, 20, 21, 22, 23, 24, 25, 26, 27, 28, 29, 30, 31, 32] rfl, hw.2.1.sub (ws' := xmR ci ad (ua (ua (ua ga 0 (ga 1)) 1 (ga (2 + 0))) (2 + 0) (ga 0)) (ux (ux (ux g 0 (g 1)) 1 (g (2 + 0))) (2 + 0) (g 0))) [0, 1, 2, 8, 9, 10, 11, 12, 13, 14, 15, 16, 17, 3, 4, 5, 6, 7, 18, 19, 20, 21, 22, 23, 24, 25, 26, 27, 28, 29, 30, 31, 32] (by decide) rfl, hw.2.2⟩, rfl, rfl, fun j hj => ?_, rfl⟩
    rcases (show j = 0 ∨ j = 1 ∨ j = 2 ∨ j = 3 by omega) with rfl | rfl | rfl | rfl <;> rfl
  · refine ⟨ua (ua (ua ga 0 (ga 1)) 1 (ga (2 + 1))) (2 + 1) (ga 0), ux (ux (ux g 0 (g 1)) 1 (g (2 + 1))) (2 + 1) (g 0), ⟨hw.1.sub (ws' := xmR ci ad (ua (ua (ua ga 0 (ga 1)) 1 (ga (2 + 1))) (2 + 1) (ga 0)) (ux (ux (ux g 0 (g 1)) 1 (g (2 + 1))) (2 + 1) (g 0))) [0, 1, 2, 8, 9, 10, 11, 12, 18, 19, 20, 21, 22, 13, 14, 15, 16, 17, 3, 4, 5, 6, 7, 23, 24, 25, 26, 27, 28, 29, 30, 31, 32] rfl, hw.2.1.sub (ws' := xmR ci ad (ua (ua (ua ga 0 (ga 1)) 1 (ga (2 + 1))) (2 + 1) (ga 0)) (ux (ux (ux g 0 (g 1)) 1 (g (2 + 1))) (2 + 1) (g 0))) [0, 1, 2, 8, 9, 10, 11, 12, 18, 19, 20, 21, 22, 13, 14, 15, 16, 17, 3, 4, 5, 6, 7, 23, 24, 25, 26, 27, 28, 29, 30, 31, 32] (by decide) rfl, hw.2.2⟩, rfl, rfl, fun j hj => ?_, rfl⟩
    rcases (show j = 0 ∨ j = 1 ∨ j = 2 ∨ j = 3 by omega) with rfl | rfl | rfl | rfl <;> rfl
  · refine ⟨ua (ua (ua ga 0 (ga 1)) 1 (ga (2 + 2))) (2 + 2) (ga 0), ux (ux (ux g 0 (g 1)) 1 (g (2 + 2))) (2 + 2) (g 0), ⟨hw.1.sub (ws' := xmR ci ad (ua (ua (ua ga 0 (ga 1)) 1 (ga (2 + 2))) (2 + 2) (ga 0)) (ux (ux (ux g 0 (g 1)) 1 (g (2 + 2))) (2 + 2) (g 0))) [0, 1, 2, 8, 9, 10, 11, 12, 23, 24, 25, 26, 27, 13, 14, 15, 16, 17, 18, 19, 20, 21, 22, 3, 4, 5, 6, 7, 28, 29, 30, 31, 32] rfl, hw.2.1.sub (ws' := xmR ci ad (ua (ua (ua ga 0 (ga 1)) 1 (ga (2 + 2))) (2 + 2) (ga 0)) (ux (ux (ux g 0 (g 1)) 1 (g (2 + 2))) (2 + 2) (g 0))) [0, 1, 2, 8, 9, 10, 11, 12, 23, 24, 25, 26, 27, 13, 14, 15, 16, 17, 18, 19, 20, 21, 22, 3, 4, 5, 6, 7, 28, 29, 30, 31, 32] (by decide) rfl, hw.2.2⟩, rfl, rfl, fun j hj => ?_, rfl⟩
    rcases (show j = 0 ∨ j = 1 ∨ j = 2 ∨ j = 3 by omega) with rfl | rfl | rfl | rfl <;> rfl
  · refine ⟨ua (ua (ua ga 0 (ga 1)) 1 (ga (2 + 3))) (2 + 3) (ga 0), ux (ux (ux g 0 (g 1)) 1 (g (2 + 3))) (2 + 3) (g 0), ⟨hw.1.sub (ws' := xmR ci ad (ua (ua (ua ga 0 (ga 1)) 1 (ga (2 + 3))) (2 + 3) (ga 0)) (ux (ux (ux g 0 (g 1)) 1 (g (2 + 3))) (2 + 3) (g 0))) [0, 1, 2, 8, 9, 10, 11, 12, 28, 29, 30, 31, 32, 13, 14, 15, 16, 17, 18, 19, 20, 21, 22, 23, 24, 25, 26, 27, 3, 4, 5, 6, 7] rfl, hw.2.1.sub (ws' := xmR ci ad (ua (ua (ua ga 0 (ga 1)) 1 (ga (2 + 3))) (2 + 3) (ga 0)) (ux (ux (ux g 0 (g 1)) 1 (g (2 + 3))) (2 + 3) (g 0))) [0, 1, 2, 8, 9, 10, 11, 12, 28, 29, 30, 31, 32, 13, 14, 15, 16, 17, 18, 19, 20, 21, 22, 23, 24, 25, 26, 27, 3, 4, 5, 6, 7] (by decide) rfl, hw.2.2⟩, rfl, rfl, fun j hj => ?_, rfl⟩
    rcases (show j = 0 ∨ j = 1 ∨ j = 2 ∨ j = 3 by omega) with rfl | rfl | rfl | rfl <;> rfl
theorem xp_swapU (n : Nat) (hn : n < 4) (hw : xpB D A s ci ad (rh ga n) (ga 1 0) (uh (rh ga) n (ga 0 0)) ga g H locs) : ∃ (ga1 : GA) (g1 : XS), xmB D A s ci ad ga1 g1 H locs ∧ SU g g1 n := by
  have e : rh (ua (ua ga 0 (ga (2 + n))) (2 + n) (ga 0)) = uh (rh ga) n (ga 0 0) := by rw [rh_ua, rh_u0]
  rw [← e] at hw
  rcases (show n = 0 ∨ n = 1 ∨ n = 2 ∨ n = 3 by omega) with rfl | rfl | rfl | rfl
  · refine ⟨ua (ua ga 0 (ga (2 + 0))) (2 + 0) (ga 0), ux (ux g 0 (g (2 + 0))) (2 + 0) (g 0), ⟨hw.1.sub (ws' := xmR ci ad (ua (ua ga 0 (ga (2 + 0))) (2 + 0) (ga 0)) (ux (ux g 0 (g (2 + 0))) (2 + 0) (g 0))) [0, 1, 2, 13, 14, 15, 16, 17, 8, 9, 10, 11, 12, 3, 4, 5, 6, 7, 18, 19, 20, 21, 22, 23, 24, 25, 26, 27, 28, 29, 30, 31, 32] rfl, hw.2.1.sub (ws' := xmR ci ad (ua (ua ga 0 (ga (2 + 0))) (2 + 0) (ga 0)) (ux (ux g 0 (g (2 + 0))) (2 + 0) (g 0))) [0, 1, 2, 13, 14, 15, 16, 17, 8, 9, 10, 11, 12, 3, 4, 5, 6, 7, 18, 19, 20, 21, 22, 23, 24, 25, 26, 27, 28, 29, 30, 31, 32] (by decide) rfl, hw.2.2⟩, rfl, rfl, fun j hj => ?_, rfl⟩
    rcases (show j = 0 ∨ j = 1 ∨ j = 2 ∨ j = 3 by omega) with rfl | rfl | rfl | rfl <;> rfl
  · refine ⟨ua (ua ga 0 (ga (2 + 1))) (2 + 1) (ga 0), ux (ux g 0 (g (2 + 1))) (2 + 1) (g 0), ⟨hw.1.sub (ws' := xmR ci ad (ua (ua ga 0 (ga (2 + 1))) (2 + 1) (ga 0)) (ux (ux g 0 (g (2 + 1))) (2 + 1) (g 0))) [0, 1, 2, 18, 19, 20, 21, 22, 8, 9, 10, 11, 12, 13, 14, 15, 16, 17, 3, 4, 5, 6, 7, 23, 24, 25, 26, 27, 28, 29, 30, 31, 32] rfl, hw.2.1.sub (ws' := xmR ci ad (ua (ua ga 0 (ga (2 + 1))) (2 + 1) (ga 0)) (ux (ux g 0 (g (2 + 1))) (2 + 1) (g 0))) [0, 1, 2, 18, 19, 20, 21, 22, 8, 9, 10, 11, 12, 13, 14, 15, 16, 17, 3, 4, 5, 6, 7, 23, 24, 25, 26, 27, 28, 29, 30, 31, 32] (by decide) rfl, hw.2.2⟩, rfl, rfl, fun j hj => ?_, rfl⟩
    rcases (show j = 0 ∨ j = 1 ∨ j = 2 ∨ j = 3 by omega) with rfl | rfl | rfl | rfl <;> rfl
  · refine ⟨ua (ua ga 0 (ga (2 + 2))) (2 + 2) (ga 0), ux (ux g 0 (g (2 + 2))) (2 + 2) (g 0), ⟨hw.1.sub (ws' := xmR ci ad (ua (ua ga 0 (ga (2 + 2))) (2 + 2) (ga 0)) (ux (ux g 0 (g (2 + 2))) (2 + 2) (g 0))) [0, 1, 2, 23, 24, 25, 26, 27, 8, 9, 10, 11, 12, 13, 14, 15, 16, 17, 18, 19, 20, 21, 22, 3, 4, 5, 6, 7, 28, 29, 30, 31, 32] rfl, hw.2.1.sub (ws' := xmR ci ad (ua (ua ga 0 (ga (2 + 2))) (2 + 2) (ga 0)) (ux (ux g 0 (g (2 + 2))) (2 + 2) (g 0))) [0, 1, 2, 23, 24, 25, 26, 27, 8, 9, 10, 11, 12, 13, 14, 15, 16, 17, 18, 19, 20, 21, 22, 3, 4, 5, 6, 7, 28, 29, 30, 31, 32] (by decide) rfl, hw.2.2⟩, rfl, rfl, fun j hj => ?_, rfl⟩
    rcases (show j = 0 ∨ j = 1 ∨ j = 2 ∨ j = 3 by omega) with rfl | rfl | rfl | rfl <;> rfl
  · refine ⟨ua (ua ga 0 (ga (2 + 3))) (2 + 3) (ga 0), ux (ux g 0 (g (2 + 3))) (2 + 3) (g 0), ⟨hw.1.sub (ws' := xmR ci ad (ua (ua ga 0 (ga (2 + 3))) (2 + 3) (ga 0)) (ux (ux g 0 (g (2 + 3))) (2 + 3) (g 0))) [0, 1, 2, 28, 29, 30, 31, 32, 8, 9, 10, 11, 12, 13, 14, 15, 16, 17, 18, 19, 20, 21, 22, 23, 24, 25, 26, 27, 3, 4, 5, 6, 7] rfl, hw.2.1.sub (ws' := xmR ci ad (ua (ua ga 0 (ga (2 + 3))) (2 + 3) (ga 0)) (ux (ux g 0 (g (2 + 3))) (2 + 3) (g 0))) [0, 1, 2, 28, 29, 30, 31, 32, 8, 9, 10, 11, 12, 13, 14, 15, 16, 17, 18, 19, 20, 21, 22, 23, 24, 25, 26, 27, 3, 4, 5, 6, 7] (by decide) rfl, hw.2.2⟩, rfl, rfl, fun j hj => ?_, rfl⟩
    rcases (show j = 0 ∨ j = 1 ∨ j = 2 ∨ j = 3 by omega) with rfl | rfl | rfl | rfl <;> rfl
theorem xp_rot (hw : xpB D A s ci ad (ga 0 0) (ga 1 0) (uh (uh (uh (uh (rh ga) 0 (ga 3 0)) 1 (ga 4 0)) 2 (ga 5 0)) 3 (ga 2 0)) ga g H locs) : ∃ (ga1 : GA) (g1 : XS), xmB D A s ci ad ga1 g1 H locs ∧ SD g g1 := by
  have e : rh (ua (ua (ua (ua ga (2 + 0) (ga 3)) (2 + 1) (ga 4)) (2 + 2) (ga 5)) (2 + 3) (ga 2)) = uh (uh (uh (uh (rh ga) 0 (ga 3 0)) 1 (ga 4 0)) 2 (ga 5 0)) 3 (ga 2 0) := by rw [rh_ua, rh_ua, rh_ua, rh_ua]
  rw [← e] at hw
  exact ⟨ua (ua (ua (ua ga (2 + 0) (ga 3)) (2 + 1) (ga 4)) (2 + 2) (ga 5)) (2 + 3) (ga 2), ux (ux (ux (ux g 2 (g 3)) 3 (g 4)) 4 (g 5)) 5 (g 2), ⟨hw.1.sub (ws' := xmR ci ad (ua (ua (ua (ua ga (2 + 0) (ga 3)) (2 + 1) (ga 4)) (2 + 2) (ga 5)) (2 + 3) (ga 2)) (ux (ux (ux (ux g 2 (g 3)) 3 (g 4)) 4 (g 5)) 5 (g 2))) [0, 1, 2, 3, 4, 5, 6, 7, 8, 9, 10, 11, 12, 18, 19, 20, 21, 22, 23, 24, 25, 26, 27, 28, 29, 30, 31, 32, 13, 14, 15, 16, 17] rfl, hw.2.1.sub (ws' := xmR ci ad (ua (ua (ua (ua ga (2 + 0) (ga 3)) (2 + 1) (ga 4)) (2 + 2) (ga 5)) (2 + 3) (ga 2)) (ux (ux (ux (ux g 2 (g 3)) 3 (g 4)) 4 (g 5)) 5 (g 2))) [0, 1, 2, 3, 4, 5, 6, 7, 8, 9, 10, 11, 12, 18, 19, 20, 21, 22, 23, 24, 25, 26, 27, 28, 29, 30, 31, 32, 13, 14, 15, 16, 17] (by decide) rfl, hw.2.2⟩, rfl, rfl, rfl, rfl, rfl, rfl, rfl⟩
end XROLE
set_option maxHeartbeats 4000000 in
set_option maxRecDepth 100000 in
theorem c_X1_dropOldestState (l : Launch) (g : XS) : xmMv l yX1_dropOldestState (wU yX1_dropOldestState cX1_dropOldestState 3 none) ({ frames := 0, cells := 0, slots := 0, locals := 0 } : Room) [] g (fun g1 => SD (ux g 6 (u2 (g 6) 4 3 3)) g1) := by
  refine xmMv_of (by decide) (Nat.le_of_ble_eq_true rfl) ?_
  intro p e s m args below meth c D ci tb ad ga A ls cx hr hlocks hK hA hT hw hl
  have hx := cx.1
  have hb := cx.2.1
  have hl : lv_has ls 3 [(0, .ref (ad 0))] := hl
  refine lv_aload_n hx hb dX1_dropOldestState_0 rfl (lv_at hl 0 rfl) ?_
  refine xp_get2 cx hK hw tl_RX1_19 dX1_dropOldestState_1 ?_
  refine ts_iconst (n := 0) hx hb dX1_dropOldestState_4 ?_
  refine xp_hld cx hK hw 0 (by omega) dX1_dropOldestState_5 ?_
  refine lv_astore_n (lv' := [(1, .ref (ga 2 0)), (0, .ref (ad 0))]) hx hb dX1_dropOldestState_6 rfl hl (by decide) rfl (fun ls hl => ?_)
  refine ts_iconst (n := 1) hx hb dX1_dropOldestState_7 ?_
  refine lv_istore_n (lv' := [(2, .int (iN 1)), (1, .ref (ga 2 0)), (0, .ref (ad 0))]) hx hb dX1_dropOldestState_8 rfl hl (by decide) rfl (fun ls hl => ?_)
  refine lv_iload_n hx hb dX1_dropOldestState_9 rfl (lv_at hl 0 rfl) ?_
  refine ts_iconst (n := 4) hx hb dX1_dropOldestState_10 ?_
  refine ts_icmp_ge (tgt := 34) hx hb (by omega) dX1_dropOldestState_11 (by decide) (fun c11 => absurd c11 (by omega)) (fun c11 => ?_)
  refine lv_aload_n hx hb dX1_dropOldestState_14 rfl (lv_at hl 2 rfl) ?_
  refine xp_get2 cx hK hw tl_RX1_19 dX1_dropOldestState_15 ?_
  refine lv_iload_n hx hb dX1_dropOldestState_18 rfl (lv_at hl 0 rfl) ?_
  refine ts_iconst (n := 1) hx hb dX1_dropOldestState_19 ?_
  refine ts_isub hx hb dX1_dropOldestState_20 (fun z1 hz1 => ?_)
  refine lv_aload_n hx hb dX1_dropOldestState_21 rfl (lv_at hl 2 rfl) ?_
  refine xp_get2 cx hK hw tl_RX1_19 dX1_dropOldestState_22 ?_
  refine lv_iload_n hx hb dX1_dropOldestState_25 rfl (lv_at hl 0 rfl) ?_
  refine xp_hld cx hK hw 1 (by omega) dX1_dropOldestState_26 ?_
  refine xp_hst cx hK hw 0 (by omega) 3 (by decide) dX1_dropOldestState_27 (fun H locs hw => ?_)
  obtain ⟨i1, hi1⟩ : ∃ z : Int, z = 1 + 1 := ⟨_, rfl⟩
  refine lv_iinc (v := iN i1) (lv' := [(2, .int (iN i1)), (1, .ref (ga 2 0)), (0, .ref (ad 0))]) hx hb dX1_dropOldestState_28 hl (k := 0) rfl (by rw [hi1]; exact iN_add _ _) (by decide) rfl (fun ls hl => ?_)
  refine lv_goto (tgt := 9) hx hb dX1_dropOldestState_31 (by decide) ?_
  refine lv_iload_n hx hb dX1_dropOldestState_9 rfl (lv_at hl 0 rfl) ?_
  refine ts_iconst (n := 4) hx hb dX1_dropOldestState_10 ?_
  refine ts_icmp_ge (tgt := 34) hx hb (by omega) dX1_dropOldestState_11 (by decide) (fun c11 => absurd c11 (by omega)) (fun c21 => ?_)
  refine lv_aload_n hx hb dX1_dropOldestState_14 rfl (lv_at hl 2 rfl) ?_
  refine xp_get2 cx hK hw tl_RX1_19 dX1_dropOldestState_15 ?_
  refine lv_iload_n hx hb dX1_dropOldestState_18 rfl (lv_at hl 0 rfl) ?_
  refine ts_iconst (n := 1) hx hb dX1_dropOldestState_19 ?_
  refine ts_isub hx hb dX1_dropOldestState_20 (fun z2 hz2 => ?_)
  refine lv_aload_n hx hb dX1_dropOldestState_21 rfl (lv_at hl 2 rfl) ?_
  refine xp_get2 cx hK hw tl_RX1_19 dX1_dropOldestState_22 ?_
  refine lv_iload_n hx hb dX1_dropOldestState_25 rfl (lv_at hl 0 rfl) ?_
  refine xp_hld cx hK hw 2 (by omega) dX1_dropOldestState_26 ?_
  refine xp_hst cx hK hw 1 (by omega) 4 (by decide) dX1_dropOldestState_27 (fun H locs hw => ?_)
  obtain ⟨i2, hi2⟩ : ∃ z : Int, z = i1 + 1 := ⟨_, rfl⟩
  refine lv_iinc (v := iN i2) (lv' := [(2, .int (iN i2)), (1, .ref (ga 2 0)), (0, .ref (ad 0))]) hx hb dX1_dropOldestState_28 hl (k := 0) rfl (by rw [hi2]; exact iN_add _ _) (by decide) rfl (fun ls hl => ?_)
  refine lv_goto (tgt := 9) hx hb dX1_dropOldestState_31 (by decide) ?_
  refine lv_iload_n hx hb dX1_dropOldestState_9 rfl (lv_at hl 0 rfl) ?_
  refine ts_iconst (n := 4) hx hb dX1_dropOldestState_10 ?_
  refine ts_icmp_ge (tgt := 34) hx hb (by omega) dX1_dropOldestState_11 (by decide) (fun c11 => absurd c11 (by omega)) (fun c31 => ?_)
  refine lv_aload_n hx hb dX1_dropOldestState_14 rfl (lv_at hl 2 rfl) ?_
  refine xp_get2 cx hK hw tl_RX1_19 dX1_dropOldestState_15 ?_
  refine lv_iload_n hx hb dX1_dropOldestState_18 rfl (lv_at hl 0 rfl) ?_
  refine ts_iconst (n := 1) hx hb dX1_dropOldestState_19 ?_
  refine ts_isub hx hb dX1_dropOldestState_20 (fun z3 hz3 => ?_)
  refine lv_aload_n hx hb dX1_dropOldestState_21 rfl (lv_at hl 2 rfl) ?_
  refine xp_get2 cx hK hw tl_RX1_19 dX1_dropOldestState_22 ?_
  refine lv_iload_n hx hb dX1_dropOldestState_25 rfl (lv_at hl 0 rfl) ?_
  refine xp_hld cx hK hw 3 (by omega) dX1_dropOldestState_26 ?_
  refine xp_hst cx hK hw 2 (by omega) 5 (by decide) dX1_dropOldestState_27 (fun H locs hw => ?_)
  obtain ⟨i3, hi3⟩ : ∃ z : Int, z = i2 + 1 := ⟨_, rfl⟩
  refine lv_iinc (v := iN i3) (lv' := [(2, .int (iN i3)), (1, .ref (ga 2 0)), (0, .ref (ad 0))]) hx hb dX1_dropOldestState_28 hl (k := 0) rfl (by rw [hi3]; exact iN_add _ _) (by decide) rfl (fun ls hl => ?_)
  refine lv_goto (tgt := 9) hx hb dX1_dropOldestState_31 (by decide) ?_
  refine lv_iload_n hx hb dX1_dropOldestState_9 rfl (lv_at hl 0 rfl) ?_
  refine ts_iconst (n := 4) hx hb dX1_dropOldestState_10 ?_
  refine ts_icmp_ge (tgt := 34) hx hb (by omega) dX1_dropOldestState_11 (by decide) (fun c11 => ?_) (fun c11 => absurd c11 (by omega))
  refine lv_aload_n hx hb dX1_dropOldestState_34 rfl (lv_at hl 2 rfl) ?_
  refine xp_get2 cx hK hw tl_RX1_19 dX1_dropOldestState_35 ?_
  refine ts_iconst (n := 3) hx hb dX1_dropOldestState_38 ?_
  refine lv_aload_n hx hb dX1_dropOldestState_39 rfl (lv_at hl 1 rfl) ?_
  refine xp_hst cx hK hw 3 (by omega) 2 (by decide) dX1_dropOldestState_40 (fun H locs hw => ?_)
  refine lv_aload_n hx hb dX1_dropOldestState_41 rfl (lv_at hl 2 rfl) ?_
  refine ts_iconst (n := 3) hx hb dX1_dropOldestState_42 ?_
  refine xp_put3 cx hK hw tl_RX1_150 dX1_dropOldestState_43 (fun g3 H locs hg3 hw => ?_)
  obtain ⟨ga1, g1, hw1, hsd⟩ := xp_rot hw
  exact xm_vret cx hr hlocks hw1 (by rw [← hg3]; exact hsd) dX1_dropOldestState_46
/-- what settle leaves: nothing for an error; else the state of now goes to the history (the oldest one is dropped, if there are four), the spare one is now -/
def SP (a : Int) (g g1 : XS) : Prop := (a < 0 ∧ g1 = g) ∨ (0 ≤ a ∧ ∃ (g0 : XS) (n : Nat), n ≤ 3 ∧ ((g 6 4 3 = (n : Int) ∧ g0 = g) ∨ (g 6 4 3 = 4 ∧ n = 3 ∧ SD (ux g 6 (u2 (g 6) 4 3 3)) g0)) ∧ SW (ux g0 6 (u2 (g0 6) 4 3 ((n : Int) + 1))) g1 n)
set_option maxHeartbeats 4000000 in
set_option maxRecDepth 100000 in
theorem c_X1_settle (l : Launch) (a : Int) (g : XS) (h3 : 0 ≤ g 6 4 3 ∧ g 6 4 3 ≤ 4) (hkb : -2147483648 ≤ a ∧ a ≤ 2147483647) : xmMi l yX1_settle (wU yX1_settle cX1_settle 3 (some .int)) ({ frames := 1, cells := 0, slots := 0, locals := 22 } : Room) [.int (iN a)] g (fun z g1 => z = a ∧ SP a g g1) := by
  refine xmMi_of (by decide) (Nat.le_of_ble_eq_true rfl) ?_
  intro p e s m args below meth c D ci tb ad ga A ls cx hr hlocks hK hA hT hw hl
  have hx := cx.1
  have hb := cx.2.1
  have hl : lv_has ls 3 [(0, .ref (ad 0)), (1, .int (iN a))] := hl
  refine lv_iload_n hx hb dX1_settle_0 rfl (lv_at hl 1 rfl) ?_
  refine ts_if_ge (tgt := 6) hx hb (by omega) dX1_settle_1 (by decide) (fun c1 => ?_) (fun c1 => ?_)
  · have cut18 : ∀ (n : Nat) (hn : n ≤ 3) (gc : XS) (gac : GA) (hgc : gc 6 4 3 = (n : Int)) (hq : (g 6 4 3 = (n : Int) ∧ gc = g) ∨ (g 6 4 3 = 4 ∧ n = 3 ∧ SD (ux g 6 (u2 (g 6) 4 3 3)) gc)) (H : Heap) (locs : List Loc) (hw : xmB D A s ci ad gac gc H locs) (ls : Array Slot) (hl : lv_has ls 3 [(0, .ref (ad 0)), (1, .int (iN a))]), W p l e ({ frames := 1, cells := 0, slots := 0, locals := 22 } : Room) s m args below meth c H locs 0 0 (xmQi D ci ad A below args s (fun z g1 => z = a ∧ SP a g g1)) (F0 m 18 ls []) := by
      intro n hn gc gac hgc hq H locs hw ls hl
      refine lv_aload_n hx hb dX1_settle_18 rfl (lv_at hl 0 rfl) ?_
      refine xp_get2 cx hK hw tl_RX1_19 dX1_settle_19 ?_
      refine lv_aload_n hx hb dX1_settle_22 rfl (lv_at hl 0 rfl) ?_
      refine xp_get3 cx hK hw tl_RX1_150 dX1_settle_23 (fun z23 hz23 => ?_)
      refine xp_hld cx hK hw n (by omega) dX1_settle_26 ?_
      refine lv_astore_n (lv' := [(2, .ref (rh gac n)), (0, .ref (ad 0)), (1, .int (iN a))]) hx hb dX1_settle_27 rfl hl (by decide) rfl (fun ls hl => ?_)
      refine lv_aload_n hx hb dX1_settle_28 rfl (lv_at hl 1 rfl) ?_
      refine xp_get2 cx hK hw tl_RX1_19 dX1_settle_29 ?_
      refine lv_aload_n hx hb dX1_settle_32 rfl (lv_at hl 1 rfl) ?_
      refine xp_get3 cx hK hw tl_RX1_150 dX1_settle_33 (fun z33 hz33 => ?_)
      refine lv_aload_n hx hb dX1_settle_36 rfl (lv_at hl 1 rfl) ?_
      refine xp_get0 cx hK hw tl_RX1_10 dX1_settle_37 ?_
      refine xp_hst cx hK hw n (by omega) 0 (by decide) dX1_settle_40 (fun H locs hw => ?_)
      refine lv_aload_n hx hb dX1_settle_41 rfl (lv_at hl 1 rfl) ?_
      refine lv_dup hx hb dX1_settle_42 rfl ?_
      refine xp_get3 cx hK hw tl_RX1_150 dX1_settle_43 (fun z43 hz43 => ?_)
      refine ts_iconst (n := 1) hx hb dX1_settle_46 ?_
      refine ts_iadd hx hb dX1_settle_47 (fun z47 hz47 => ?_)
      refine xp_put3 cx hK hw tl_RX1_150 dX1_settle_48 (fun g48 H locs hg48 hw => ?_)
      refine lv_aload_n hx hb dX1_settle_51 rfl (lv_at hl 1 rfl) ?_
      refine lv_aload_n hx hb dX1_settle_52 rfl (lv_at hl 1 rfl) ?_
      refine xp_get1 cx hK hw tl_RX1_16 dX1_settle_53 ?_
      refine xp_put0 cx hK hw tl_RX1_10 dX1_settle_56 (fun H locs hw => ?_)
      refine lv_aload_n hx hb dX1_settle_59 rfl (lv_at hl 1 rfl) ?_
      refine lv_aload_n hx hb dX1_settle_60 rfl (lv_at hl 0 rfl) ?_
      refine xp_put1 cx hK hw tl_RX1_16 dX1_settle_61 (fun H locs hw => ?_)
      refine lv_iload_n hx hb dX1_settle_64 rfl (lv_at hl 2 rfl) ?_
      obtain ⟨ga1, g1, hw1, hsw⟩ := xp_swap n (by omega) hw
      have e47 : z47 = (n : Int) + 1 := by omega
      rw [hg48, e47] at hsw
      exact xm_ret cx hr hlocks hw1 ⟨rfl, Or.inr ⟨c1, gc, n, hn, hq, hsw⟩⟩ dX1_settle_65
    refine lv_aload_n hx hb dX1_settle_6 rfl (lv_at hl 0 rfl) ?_
    refine xp_get3 cx hK hw tl_RX1_150 dX1_settle_7 (fun z7 hz7 => ?_)
    refine ts_iconst (n := 4) hx hb dX1_settle_10 ?_
    refine ts_icmp_lt (tgt := 18) hx hb (by omega) dX1_settle_11 (by decide) (fun c11 => ?_) (fun c11 => ?_)
    · exact cut18 (g 6 4 3).toNat (by omega) g ga (by omega) (Or.inl ⟨by omega, rfl⟩) _ _ hw _ (lv_sub hl [0, 1] rfl)
    · refine lv_aload_n hx hb dX1_settle_14 rfl (lv_at hl 0 rfl) ?_
      refine xm_callv (rest := []) cx hK hT hA hw hl (c_X1_dropOldestState l g) tg_RX1_173 ⟨rfl, rfl⟩ 0 rfl (by decide +kernel) ⟨Nat.le_of_ble_eq_true rfl, Nat.le_of_ble_eq_true rfl⟩ ⟨Nat.zero_le _, Nat.zero_le _⟩ (Nat.le_of_ble_eq_true rfl) dX1_settle_15 rfl (fun ga15 g15 H locs hq15 hw => ?_)
      have h6 : g15 6 4 3 = ((3 : Nat) : Int) := by rw [hq15.2.2.2.2.2.2, ux_s, u2_s]; rfl
      exact cut18 3 (by omega) g15 ga15 h6 (Or.inr ⟨by omega, rfl, hq15⟩) _ _ hw _ (lv_sub hl [0, 1] rfl)
  · refine lv_iload_n hx hb dX1_settle_4 rfl (lv_at hl 1 rfl) ?_
    exact xm_ret cx hr hlocks hw ⟨rfl, Or.inl ⟨c1, rfl⟩⟩ dX1_settle_5
/-- the picture behind settle -/
theorem FX_SP {g g1 : XS} {T : TT} {O : Int × StT} {a : Int} (hf : FX g T) (h4 : T.2.1.1 ≤ 4) (hr : RX (g 1) O.2) (ha : a = O.1) (hs : SP a g g1) : FX g1 (stepT T O) := by
  obtain ⟨f1, f2, f3, f4, f5⟩ := hf
  unfold stepT
  rcases hs with ⟨h1, rfl⟩ | ⟨h1, g0, n, hn, hg, hw⟩
  · rw [if_pos (by omega)]
    exact ⟨f1, f2, f3, f4, f5⟩
  · rw [if_neg (by omega)]
    obtain ⟨w0, w1, w2, w6⟩ := hw
    have ne : ∀ j : Nat, j < 4 → ux g0 6 (u2 (g0 6) 4 3 ((n : Int) + 1)) (2 + j) = g0 (2 + j) := fun j hj => ux_n _ _ (by omega)
    rw [ux_n _ _ (by decide)] at w0
    rw [ux_s] at w6
    rcases hg with ⟨hg, rfl⟩ | ⟨hg, rfl, hd⟩
    · have hN : T.2.1.1 = n := by omega
      refine ⟨by rw [w0]; exact hr, ?_, fun b hb => ?_, by rw [w6, u2_k _ (by decide)]; exact f4, fun j hj => by rw [w6, u2_a _ (by decide)]; exact f5 j hj⟩
      · show g1 6 4 3 = (pushN T.2.1.1 : Int)
        rw [w6, u2_s, hN]
        unfold pushN
        rw [if_neg (by omega)]
        omega
      · have hb2 : b < pushN T.2.1.1 := hb
        show RX (g1 (2 + b)) (pushH T.2.1.1 T.2.1.2 T.1 b)
        rw [hN] at hb2 f3 ⊢
        unfold pushN at hb2
        rw [if_neg (by omega)] at hb2
        unfold pushH
        rw [if_neg (by omega), w2 b (by omega)]
        by_cases e : b = n
        · rw [if_pos e, if_pos e, ux_n _ _ (by decide)]; exact f1
        · rw [if_neg e, if_neg e, ne b (by omega)]; exact f3 b (by omega)
    · have hN : T.2.1.1 = 4 := by omega
      obtain ⟨d0, d1, d2, d3, d4, d5, d6⟩ := hd
      rw [ux_n _ _ (by decide)] at d0 d1 d2 d3 d4 d5
      rw [ux_s] at d6
      refine ⟨by rw [w0, d1]; exact hr, ?_, fun b hb => ?_, by rw [w6, u2_k _ (by decide), d6, u2_k _ (by decide)]; exact f4, fun j hj => by rw [w6, u2_a _ (by decide), d6, u2_a _ (by decide)]; exact f5 j hj⟩
      · show g1 6 4 3 = (pushN T.2.1.1 : Int)
        rw [w6, u2_s, hN]
        rfl
      · have hb2 : b < pushN T.2.1.1 := hb
        show RX (g1 (2 + b)) (pushH T.2.1.1 T.2.1.2 T.1 b)
        rw [hN] at hb2 f3 ⊢
        unfold pushN at hb2
        rw [if_pos rfl] at hb2
        unfold pushH
        rw [if_pos rfl, w2 b (by omega)]
        by_cases e : b = 3
        · rw [if_pos e, if_pos e, ux_n _ _ (by decide), d0]; exact f1
        · rw [if_neg e, if_neg e, ne b (by omega)]
          have hx : g0 (2 + b) = g (2 + (b + 1)) := by
            rcases (show b = 0 ∨ b = 1 ∨ b = 2 by omega) with rfl | rfl | rfl
            · exact d2
            · exact d3
            · exact d4
          rw [hx]
          exact f3 (b + 1) (by omega)
theorem FX_SU {g g1 : XS} {T : TT} {n : Nat} (hf : FX g T) (h4 : T.2.1.1 ≤ 4) (hn : T.2.1.1 = n + 1) (hw : SU (ux g 6 (u2 (g 6) 4 3 (n : Int))) g1 n) : (undoT T).1 = (n : Int) ∧ FX g1 (undoT T).2 := by
  obtain ⟨f1, f2, f3, f4, f5⟩ := hf
  obtain ⟨w0, w1, w2, w6⟩ := hw
  rw [ux_n _ _ (by omega)] at w0
  rw [ux_s] at w6
  unfold undoT
  rw [if_neg (by omega)]
  refine ⟨by show (T.2.1.1 : Int) - 1 = n; omega, ?_⟩
  rw [hn]
  refine ⟨?_, by rw [w6, u2_s]; rfl, fun b hb => ?_, by rw [w6, u2_k _ (by decide)]; exact f4, fun j hj => by rw [w6, u2_a _ (by decide)]; exact f5 j hj⟩
  · show RX (g1 0) (T.2.1.2 (n + 1 - 1))
    rw [w0]
    exact f3 n (by omega)
  · have hb2 : b < n + 1 - 1 := hb
    show RX (g1 (2 + b)) (T.2.1.2 b)
    rw [w2 b (by omega), if_neg (by omega), ux_n _ _ (by omega)]
    exact f3 b (by omega)
set_option maxHeartbeats 4000000 in
set_option maxRecDepth 100000 in
theorem c_X1_undo (l : Launch) (g : XS) (T : TT) (hf : FX g T) (hv : VT T) : xmMi l yX1_undo (wU yX1_undo cX1_undo 2 (some .int)) ({ frames := 0, cells := 0, slots := 0, locals := 0 } : Room) [] g (fun z g1 => z = (undoT T).1 ∧ FX g1 (undoT T).2) := by
  refine xmMi_of (by decide) (Nat.le_of_ble_eq_true rfl) ?_
  intro p e s m args below meth c D ci tb ad ga A ls cx hr hlocks hK hA hT hw hl
  have hx := cx.1
  have hb := cx.2.1
  have hl : lv_has ls 2 [(0, .ref (ad 0))] := hl
  have h3 := hf.2.1
  have h4 := hv.2.1
  refine lv_aload_n hx hb dX1_undo_0 rfl (lv_at hl 0 rfl) ?_
  refine xp_get3 cx hK hw tl_RX1_150 dX1_undo_1 (fun z1 hz1 => ?_)
  refine ts_if_le (tgt := 15) hx hb (by omega) dX1_undo_4 (by decide) (fun c4 => ?_) (fun c4 => ?_)
  · have hR : undoT T = (-1000002, T) := by
      unfold undoT
      rw [if_pos (by omega)]
    refine ts_ldc (z := -1000002) hx hb cx.2.2.2.1 cx.2.2.2.2 tk_RX1_60 dX1_undo_15 ?_
    exact xm_ret cx hr hlocks hw (by rw [hR]; exact ⟨rfl, hf⟩) dX1_undo_17
  · refine lv_aload_n hx hb dX1_undo_7 rfl (lv_at hl 0 rfl) ?_
    refine xp_get3 cx hK hw tl_RX1_150 dX1_undo_8 (fun z8 hz8 => ?_)
    refine ts_iconst (n := 4) hx hb dX1_undo_11 ?_
    refine ts_icmp_le (tgt := 18) hx hb (by omega) dX1_undo_12 (by decide) (fun c12 => ?_) (fun c12 => absurd c12 (by omega))
    obtain ⟨n, hn⟩ : ∃ n : Nat, T.2.1.1 = n + 1 := ⟨T.2.1.1 - 1, by omega⟩
    refine lv_aload_n hx hb dX1_undo_18 rfl (lv_at hl 0 rfl) ?_
    refine lv_dup hx hb dX1_undo_19 rfl ?_
    refine xp_get3 cx hK hw tl_RX1_150 dX1_undo_20 (fun z20 hz20 => ?_)
    refine ts_iconst (n := 1) hx hb dX1_undo_23 ?_
    refine ts_isub hx hb dX1_undo_24 (fun z24 hz24 => ?_)
    refine xp_put3 cx hK hw tl_RX1_150 dX1_undo_25 (fun g25 H locs hg25 hw => ?_)
    have h25 : g25 6 4 3 = z24 := by rw [hg25, ux_s, u2_s]
    refine lv_aload_n hx hb dX1_undo_28 rfl (lv_at hl 0 rfl) ?_
    refine xp_get0 cx hK hw tl_RX1_10 dX1_undo_29 ?_
    refine lv_astore_n (lv' := [(1, .ref (ga 0 0)), (0, .ref (ad 0))]) hx hb dX1_undo_32 rfl hl (by decide) rfl (fun ls hl => ?_)
    refine lv_aload_n hx hb dX1_undo_33 rfl (lv_at hl 1 rfl) ?_
    refine lv_aload_n hx hb dX1_undo_34 rfl (lv_at hl 1 rfl) ?_
    refine xp_get2 cx hK hw tl_RX1_19 dX1_undo_35 ?_
    refine lv_aload_n hx hb dX1_undo_38 rfl (lv_at hl 1 rfl) ?_
    refine xp_get3 cx hK hw tl_RX1_150 dX1_undo_39 (fun z39 hz39 => ?_)
    refine xp_hld cx hK hw n (by omega) dX1_undo_42 ?_
    refine xp_put0 cx hK hw tl_RX1_10 dX1_undo_43 (fun H locs hw => ?_)
    refine lv_aload_n hx hb dX1_undo_46 rfl (lv_at hl 1 rfl) ?_
    refine xp_get2 cx hK hw tl_RX1_19 dX1_undo_47 ?_
    refine lv_aload_n hx hb dX1_undo_50 rfl (lv_at hl 1 rfl) ?_
    refine xp_get3 cx hK hw tl_RX1_150 dX1_undo_51 (fun z51 hz51 => ?_)
    refine lv_aload_n hx hb dX1_undo_54 rfl (lv_at hl 0 rfl) ?_
    refine xp_hst cx hK hw n (by omega) 0 (by decide) dX1_undo_55 (fun H locs hw => ?_)
    refine lv_aload_n hx hb dX1_undo_56 rfl (lv_at hl 1 rfl) ?_
    refine xp_get3 cx hK hw tl_RX1_150 dX1_undo_57 (fun z57 hz57 => ?_)
    obtain ⟨ga1, g1, hw1, hsw⟩ := xp_swapU n (by omega) hw
    have e24 : z24 = (n : Int) := by omega
    rw [hg25, e24] at hsw
    have hF := FX_SU hf h4 hn hsw
    exact xm_ret cx hr hlocks hw1 ⟨by omega, hF.2⟩ dX1_undo_60
