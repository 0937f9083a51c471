/-! the orders of a text -/
def chF (n : Nat) (tx : Nat → Int) (j : Nat) : Int := if j < n then tx j else 0
def dgs (n : Nat) (tx : Nat → Int) (a : Nat) : Nat := if (chF n tx a = 112 ∨ chF n tx a = 98 ∨ chF n tx a = 120 ∨ chF n tx a = 103) ∧ (48 ≤ chF n tx (a + 1) ∧ chF n tx (a + 1) ≤ 57) then (if (48 ≤ chF n tx (a + 2) ∧ chF n tx (a + 2) ≤ 57) then 2 else 1) else 0
def beh (n : Nat) (tx : Nat → Int) (a : Nat) : Nat := a + 1 + dgs n tx a
def okF (n : Nat) (tx : Nat → Int) (a : Nat) : Bool := decide ((chF n tx a = 101 ∨ ((chF n tx a = 112 ∨ chF n tx a = 98 ∨ chF n tx a = 120 ∨ chF n tx a = 103) ∧ dgs n tx a ≠ 0)) ∧ chF n tx (beh n tx a) = 59)
def wrA (n : Nat) (tx : Nat → Int) (a : Nat) : Int := if chF n tx a = 101 ∨ (chF n tx a = 112 ∨ chF n tx a = 98 ∨ chF n tx a = 120 ∨ chF n tx a = 103) then 1 + (dgs n tx a : Int) else 0
def numF (n : Nat) (tx : Nat → Int) (a : Nat) : Int := if dgs n tx a = 0 then 0 else if dgs n tx a = 1 then chF n tx (a + 1) - 48 else 10 * (chF n tx (a + 1) - 48) + chF n tx (a + 2) - 48
theorem dgs_c (n : Nat) (tx : Nat → Int) (a : Nat) : ((chF n tx a = 112 ∨ chF n tx a = 98 ∨ chF n tx a = 120 ∨ chF n tx a = 103) ∧ (48 ≤ chF n tx (a + 1) ∧ chF n tx (a + 1) ≤ 57) ∧ (48 ≤ chF n tx (a + 2) ∧ chF n tx (a + 2) ≤ 57) ∧ dgs n tx a = 2 ∧ numF n tx a = 10 * (chF n tx (a + 1) - 48) + chF n tx (a + 2) - 48) ∨ ((chF n tx a = 112 ∨ chF n tx a = 98 ∨ chF n tx a = 120 ∨ chF n tx a = 103) ∧ (48 ≤ chF n tx (a + 1) ∧ chF n tx (a + 1) ≤ 57) ∧ ¬ (48 ≤ chF n tx (a + 2) ∧ chF n tx (a + 2) ≤ 57) ∧ dgs n tx a = 1 ∧ numF n tx a = chF n tx (a + 1) - 48) ∨ (¬ ((chF n tx a = 112 ∨ chF n tx a = 98 ∨ chF n tx a = 120 ∨ chF n tx a = 103) ∧ (48 ≤ chF n tx (a + 1) ∧ chF n tx (a + 1) ≤ 57)) ∧ dgs n tx a = 0 ∧ numF n tx a = 0) := by
  unfold numF
  by_cases h1 : (chF n tx a = 112 ∨ chF n tx a = 98 ∨ chF n tx a = 120 ∨ chF n tx a = 103) ∧ (48 ≤ chF n tx (a + 1) ∧ chF n tx (a + 1) ≤ 57)
  · by_cases h2 : (48 ≤ chF n tx (a + 2) ∧ chF n tx (a + 2) ≤ 57)
    · have e : dgs n tx a = 2 := by
        unfold dgs
        rw [if_pos h1, if_pos h2]
      rw [e, if_neg (by decide), if_neg (by decide)]
      exact Or.inl ⟨h1.1, h1.2, h2, rfl, rfl⟩
    · have e : dgs n tx a = 1 := by
        unfold dgs
        rw [if_pos h1, if_neg h2]
      rw [e, if_neg (by decide), if_pos rfl]
      exact Or.inr (Or.inl ⟨h1.1, h1.2, h2, rfl, rfl⟩)
  · have e : dgs n tx a = 0 := by
      unfold dgs
      rw [if_neg h1]
    rw [e, if_pos rfl]
    exact Or.inr (Or.inr ⟨h1, rfl, rfl⟩)
theorem okF_t {n : Nat} {tx : Nat → Int} {a : Nat} : okF n tx a = true ↔ ((chF n tx a = 101 ∨ ((chF n tx a = 112 ∨ chF n tx a = 98 ∨ chF n tx a = 120 ∨ chF n tx a = 103) ∧ dgs n tx a ≠ 0)) ∧ chF n tx (beh n tx a) = 59) := by
  unfold okF
  exact decide_eq_true_iff
theorem okF_n {n : Nat} {tx : Nat → Int} {a : Nat} (h : okF n tx a = true) : beh n tx a < n := by
  have h1 := (okF_t.mp h).2
  unfold chF at h1
  split at h1
  · assumption
  · exact absurd h1 (by decide)
def doO (S : StT) (lt nm : Int) : Int × StT := if lt = 112 then playO S nm else if lt = 98 then buyO S nm else if lt = 120 then scrO S nm else if lt = 103 then begO S nm else endO S
/-- how many, why not, where, the cause, the state -/
def goT (n : Nat) (tx : Nat → Int) : Nat → Nat → Int → StT → Int × (Int × (Int × (Int × StT)))
  | 0, _, k, S => (k, 0, 0, 0, S)
  | f + 1, a, k, S => if n ≤ a then (k, 0, 0, 0, S) else if okF n tx a = true then (if (doO S (chF n tx a) (numF n tx a)).1 < 0 then (k, 2, a, (doO S (chF n tx a) (numF n tx a)).1, S) else goT n tx f (beh n tx a + 1) (k + 1) (doO S (chF n tx a) (numF n tx a)).2) else (k, 1, a, wrA n tx a, S)
theorem goT_end (n : Nat) (tx : Nat → Int) : ∀ (f a : Nat) (k : Int) (S : StT), n ≤ a → goT n tx f a k S = (k, 0, 0, 0, S)
  | 0, _, _, _, _ => rfl
  | f + 1, a, k, S, h => by
    show (if n ≤ a then _ else _) = _
    rw [if_pos h]
theorem VS_do {S : StT} (h : VS S) (lt nm : Int) : VS (doO S lt nm).2 ∧ -1000002 ≤ (doO S lt nm).1 := by
  have h1 := VS_ops h
  have h2 := opLo h
  unfold doO
  split
  · exact ⟨h1.1 _, h2.1 _⟩
  · split
    · exact ⟨h1.2.1 _, h2.2.1 _⟩
    · split
      · exact ⟨h1.2.2.1 _, h2.2.2 _⟩
      · split
        · refine ⟨h1.2.2.2.2.1 _, ?_⟩
          unfold begO
          split
          · show (-1000002 : Int) ≤ -1000001; decide
          · show (-1000002 : Int) ≤ 60 - 7 * nm; omega
        · refine ⟨h1.2.2.2.1, ?_⟩
          unfold endO
          split
          · show (-1000002 : Int) ≤ -1000002; decide
          · have := (VS_nums (VS_end h)).2.1
            show (-1000002 : Int) ≤ (endA S).1 1
            omega
theorem goT_VS (n : Nat) (tx : Nat → Int) : ∀ (f a : Nat) (k : Int) (S : StT), VS S → 0 ≤ k → VS (goT n tx f a k S).2.2.2.2 ∧ 0 ≤ (goT n tx f a k S).1
  | 0, _, _, _, h, hk => ⟨h, hk⟩
  | f + 1, a, k, S, h, hk => by
    show VS (if n ≤ a then ((k, 0, 0, 0, S) : Int × (Int × (Int × (Int × StT)))) else if okF n tx a = true then (if (doO S (chF n tx a) (numF n tx a)).1 < 0 then (k, 2, a, (doO S (chF n tx a) (numF n tx a)).1, S) else goT n tx f (beh n tx a + 1) (k + 1) (doO S (chF n tx a) (numF n tx a)).2) else (k, 1, a, wrA n tx a, S)).2.2.2.2 ∧ 0 ≤ (if n ≤ a then ((k, 0, 0, 0, S) : Int × (Int × (Int × (Int × StT)))) else if okF n tx a = true then (if (doO S (chF n tx a) (numF n tx a)).1 < 0 then (k, 2, a, (doO S (chF n tx a) (numF n tx a)).1, S) else goT n tx f (beh n tx a + 1) (k + 1) (doO S (chF n tx a) (numF n tx a)).2) else (k, 1, a, wrA n tx a, S)).1
    by_cases h1 : n ≤ a
    · rw [if_pos h1]; exact ⟨h, hk⟩
    · rw [if_neg h1]
      by_cases h2 : okF n tx a = true
      · rw [if_pos h2]
        by_cases h3 : (doO S (chF n tx a) (numF n tx a)).1 < 0
        · rw [if_pos h3]; exact ⟨h, hk⟩
        · rw [if_neg h3]
          exact goT_VS n tx f _ _ _ (VS_do h _ _).1 (by omega)
      · rw [if_neg h2]; exact ⟨h, hk⟩
def TXM (g : GS) (n : Nat) (tx : Nat → Int) : Prop := g 4 5 = (n : Int) ∧ n ≤ 60 ∧ (∀ j : Nat, j < n → g 3 j = tx j) ∧ (∀ j : Nat, j < n → 32 ≤ tx j ∧ tx j ≤ 126)
theorem chF_b {g : GS} {n : Nat} {tx : Nat → Int} (h : TXM g n tx) (j : Nat) : 0 ≤ chF n tx j ∧ chF n tx j ≤ 126 := by
  unfold chF
  split
  · have := h.2.2.2 j (by assumption); omega
  · omega
def SG (g1 g : GS) : Prop := g1 0 = g 0 ∧ g1 1 = g 1 ∧ g1 2 = g 2 ∧ g1 3 = g 3 ∧ (∀ j : Nat, j ≠ 6 → j ≠ 7 → g1 4 j = g 4 j)
def RG (g1 g : GS) : Prop := g1 0 = g 0 ∧ g1 1 = g 1 ∧ g1 2 = g 2 ∧ g1 3 = g 3 ∧ (∀ j : Nat, j ≠ 6 → j ≠ 7 → j ≠ 8 → j ≠ 9 → g1 4 j = g 4 j)
def GO (g1 g : GS) : Prop := g1 1 = g 1 ∧ g1 2 = g 2 ∧ g1 3 = g 3 ∧ g1 4 3 = g 4 3 ∧ g1 4 5 = g 4 5
theorem RG_tr {a b c : GS} (h1 : RG a b) (h2 : RG b c) : RG a c := ⟨h1.1.trans h2.1, h1.2.1.trans h2.2.1, h1.2.2.1.trans h2.2.2.1, h1.2.2.2.1.trans h2.2.2.2.1, fun j q6 q7 q8 q9 => (h1.2.2.2.2 j q6 q7 q8 q9).trans (h2.2.2.2.2 j q6 q7 q8 q9)⟩
theorem RG_SG {a b : GS} (h : SG a b) : RG a b := ⟨h.1, h.2.1, h.2.2.1, h.2.2.2.1, fun j q6 q7 _ _ => h.2.2.2.2 j q6 q7⟩
theorem RG_set (g : GS) (k : Nat) (v : Int) (hk : k = 6 ∨ k = 7 ∨ k = 8 ∨ k = 9) : RG (u2 g 4 k v) g := ⟨u2_row _ (by decide), u2_row _ (by decide), u2_row _ (by decide), u2_row _ (by decide), fun j q6 q7 q8 q9 => by rw [u2_4, if_neg (by omega)]⟩
theorem GO_tr {a b c : GS} (h1 : GO a b) (h2 : GO b c) : GO a c := ⟨h1.1.trans h2.1, h1.2.1.trans h2.2.1, h1.2.2.1.trans h2.2.2.1, h1.2.2.2.1.trans h2.2.2.2.1, h1.2.2.2.2.trans h2.2.2.2.2⟩
theorem GO_RG {a b : GS} (h : RG a b) : GO a b := ⟨h.2.1, h.2.2.1, h.2.2.2.1, h.2.2.2.2 3 (by decide) (by decide) (by decide) (by decide), h.2.2.2.2 5 (by decide) (by decide) (by decide) (by decide)⟩
theorem GO_ME {a b : GS} (h : ME a b) : GO a b := ⟨h.1, h.2.1, h.2.2.1, congrFun h.2.2.2 3, congrFun h.2.2.2 5⟩
theorem GO_set (g : GS) (k : Nat) (v : Int) (hk : k ≠ 3 ∧ k ≠ 5) : GO (u2 g 4 k v) g := ⟨u2_row _ (by decide), u2_row _ (by decide), u2_row _ (by decide), by rw [u2_4, if_neg (fun q => hk.1 q.symm)], by rw [u2_4, if_neg (fun q => hk.2 q.symm)]⟩
theorem TXM_GO {a b : GS} {n : Nat} {tx : Nat → Int} (h : TXM b n tx) (h1 : GO a b) : TXM a n tx := ⟨h1.2.2.2.2.trans h.1, h.2.1, fun j hj => by rw [h1.2.2.1]; exact h.2.2.1 j hj, h.2.2.2⟩
set_option maxHeartbeats 4000000 in
set_option maxRecDepth 100000 in
theorem c_X2_sign (l : Launch) (lo hi : Int) (g : GS) (n : Nat) (tx : Nat → Int) (a : Nat) (hx0 : TXM g n tx) (ha : g 4 6 = (a : Int) ∧ a ≤ 200) (hw7 : g 4 7 = 0 ∨ g 4 7 = 1) (hkb : (-2147483648 ≤ lo ∧ lo ≤ 2147483647) ∧ (-2147483648 ≤ hi ∧ hi ≤ 2147483647)) : mmMi l yX2_sign (wU yX2_sign cX2_sign 4 (some .int)) ({ frames := 1, cells := 0, slots := 0, locals := 22 } : Room) [.int (iN lo), .int (iN hi)] g (fun z g1 => z = chF n tx a ∧ SG g1 g ∧ ((g 4 7 = 0 ∧ lo ≤ z ∧ z ≤ hi ∧ g1 4 7 = 0 ∧ g1 4 6 = (a : Int) + 1) ∨ (¬ (g 4 7 = 0 ∧ lo ≤ z ∧ z ≤ hi) ∧ g1 4 7 = 1 ∧ g1 4 6 = (a : Int)))) := by
  refine mmMi_of (by decide) (Nat.le_of_ble_eq_true rfl) ?_
  intro p e s m args below meth c D cI tb ad A ls cx hr hlocks hK hA hw hl
  have hx := cx.1
  have hb := cx.2.1
  have hl : lv_has ls 4 [(0, .ref (ad 0)), (1, .int (iN lo)), (2, .int (iN hi))] := hl
  have hn5 := hx0.1
  have hn60 := hx0.2.1
  have hcb := chF_b hx0 a
  refine lv_aload_n hx hb dX2_sign_0 rfl (lv_at hl 0 rfl) ?_
  refine mm_get6 cx hK hw tl_RX2_167 dX2_sign_1 (fun z1 hz1 => ?_)
  refine lv_aload_n hx hb dX2_sign_4 rfl (lv_at hl 0 rfl) ?_
  refine mm_get5 cx hK hw tl_RX2_163 dX2_sign_5 (fun z5 hz5 => ?_)
  refine ts_icmp_ge (tgt := 23) hx hb (by omega) dX2_sign_8 (by decide) (fun c8 => ?_) (fun c8 => ?_)
  · skip
    have hch : chF n tx a = 0 := by
      unfold chF
      rw [if_neg (by omega)]
    refine ts_iconst hx hb dX2_sign_23 ?_
    refine lv_istore_n (lv' := [(3, .int (iN 0)), (0, .ref (ad 0)), (1, .int (iN lo)), (2, .int (iN hi))]) hx hb dX2_sign_24 rfl hl (by decide) rfl (fun ls hl => ?_)
    refine lv_aload_n hx hb dX2_sign_25 rfl (lv_at hl 1 rfl) ?_
    refine lv_aload_n hx hb dX2_sign_26 rfl (lv_at hl 1 rfl) ?_
    refine mm_get7 cx hK hw tl_RX2_170 dX2_sign_27 (fun z27 hz27 => ?_)
    refine ts_if_ne (tgt := 42) hx hb (by omega) dX2_sign_30 (by decide) (fun c30 => ?_) (fun c30 => ?_)
    · skip
      refine ts_iconst hx hb dX2_sign_42 ?_
      refine lv_goto (tgt := 47) hx hb dX2_sign_43 (by decide) ?_
      obtain ⟨w7, hw7v⟩ : ∃ w : Int, w = 1 := ⟨_, rfl⟩
      refine mm_put7 cx hK hw (by first | omega | (rw [hov]; split <;> omega)) tl_RX2_170 dX2_sign_47 (fun g47 H locs hg47 hw => ?_)
      have h476 : g47 4 6 = g 4 6 := by rw [hg47, u2_4, if_neg (by decide)]
      have h477 : g47 4 7 = w7 := by rw [hg47, u2_4, if_pos rfl, hw7v]
      refine lv_aload_n hx hb dX2_sign_50 rfl (lv_at hl 1 rfl) ?_
      refine lv_dup hx hb dX2_sign_51 rfl ?_
      refine mm_get6 cx hK hw tl_RX2_167 dX2_sign_52 (fun z52 hz52 => ?_)
      rw [h476] at hz52
      refine lv_aload_n hx hb dX2_sign_55 rfl (lv_at hl 1 rfl) ?_
      refine mm_get7 cx hK hw tl_RX2_170 dX2_sign_56 (fun z56 hz56 => ?_)
      refine ts_if_eq (tgt := 66) hx hb (by omega) dX2_sign_59 (by decide) (fun c59 => ?_) (fun c59 => ?_)
      · skip
        refine ts_iconst hx hb dX2_sign_66 ?_
        refine ts_iadd hx hb dX2_sign_67 (fun z67 hz67 => ?_)
        refine mm_put6 cx hK hw tl_RX2_167 dX2_sign_68 (fun g68 H locs hg68 hw => ?_)
        have h686 : g68 4 6 = z67 := by rw [hg68, u2_4, if_pos rfl]
        have h687 : g68 4 7 = g47 4 7 := by rw [hg68, u2_4, if_neg (by decide)]
        have h688 : SG g68 g := by
          rw [hg68, hg47]
          refine ⟨by rw [u2_row _ (by decide), u2_row _ (by decide)], by rw [u2_row _ (by decide), u2_row _ (by decide)], by rw [u2_row _ (by decide), u2_row _ (by decide)], by rw [u2_row _ (by decide), u2_row _ (by decide)], fun j q6 q7 => by rw [u2_4, if_neg q6, u2_4, if_neg q7]⟩
        refine lv_iload_n hx hb dX2_sign_71 rfl (lv_at hl 0 rfl) ?_
        exact mm_ret cx hr hlocks hw (⟨hch.symm, h688, by omega⟩) dX2_sign_72
      · skip
        refine ts_iconst hx hb dX2_sign_62 ?_
        refine lv_goto (tgt := 67) hx hb dX2_sign_63 (by decide) ?_
        refine ts_iadd hx hb dX2_sign_67 (fun z67 hz67 => ?_)
        refine mm_put6 cx hK hw tl_RX2_167 dX2_sign_68 (fun g68 H locs hg68 hw => ?_)
        have h686 : g68 4 6 = z67 := by rw [hg68, u2_4, if_pos rfl]
        have h687 : g68 4 7 = g47 4 7 := by rw [hg68, u2_4, if_neg (by decide)]
        have h688 : SG g68 g := by
          rw [hg68, hg47]
          refine ⟨by rw [u2_row _ (by decide), u2_row _ (by decide)], by rw [u2_row _ (by decide), u2_row _ (by decide)], by rw [u2_row _ (by decide), u2_row _ (by decide)], by rw [u2_row _ (by decide), u2_row _ (by decide)], fun j q6 q7 => by rw [u2_4, if_neg q6, u2_4, if_neg q7]⟩
        refine lv_iload_n hx hb dX2_sign_71 rfl (lv_at hl 0 rfl) ?_
        exact mm_ret cx hr hlocks hw (⟨hch.symm, h688, by omega⟩) dX2_sign_72
    · skip
      refine lv_iload_n hx hb dX2_sign_33 rfl (lv_at hl 0 rfl) ?_
      refine lv_iload_n hx hb dX2_sign_34 rfl (lv_at hl 2 rfl) ?_
      refine lv_iload_n hx hb dX2_sign_35 rfl (lv_at hl 3 rfl) ?_
      refine ps_call (rest := [.ref (ad 0)]) cx hl (c_X2_in l 0 lo hi (by omega)) tg_RX2_48 ⟨rfl, rfl⟩ 3 rfl (by decide +kernel) ⟨Nat.le_of_ble_eq_true rfl, Nat.le_of_ble_eq_true rfl⟩ ⟨Nat.zero_le _, Nat.zero_le _⟩ (Nat.le_of_ble_eq_true rfl) dX2_sign_36 (rfl) (fun z36 hz36 => ?_)
      refine ts_if_ne (tgt := 46) hx hb (by omega) dX2_sign_39 (by decide) (fun c39 => ?_) (fun c39 => ?_)
      · skip
        refine ts_iconst hx hb dX2_sign_46 ?_
        obtain ⟨w7, hw7v⟩ : ∃ w : Int, w = 0 := ⟨_, rfl⟩
        refine mm_put7 cx hK hw (by first | omega | (rw [hov]; split <;> omega)) tl_RX2_170 dX2_sign_47 (fun g47 H locs hg47 hw => ?_)
        have h476 : g47 4 6 = g 4 6 := by rw [hg47, u2_4, if_neg (by decide)]
        have h477 : g47 4 7 = w7 := by rw [hg47, u2_4, if_pos rfl, hw7v]
        refine lv_aload_n hx hb dX2_sign_50 rfl (lv_at hl 1 rfl) ?_
        refine lv_dup hx hb dX2_sign_51 rfl ?_
        refine mm_get6 cx hK hw tl_RX2_167 dX2_sign_52 (fun z52 hz52 => ?_)
        rw [h476] at hz52
        refine lv_aload_n hx hb dX2_sign_55 rfl (lv_at hl 1 rfl) ?_
        refine mm_get7 cx hK hw tl_RX2_170 dX2_sign_56 (fun z56 hz56 => ?_)
        refine ts_if_eq (tgt := 66) hx hb (by omega) dX2_sign_59 (by decide) (fun c59 => ?_) (fun c59 => ?_)
        · skip
          refine ts_iconst hx hb dX2_sign_66 ?_
          refine ts_iadd hx hb dX2_sign_67 (fun z67 hz67 => ?_)
          refine mm_put6 cx hK hw tl_RX2_167 dX2_sign_68 (fun g68 H locs hg68 hw => ?_)
          have h686 : g68 4 6 = z67 := by rw [hg68, u2_4, if_pos rfl]
          have h687 : g68 4 7 = g47 4 7 := by rw [hg68, u2_4, if_neg (by decide)]
          have h688 : SG g68 g := by
            rw [hg68, hg47]
            refine ⟨by rw [u2_row _ (by decide), u2_row _ (by decide)], by rw [u2_row _ (by decide), u2_row _ (by decide)], by rw [u2_row _ (by decide), u2_row _ (by decide)], by rw [u2_row _ (by decide), u2_row _ (by decide)], fun j q6 q7 => by rw [u2_4, if_neg q6, u2_4, if_neg q7]⟩
          refine lv_iload_n hx hb dX2_sign_71 rfl (lv_at hl 0 rfl) ?_
          exact mm_ret cx hr hlocks hw (⟨hch.symm, h688, by omega⟩) dX2_sign_72
        · skip
          refine ts_iconst hx hb dX2_sign_62 ?_
          refine lv_goto (tgt := 67) hx hb dX2_sign_63 (by decide) ?_
          refine ts_iadd hx hb dX2_sign_67 (fun z67 hz67 => ?_)
          refine mm_put6 cx hK hw tl_RX2_167 dX2_sign_68 (fun g68 H locs hg68 hw => ?_)
          have h686 : g68 4 6 = z67 := by rw [hg68, u2_4, if_pos rfl]
          have h687 : g68 4 7 = g47 4 7 := by rw [hg68, u2_4, if_neg (by decide)]
          have h688 : SG g68 g := by
            rw [hg68, hg47]
            refine ⟨by rw [u2_row _ (by decide), u2_row _ (by decide)], by rw [u2_row _ (by decide), u2_row _ (by decide)], by rw [u2_row _ (by decide), u2_row _ (by decide)], by rw [u2_row _ (by decide), u2_row _ (by decide)], fun j q6 q7 => by rw [u2_4, if_neg q6, u2_4, if_neg q7]⟩
          refine lv_iload_n hx hb dX2_sign_71 rfl (lv_at hl 0 rfl) ?_
          exact mm_ret cx hr hlocks hw (⟨hch.symm, h688, by omega⟩) dX2_sign_72
      · skip
        refine ts_iconst hx hb dX2_sign_42 ?_
        refine lv_goto (tgt := 47) hx hb dX2_sign_43 (by decide) ?_
        obtain ⟨w7, hw7v⟩ : ∃ w : Int, w = 1 := ⟨_, rfl⟩
        refine mm_put7 cx hK hw (by first | omega | (rw [hov]; split <;> omega)) tl_RX2_170 dX2_sign_47 (fun g47 H locs hg47 hw => ?_)
        have h476 : g47 4 6 = g 4 6 := by rw [hg47, u2_4, if_neg (by decide)]
        have h477 : g47 4 7 = w7 := by rw [hg47, u2_4, if_pos rfl, hw7v]
        refine lv_aload_n hx hb dX2_sign_50 rfl (lv_at hl 1 rfl) ?_
        refine lv_dup hx hb dX2_sign_51 rfl ?_
        refine mm_get6 cx hK hw tl_RX2_167 dX2_sign_52 (fun z52 hz52 => ?_)
        rw [h476] at hz52
        refine lv_aload_n hx hb dX2_sign_55 rfl (lv_at hl 1 rfl) ?_
        refine mm_get7 cx hK hw tl_RX2_170 dX2_sign_56 (fun z56 hz56 => ?_)
        refine ts_if_eq (tgt := 66) hx hb (by omega) dX2_sign_59 (by decide) (fun c59 => ?_) (fun c59 => ?_)
        · skip
          refine ts_iconst hx hb dX2_sign_66 ?_
          refine ts_iadd hx hb dX2_sign_67 (fun z67 hz67 => ?_)
          refine mm_put6 cx hK hw tl_RX2_167 dX2_sign_68 (fun g68 H locs hg68 hw => ?_)
          have h686 : g68 4 6 = z67 := by rw [hg68, u2_4, if_pos rfl]
          have h687 : g68 4 7 = g47 4 7 := by rw [hg68, u2_4, if_neg (by decide)]
          have h688 : SG g68 g := by
            rw [hg68, hg47]
            refine ⟨by rw [u2_row _ (by decide), u2_row _ (by decide)], by rw [u2_row _ (by decide), u2_row _ (by decide)], by rw [u2_row _ (by decide), u2_row _ (by decide)], by rw [u2_row _ (by decide), u2_row _ (by decide)], fun j q6 q7 => by rw [u2_4, if_neg q6, u2_4, if_neg q7]⟩
          refine lv_iload_n hx hb dX2_sign_71 rfl (lv_at hl 0 rfl) ?_
          exact mm_ret cx hr hlocks hw (⟨hch.symm, h688, by omega⟩) dX2_sign_72
        · skip
          refine ts_iconst hx hb dX2_sign_62 ?_
          refine lv_goto (tgt := 67) hx hb dX2_sign_63 (by decide) ?_
          refine ts_iadd hx hb dX2_sign_67 (fun z67 hz67 => ?_)
          refine mm_put6 cx hK hw tl_RX2_167 dX2_sign_68 (fun g68 H locs hg68 hw => ?_)
          have h686 : g68 4 6 = z67 := by rw [hg68, u2_4, if_pos rfl]
          have h687 : g68 4 7 = g47 4 7 := by rw [hg68, u2_4, if_neg (by decide)]
          have h688 : SG g68 g := by
            rw [hg68, hg47]
            refine ⟨by rw [u2_row _ (by decide), u2_row _ (by decide)], by rw [u2_row _ (by decide), u2_row _ (by decide)], by rw [u2_row _ (by decide), u2_row _ (by decide)], by rw [u2_row _ (by decide), u2_row _ (by decide)], fun j q6 q7 => by rw [u2_4, if_neg q6, u2_4, if_neg q7]⟩
          refine lv_iload_n hx hb dX2_sign_71 rfl (lv_at hl 0 rfl) ?_
          exact mm_ret cx hr hlocks hw (⟨hch.symm, h688, by omega⟩) dX2_sign_72
  · skip
    refine lv_aload_n hx hb dX2_sign_11 rfl (lv_at hl 0 rfl) ?_
    refine mm_get4 cx hK hw tl_RX2_19 dX2_sign_12 ?_
    refine lv_aload_n hx hb dX2_sign_15 rfl (lv_at hl 0 rfl) ?_
    refine mm_get6 cx hK hw tl_RX2_167 dX2_sign_16 (fun z16 hz16 => ?_)
    refine mm_ld3 cx hK hw (a) (by omega) dX2_sign_19 (fun z19 hz19 => ?_)
    have hch : chF n tx a = z19 := by
      unfold chF
      rw [if_pos (by omega), hz19]
      exact (hx0.2.2.1 a (by omega)).symm
    refine lv_goto (tgt := 24) hx hb dX2_sign_20 (by decide) ?_
    refine lv_istore_n (lv' := [(3, .int (iN z19)), (0, .ref (ad 0)), (1, .int (iN lo)), (2, .int (iN hi))]) hx hb dX2_sign_24 rfl hl (by decide) rfl (fun ls hl => ?_)
    refine lv_aload_n hx hb dX2_sign_25 rfl (lv_at hl 1 rfl) ?_
    refine lv_aload_n hx hb dX2_sign_26 rfl (lv_at hl 1 rfl) ?_
    refine mm_get7 cx hK hw tl_RX2_170 dX2_sign_27 (fun z27 hz27 => ?_)
    refine ts_if_ne (tgt := 42) hx hb (by omega) dX2_sign_30 (by decide) (fun c30 => ?_) (fun c30 => ?_)
    · skip
      refine ts_iconst hx hb dX2_sign_42 ?_
      refine lv_goto (tgt := 47) hx hb dX2_sign_43 (by decide) ?_
      obtain ⟨w7, hw7v⟩ : ∃ w : Int, w = 1 := ⟨_, rfl⟩
      refine mm_put7 cx hK hw (by first | omega | (rw [hov]; split <;> omega)) tl_RX2_170 dX2_sign_47 (fun g47 H locs hg47 hw => ?_)
      have h476 : g47 4 6 = g 4 6 := by rw [hg47, u2_4, if_neg (by decide)]
      have h477 : g47 4 7 = w7 := by rw [hg47, u2_4, if_pos rfl, hw7v]
      refine lv_aload_n hx hb dX2_sign_50 rfl (lv_at hl 1 rfl) ?_
      refine lv_dup hx hb dX2_sign_51 rfl ?_
      refine mm_get6 cx hK hw tl_RX2_167 dX2_sign_52 (fun z52 hz52 => ?_)
      rw [h476] at hz52
      refine lv_aload_n hx hb dX2_sign_55 rfl (lv_at hl 1 rfl) ?_
      refine mm_get7 cx hK hw tl_RX2_170 dX2_sign_56 (fun z56 hz56 => ?_)
      refine ts_if_eq (tgt := 66) hx hb (by omega) dX2_sign_59 (by decide) (fun c59 => ?_) (fun c59 => ?_)
      · skip
        refine ts_iconst hx hb dX2_sign_66 ?_
        refine ts_iadd hx hb dX2_sign_67 (fun z67 hz67 => ?_)
        refine mm_put6 cx hK hw tl_RX2_167 dX2_sign_68 (fun g68 H locs hg68 hw => ?_)
        have h686 : g68 4 6 = z67 := by rw [hg68, u2_4, if_pos rfl]
        have h687 : g68 4 7 = g47 4 7 := by rw [hg68, u2_4, if_neg (by decide)]
        have h688 : SG g68 g := by
          rw [hg68, hg47]
          refine ⟨by rw [u2_row _ (by decide), u2_row _ (by decide)], by rw [u2_row _ (by decide), u2_row _ (by decide)], by rw [u2_row _ (by decide), u2_row _ (by decide)], by rw [u2_row _ (by decide), u2_row _ (by decide)], fun j q6 q7 => by rw [u2_4, if_neg q6, u2_4, if_neg q7]⟩
        refine lv_iload_n hx hb dX2_sign_71 rfl (lv_at hl 0 rfl) ?_
        exact mm_ret cx hr hlocks hw (⟨hch.symm, h688, by omega⟩) dX2_sign_72
      · skip
        refine ts_iconst hx hb dX2_sign_62 ?_
        refine lv_goto (tgt := 67) hx hb dX2_sign_63 (by decide) ?_
        refine ts_iadd hx hb dX2_sign_67 (fun z67 hz67 => ?_)
        refine mm_put6 cx hK hw tl_RX2_167 dX2_sign_68 (fun g68 H locs hg68 hw => ?_)
        have h686 : g68 4 6 = z67 := by rw [hg68, u2_4, if_pos rfl]
        have h687 : g68 4 7 = g47 4 7 := by rw [hg68, u2_4, if_neg (by decide)]
        have h688 : SG g68 g := by
          rw [hg68, hg47]
          refine ⟨by rw [u2_row _ (by decide), u2_row _ (by decide)], by rw [u2_row _ (by decide), u2_row _ (by decide)], by rw [u2_row _ (by decide), u2_row _ (by decide)], by rw [u2_row _ (by decide), u2_row _ (by decide)], fun j q6 q7 => by rw [u2_4, if_neg q6, u2_4, if_neg q7]⟩
        refine lv_iload_n hx hb dX2_sign_71 rfl (lv_at hl 0 rfl) ?_
        exact mm_ret cx hr hlocks hw (⟨hch.symm, h688, by omega⟩) dX2_sign_72
    · skip
      refine lv_iload_n hx hb dX2_sign_33 rfl (lv_at hl 0 rfl) ?_
      refine lv_iload_n hx hb dX2_sign_34 rfl (lv_at hl 2 rfl) ?_
      refine lv_iload_n hx hb dX2_sign_35 rfl (lv_at hl 3 rfl) ?_
      refine ps_call (rest := [.ref (ad 0)]) cx hl (c_X2_in l z19 lo hi (by omega)) tg_RX2_48 ⟨rfl, rfl⟩ 3 rfl (by decide +kernel) ⟨Nat.le_of_ble_eq_true rfl, Nat.le_of_ble_eq_true rfl⟩ ⟨Nat.zero_le _, Nat.zero_le _⟩ (Nat.le_of_ble_eq_true rfl) dX2_sign_36 (rfl) (fun z36 hz36 => ?_)
      refine ts_if_ne (tgt := 46) hx hb (by omega) dX2_sign_39 (by decide) (fun c39 => ?_) (fun c39 => ?_)
      · skip
        refine ts_iconst hx hb dX2_sign_46 ?_
        obtain ⟨w7, hw7v⟩ : ∃ w : Int, w = 0 := ⟨_, rfl⟩
        refine mm_put7 cx hK hw (by first | omega | (rw [hov]; split <;> omega)) tl_RX2_170 dX2_sign_47 (fun g47 H locs hg47 hw => ?_)
        have h476 : g47 4 6 = g 4 6 := by rw [hg47, u2_4, if_neg (by decide)]
        have h477 : g47 4 7 = w7 := by rw [hg47, u2_4, if_pos rfl, hw7v]
        refine lv_aload_n hx hb dX2_sign_50 rfl (lv_at hl 1 rfl) ?_
        refine lv_dup hx hb dX2_sign_51 rfl ?_
        refine mm_get6 cx hK hw tl_RX2_167 dX2_sign_52 (fun z52 hz52 => ?_)
        rw [h476] at hz52
        refine lv_aload_n hx hb dX2_sign_55 rfl (lv_at hl 1 rfl) ?_
        refine mm_get7 cx hK hw tl_RX2_170 dX2_sign_56 (fun z56 hz56 => ?_)
        refine ts_if_eq (tgt := 66) hx hb (by omega) dX2_sign_59 (by decide) (fun c59 => ?_) (fun c59 => ?_)
        · skip
          refine ts_iconst hx hb dX2_sign_66 ?_
          refine ts_iadd hx hb dX2_sign_67 (fun z67 hz67 => ?_)
          refine mm_put6 cx hK hw tl_RX2_167 dX2_sign_68 (fun g68 H locs hg68 hw => ?_)
          have h686 : g68 4 6 = z67 := by rw [hg68, u2_4, if_pos rfl]
          have h687 : g68 4 7 = g47 4 7 := by rw [hg68, u2_4, if_neg (by decide)]
          have h688 : SG g68 g := by
            rw [hg68, hg47]
            refine ⟨by rw [u2_row _ (by decide), u2_row _ (by decide)], by rw [u2_row _ (by decide), u2_row _ (by decide)], by rw [u2_row _ (by decide), u2_row _ (by decide)], by rw [u2_row _ (by decide), u2_row _ (by decide)], fun j q6 q7 => by rw [u2_4, if_neg q6, u2_4, if_neg q7]⟩
          refine lv_iload_n hx hb dX2_sign_71 rfl (lv_at hl 0 rfl) ?_
          exact mm_ret cx hr hlocks hw (⟨hch.symm, h688, by omega⟩) dX2_sign_72
        · skip
          refine ts_iconst hx hb dX2_sign_62 ?_
          refine lv_goto (tgt := 67) hx hb dX2_sign_63 (by decide) ?_
          refine ts_iadd hx hb dX2_sign_67 (fun z67 hz67 => ?_)
          refine mm_put6 cx hK hw tl_RX2_167 dX2_sign_68 (fun g68 H locs hg68 hw => ?_)
          have h686 : g68 4 6 = z67 := by rw [hg68, u2_4, if_pos rfl]
          have h687 : g68 4 7 = g47 4 7 := by rw [hg68, u2_4, if_neg (by decide)]
          have h688 : SG g68 g := by
            rw [hg68, hg47]
            refine ⟨by rw [u2_row _ (by decide), u2_row _ (by decide)], by rw [u2_row _ (by decide), u2_row _ (by decide)], by rw [u2_row _ (by decide), u2_row _ (by decide)], by rw [u2_row _ (by decide), u2_row _ (by decide)], fun j q6 q7 => by rw [u2_4, if_neg q6, u2_4, if_neg q7]⟩
          refine lv_iload_n hx hb dX2_sign_71 rfl (lv_at hl 0 rfl) ?_
          exact mm_ret cx hr hlocks hw (⟨hch.symm, h688, by omega⟩) dX2_sign_72
      · skip
        refine ts_iconst hx hb dX2_sign_42 ?_
        refine lv_goto (tgt := 47) hx hb dX2_sign_43 (by decide) ?_
        obtain ⟨w7, hw7v⟩ : ∃ w : Int, w = 1 := ⟨_, rfl⟩
        refine mm_put7 cx hK hw (by first | omega | (rw [hov]; split <;> omega)) tl_RX2_170 dX2_sign_47 (fun g47 H locs hg47 hw => ?_)
        have h476 : g47 4 6 = g 4 6 := by rw [hg47, u2_4, if_neg (by decide)]
        have h477 : g47 4 7 = w7 := by rw [hg47, u2_4, if_pos rfl, hw7v]
        refine lv_aload_n hx hb dX2_sign_50 rfl (lv_at hl 1 rfl) ?_
        refine lv_dup hx hb dX2_sign_51 rfl ?_
        refine mm_get6 cx hK hw tl_RX2_167 dX2_sign_52 (fun z52 hz52 => ?_)
        rw [h476] at hz52
        refine lv_aload_n hx hb dX2_sign_55 rfl (lv_at hl 1 rfl) ?_
        refine mm_get7 cx hK hw tl_RX2_170 dX2_sign_56 (fun z56 hz56 => ?_)
        refine ts_if_eq (tgt := 66) hx hb (by omega) dX2_sign_59 (by decide) (fun c59 => ?_) (fun c59 => ?_)
        · skip
          refine ts_iconst hx hb dX2_sign_66 ?_
          refine ts_iadd hx hb dX2_sign_67 (fun z67 hz67 => ?_)
          refine mm_put6 cx hK hw tl_RX2_167 dX2_sign_68 (fun g68 H locs hg68 hw => ?_)
          have h686 : g68 4 6 = z67 := by rw [hg68, u2_4, if_pos rfl]
          have h687 : g68 4 7 = g47 4 7 := by rw [hg68, u2_4, if_neg (by decide)]
          have h688 : SG g68 g := by
            rw [hg68, hg47]
            refine ⟨by rw [u2_row _ (by decide), u2_row _ (by decide)], by rw [u2_row _ (by decide), u2_row _ (by decide)], by rw [u2_row _ (by decide), u2_row _ (by decide)], by rw [u2_row _ (by decide), u2_row _ (by decide)], fun j q6 q7 => by rw [u2_4, if_neg q6, u2_4, if_neg q7]⟩
          refine lv_iload_n hx hb dX2_sign_71 rfl (lv_at hl 0 rfl) ?_
          exact mm_ret cx hr hlocks hw (⟨hch.symm, h688, by omega⟩) dX2_sign_72
        · skip
          refine ts_iconst hx hb dX2_sign_62 ?_
          refine lv_goto (tgt := 67) hx hb dX2_sign_63 (by decide) ?_
          refine ts_iadd hx hb dX2_sign_67 (fun z67 hz67 => ?_)
          refine mm_put6 cx hK hw tl_RX2_167 dX2_sign_68 (fun g68 H locs hg68 hw => ?_)
          have h686 : g68 4 6 = z67 := by rw [hg68, u2_4, if_pos rfl]
          have h687 : g68 4 7 = g47 4 7 := by rw [hg68, u2_4, if_neg (by decide)]
          have h688 : SG g68 g := by
            rw [hg68, hg47]
            refine ⟨by rw [u2_row _ (by decide), u2_row _ (by decide)], by rw [u2_row _ (by decide), u2_row _ (by decide)], by rw [u2_row _ (by decide), u2_row _ (by decide)], by rw [u2_row _ (by decide), u2_row _ (by decide)], fun j q6 q7 => by rw [u2_4, if_neg q6, u2_4, if_neg q7]⟩
          refine lv_iload_n hx hb dX2_sign_71 rfl (lv_at hl 0 rfl) ?_
          exact mm_ret cx hr hlocks hw (⟨hch.symm, h688, by omega⟩) dX2_sign_72
