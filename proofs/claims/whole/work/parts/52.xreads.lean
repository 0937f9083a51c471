/-! ===== TurningShop: what is asked ===== -/
def wr (w : Nat) : Nat := if w = 0 then 0 else if w = 1 then 2 else if w = 2 then 3 else 1
theorem wr_b (w : Nat) : wr w < 4 := by unfold wr; (repeat' split) <;> omega
theorem wx_wr {w : Nat} (h : w < 4) : wx (wr w) = w := by
  rcases (show w = 0 ∨ w = 1 ∨ w = 2 ∨ w = 3 by omega) with rfl | rfl | rfl | rfl <;> rfl
theorem lx_wr (L : LLT) (p : Nat) {w : Nat} (h : w < 4) : lx L (4 * p + wr w) = L p w := by
  rw [lx_at L p (wr w) (wr_b w), wx_wr h]
theorem PX_at {g : GS} {L : LLT} (h : PX g (lx L)) {p w : Nat} (hp : p < 4) (hw : w < 4) : g 1 (4 * p + wr w + 1) = g 1 (4 * p + wr w) + ((L p w).length : Int) ∧ (∀ k : Nat, k < (L p w).length → g 0 ((g 1 (4 * p + wr w)).toNat + k) = (L p w).getD k 0) := by
  have h1 := wr_b w
  have h2 := h.2.1 (4 * p + wr w) (by omega)
  have h3 := h.2.2.1 (4 * p + wr w) (by omega)
  rw [lx_wr L p hw] at h2 h3
  exact ⟨h2, h3⟩
theorem lsum_len : ∀ l : List Int, lsum (fun _ => 1) l = (l.length : Int)
  | [] => rfl
  | a :: t => by
    show 1 + lsum (fun _ => 1) t = _
    rw [lsum_len t, List.length_cons]
    omega
theorem cq_10 (l : List Int) : cq 10 l = (l.length : Int) := by
  have h : (fun x : Int => if (10 : Int) = 10 ∨ x = 10 then (1 : Int) else 0) = fun _ => 1 := by
    funext x
    exact if_pos (Or.inl rfl)
  unfold cq
  rw [h]
  exact lsum_len l
theorem cq_n {k : Int} (hk : k ≠ 10) (l : List Int) : cq k l = lsum (fun x => if x = k then 1 else 0) l := by
  have h : (fun x : Int => if k = 10 ∨ x = k then (1 : Int) else 0) = fun x => if x = k then 1 else 0 := by
    funext x
    by_cases e : x = k
    · rw [if_pos (Or.inr e), if_pos e]
    · rw [if_neg (fun q => q.elim hk e), if_neg e]
  unfold cq
  rw [h]
/-- how many lie in one part -/
theorem many1 {g : GS} {L : LLT} (h : PX g (lx L)) {p w : Nat} (hp : p < 4) (hw : w < 4) {k z : Int} (hz : (k = 10 ∧ z = g 1 (4 * p + wr w + 1) - g 1 (4 * p + wr w)) ∨ (k ≠ 10 ∧ z = sumN (fun i => if g 0 ((g 1 (4 * p + wr w)).toNat + i) = k then 1 else 0) (g 1 (4 * p + wr w + 1) - g 1 (4 * p + wr w)).toNat)) : z = cqA k L p w 1 := by
  have h1 := wr_b w
  have h2 := PX_at h hp hw
  have hu : cqA k L p w 1 = 0 + cq k (L p w) := rfl
  rw [hu, Int.zero_add]
  rcases hz with ⟨hk, hz⟩ | ⟨hk, hz⟩
  · rw [hz, hk, cq_10]
    omega
  · rw [hz, cq_n hk]
    have h3 := PX_sum1 h (fun x => if x = k then 1 else 0) (4 * p + wr w) (by omega)
    rw [lx_wr L p hw] at h3
    exact h3
/-- how many lie in all parts -/
theorem many4 {g : GS} {L : LLT} (h : PX g (lx L)) {p : Nat} (hp : p < 4) {k z : Int} (hz : (k = 10 ∧ z = g 1 (4 * p + 3 + 1) - g 1 (4 * p + 0)) ∨ (k ≠ 10 ∧ z = sumN (fun i => if g 0 ((g 1 (4 * p + 0)).toNat + i) = k then 1 else 0) (g 1 (4 * p + 3 + 1) - g 1 (4 * p + 0)).toNat)) : z = cqA k L p 0 4 := by
  have hu : cqA k L p 0 4 = 0 + cq k (L p 0) + cq k (L p 1) + cq k (L p 2) + cq k (L p 3) := rfl
  rw [show 4 * p + 0 = 4 * p from rfl] at hz
  rcases hz with ⟨hk, hz⟩ | ⟨hk, hz⟩
  · have e0 := PX_at h hp (w := 0) (by omega)
    have e1 := PX_at h hp (w := 1) (by omega)
    have e2 := PX_at h hp (w := 2) (by omega)
    have e3 := PX_at h hp (w := 3) (by omega)
    have f0 : g 1 (4 * p + 1) = g 1 (4 * p) + ((L p 0).length : Int) := e0.1
    have f1 : g 1 (4 * p + 3) = g 1 (4 * p + 2) + ((L p 1).length : Int) := e1.1
    have f2 : g 1 (4 * p + 3 + 1) = g 1 (4 * p + 3) + ((L p 2).length : Int) := e2.1
    have f3 : g 1 (4 * p + 2) = g 1 (4 * p + 1) + ((L p 3).length : Int) := e3.1
    rw [hu, hz, hk, cq_10, cq_10, cq_10, cq_10]
    omega
  · rw [hu, hz, cq_n hk, cq_n hk, cq_n hk, cq_n hk]
    have h3 := PX_sum4 h (fun x => if x = k then 1 else 0) p hp
    rw [h3]
    omega
theorem pts4 {g : GS} {L : LLT} (h : PX g (lx L)) {p t : Nat} (hp : p < 4) {z : Int} (hz : z = sumN (fun i => tv t (g 0 ((g 1 (4 * p + 0)).toNat + i)).toNat) (g 1 (4 * p + 3 + 1) - g 1 (4 * p + 0)).toNat) : z = lsum (fun x => tv t x.toNat) (L p 0) + lsum (fun x => tv t x.toNat) (L p 3) + lsum (fun x => tv t x.toNat) (L p 1) + lsum (fun x => tv t x.toNat) (L p 2) := by
  rw [show 4 * p + 0 = 4 * p from rfl] at hz
  rw [hz]
  exact PX_sum4 h (fun x => tv t x.toNat) p hp
theorem nn_to {x : Int} (h : 0 ≤ x) : iN x = iN ((x.toNat : Nat) : Int) := by rw [Int.toNat_of_nonneg h]
theorem purse_cq : ∀ (l : List Int), (∀ x ∈ l, 0 ≤ x ∧ x ≤ 9) → lsum purseF l = 1 * cq 0 l + 2 * cq 1 l + 3 * cq 2 l
  | [], _ => rfl
  | a :: t, h => by
    have h1 := purse_cq t (fun x hx => h x (List.mem_cons_of_mem _ hx))
    have h2 := h a List.mem_cons_self
    have e : ∀ k : Fin 10, purseF k.1 = 1 * (if (k.1 : Int) = 0 then 1 else 0) + 2 * (if (k.1 : Int) = 1 then 1 else 0) + 3 * (if (k.1 : Int) = 2 then 1 else 0) := by decide +kernel
    have e2 := e ⟨a.toNat, by omega⟩
    simp only [show ((a.toNat : Nat) : Int) = a by omega] at e2
    show purseF a + lsum purseF t = 1 * ((if (0 : Int) = 10 ∨ a = 0 then 1 else 0) + cq 0 t) + 2 * ((if (1 : Int) = 10 ∨ a = 1 then 1 else 0) + cq 1 t) + 3 * ((if (2 : Int) = 10 ∨ a = 2 then 1 else 0) + cq 2 t)
    rw [h1, e2]
    (repeat' split) <;> omega
set_option maxHeartbeats 4000000 in
set_option maxRecDepth 100000 in
theorem c_X1_partAt (l : Launch) (x : Int) (w : Nat) (h : x = (w : Int) ∧ w < 4) : psRi l yX1_partAt (wU yX1_partAt cX1_partAt 1 (some .int)) ({ frames := 0, cells := 0, slots := 0, locals := 0 } : Room) [.int (iN x)] (fun z => z = ((wr w : Nat) : Int)) := by
  refine psRi_of (by decide) (Nat.le_of_ble_eq_true rfl) ?_
  intro p e s m args below meth c ls cx hr hlocks hl
  have hx := cx.1
  have hb := cx.2.1
  have hl : lv_has ls 1 [(0, .int (iN x))] := hl
  refine lv_iload_n hx hb dX1_partAt_0 rfl (lv_at hl 0 rfl) ?_
  by_cases c1 : x < 0 ∨ 2 < x
  · refine lv_tableOut (tgt := 34) hx hb dX1_partAt_1 (by rw [toInt_iN (by omega)]; exact c1) (by decide) ?_
    have hR : ((wr w : Nat) : Int) = 1 := by rw [show w = 3 by omega]; rfl
    refine ts_iconst hx hb dX1_partAt_34 ?_
    exact ro_ret cx hr hlocks (hR.symm) dX1_partAt_35
  · have c1_ : x = 0 ∨ x = 1 ∨ x = 2 := by omega
    rcases c1_ with c1 | c1 | c1
    · refine lv_tableIn (off := 27) (tgt := 28) hx hb dX1_partAt_1 (by rw [toInt_iN (by omega)]; omega) (by rw [toInt_iN (by omega)]; omega) (by rw [toInt_iN (by omega), c1]; rfl) (by decide) ?_
      have hR : ((wr w : Nat) : Int) = 0 := by rw [show w = 0 by omega]; rfl
      refine ts_iconst hx hb dX1_partAt_28 ?_
      exact ro_ret cx hr hlocks (hR.symm) dX1_partAt_29
    · refine lv_tableIn (off := 29) (tgt := 30) hx hb dX1_partAt_1 (by rw [toInt_iN (by omega)]; omega) (by rw [toInt_iN (by omega)]; omega) (by rw [toInt_iN (by omega), c1]; rfl) (by decide) ?_
      have hR : ((wr w : Nat) : Int) = 2 := by rw [show w = 1 by omega]; rfl
      refine ts_iconst hx hb dX1_partAt_30 ?_
      exact ro_ret cx hr hlocks (hR.symm) dX1_partAt_31
    · refine lv_tableIn (off := 31) (tgt := 32) hx hb dX1_partAt_1 (by rw [toInt_iN (by omega)]; omega) (by rw [toInt_iN (by omega)]; omega) (by rw [toInt_iN (by omega), c1]; rfl) (by decide) ?_
      have hR : ((wr w : Nat) : Int) = 3 := by rw [show w = 2 by omega]; rfl
      refine ts_iconst hx hb dX1_partAt_32 ?_
      exact ro_ret cx hr hlocks (hR.symm) dX1_partAt_33
set_option maxHeartbeats 4000000 in
set_option maxRecDepth 100000 in
theorem c_X1_isNumberedOrder (l : Launch) (x : Int) (h : 0 ≤ x ∧ x ≤ 65535) : psRi l yX1_isNumberedOrder (wU yX1_isNumberedOrder cX1_isNumberedOrder 1 (some .boolean)) ({ frames := 0, cells := 0, slots := 0, locals := 0 } : Room) [.int (iN x)] (fun z => (z = 1 ∧ (x = 112 ∨ x = 98 ∨ x = 120 ∨ x = 103)) ∨ (z = 0 ∧ ¬ (x = 112 ∨ x = 98 ∨ x = 120 ∨ x = 103))) := by
  refine psRi_of (by decide) (Nat.le_of_ble_eq_true rfl) ?_
  intro p e s m args below meth c ls cx hr hlocks hl
  have hx := cx.1
  have hb := cx.2.1
  have hl : lv_has ls 1 [(0, .int (iN x))] := hl
  refine lv_iload_n hx hb dX1_isNumberedOrder_0 rfl (lv_at hl 0 rfl) ?_
  refine ts_bipush hx hb dX1_isNumberedOrder_1 (by decide) ?_
  refine ts_icmp_eq (tgt := 24) hx hb (by omega) dX1_isNumberedOrder_3 (by decide) (fun c3 => ?_) (fun c3 => ?_)
  · skip
    refine ts_iconst hx hb dX1_isNumberedOrder_24 ?_
    refine lv_goto (tgt := 29) hx hb dX1_isNumberedOrder_25 (by decide) ?_
    exact ro_retz cx hr hlocks (by omega) (by omega) dX1_isNumberedOrder_29
  · skip
    refine lv_iload_n hx hb dX1_isNumberedOrder_6 rfl (lv_at hl 0 rfl) ?_
    refine ts_bipush hx hb dX1_isNumberedOrder_7 (by decide) ?_
    refine ts_icmp_eq (tgt := 24) hx hb (by omega) dX1_isNumberedOrder_9 (by decide) (fun c9 => ?_) (fun c9 => ?_)
    · skip
      refine ts_iconst hx hb dX1_isNumberedOrder_24 ?_
      refine lv_goto (tgt := 29) hx hb dX1_isNumberedOrder_25 (by decide) ?_
      exact ro_retz cx hr hlocks (by omega) (by omega) dX1_isNumberedOrder_29
    · skip
      refine lv_iload_n hx hb dX1_isNumberedOrder_12 rfl (lv_at hl 0 rfl) ?_
      refine ts_bipush hx hb dX1_isNumberedOrder_13 (by decide) ?_
      refine ts_icmp_eq (tgt := 24) hx hb (by omega) dX1_isNumberedOrder_15 (by decide) (fun c15 => ?_) (fun c15 => ?_)
      · skip
        refine ts_iconst hx hb dX1_isNumberedOrder_24 ?_
        refine lv_goto (tgt := 29) hx hb dX1_isNumberedOrder_25 (by decide) ?_
        exact ro_retz cx hr hlocks (by omega) (by omega) dX1_isNumberedOrder_29
      · skip
        refine lv_iload_n hx hb dX1_isNumberedOrder_18 rfl (lv_at hl 0 rfl) ?_
        refine ts_bipush hx hb dX1_isNumberedOrder_19 (by decide) ?_
        refine ts_icmp_ne (tgt := 28) hx hb (by omega) dX1_isNumberedOrder_21 (by decide) (fun c21 => ?_) (fun c21 => ?_)
        · skip
          refine ts_iconst hx hb dX1_isNumberedOrder_28 ?_
          exact ro_retz cx hr hlocks (by omega) (by omega) dX1_isNumberedOrder_29
        · skip
          refine ts_iconst hx hb dX1_isNumberedOrder_24 ?_
          refine lv_goto (tgt := 29) hx hb dX1_isNumberedOrder_25 (by decide) ?_
          exact ro_retz cx hr hlocks (by omega) (by omega) dX1_isNumberedOrder_29
set_option maxHeartbeats 4000000 in
set_option maxRecDepth 100000 in
theorem c_X1_sum (l : Launch) (F : Nat → Int) (hF : ∀ k : Nat, k < 10 → 0 ≤ F k ∧ F k ≤ 164) : awRi l yX1_sum (wU yX1_sum cX1_sum 3 (some .int)) ({ frames := 0, cells := 0, slots := 0, locals := 0 } : Room) (fun a => [.ref (a)]) 10 F (fun z => z = sumN F 10) := by
  refine awRi_of (by decide) (fun _ => Nat.le_of_ble_eq_true rfl) ?_
  intro p e s m args below meth c D cI a A ls cx hr hlocks hK hA hw hl
  have hx := cx.1
  have hb := cx.2.1
  have hl : lv_has ls 3 [(0, .ref (a))] := hl
  refine ts_iconst hx hb dX1_sum_0 ?_
  refine lv_istore_n (lv' := [(1, .int (iN 0)), (0, .ref (a))]) hx hb dX1_sum_1 rfl hl (by decide) rfl (fun ls hl => ?_)
  refine ts_iconst hx hb dX1_sum_2 ?_
  refine lv_istore_n (lv' := [(2, .int (iN 0)), (1, .int (iN 0)), (0, .ref (a))]) hx hb dX1_sum_3 rfl hl (by decide) rfl (fun ls hl => ?_)
  have cut4 : ∀ (fu : Nat) (sm : Int) (k : Nat) (kz : Int) (hmu : 10 - k < fu) (hk : kz = (k : Int) ∧ k ≤ 10) (hs : sm = sumN F k ∧ 0 ≤ sm ∧ sm ≤ 164 * k) (ls : Array Slot) (hl : lv_has ls 3 [(0, .ref (a)), (1, .int (iN sm)), (2, .int (iN kz))]), W p l e ({ frames := 0, cells := 0, slots := 0, locals := 0 } : Room) s m args below meth c s.heap [] 0 0 (roQ below args s (fun z => z = sumN F 10)) (F0 m 4 ls []) := by
    intro fu
    induction fu with
    | zero => intro sm k kz hmu; exact absurd hmu (Nat.not_lt_zero _)
    | succ fu ih4 =>
      intro sm k kz hmu hk hs ls hl
      refine lv_iload_n hx hb dX1_sum_4 rfl (lv_at hl 2 rfl) ?_
      refine lv_aload_n hx hb dX1_sum_5 rfl (lv_at hl 0 rfl) ?_
      refine aw_len cx hK hw dX1_sum_6 ?_
      refine ts_icmp_ge (tgt := 22) hx hb (by omega) dX1_sum_7 (by decide) (fun c7 => ?_) (fun c7 => ?_)
      · skip
        have hR : sm = sumN F 10 := by rw [show (10 : Nat) = k by omega]; exact hs.1
        refine lv_iload_n hx hb dX1_sum_22 rfl (lv_at hl 1 rfl) ?_
        exact ro_ret cx hr hlocks (hR) dX1_sum_23
      · skip
        refine lv_iload_n hx hb dX1_sum_10 rfl (lv_at hl 1 rfl) ?_
        refine lv_aload_n hx hb dX1_sum_11 rfl (lv_at hl 0 rfl) ?_
        refine lv_iload_n hx hb dX1_sum_12 rfl (lv_at hl 2 rfl) ?_
        refine aw_ld cx hK hw (k) (by omega) dX1_sum_13 (fun z13 hz13 => ?_)
        refine ts_iadd hx hb dX1_sum_14 (fun z14 hz14 => ?_)
        refine lv_istore_n (lv' := [(1, .int (iN z14)), (0, .ref (a)), (2, .int (iN kz))]) hx hb dX1_sum_15 rfl hl (by decide) rfl (fun ls hl => ?_)
        have hFk := hF k (by omega)
        have hS : z14 = sumN F (k + 1) ∧ 0 ≤ z14 ∧ z14 ≤ 164 * ((k + 1 : Nat) : Int) := ⟨by show z14 = sumN F k + F k; omega, by omega, by omega⟩
        obtain ⟨z16, hz16⟩ : ∃ z : Int, z = kz + 1 := ⟨_, rfl⟩
        refine lv_iinc (v := iN z16) (lv' := [(2, .int (iN z16)), (1, .int (iN z14)), (0, .ref (a))]) hx hb dX1_sum_16 hl (k := 2) rfl (by rw [hz16]; exact iN_add _ _) (by decide) rfl (fun ls hl => ?_)
        refine lv_goto (tgt := 4) hx hb dX1_sum_19 (by decide) ?_
        exact ih4 (z14) (k + 1) (z16) (by omega) (by omega) (hS) _ (lv_sub hl [2, 1, 0] rfl)
  exact cut4 _ (0) (0) (0) (Nat.lt_succ_self _) (by omega) (⟨rfl, Int.le_refl _, Int.le_refl _⟩) _ (lv_sub hl [2, 1, 0] rfl)
set_option maxHeartbeats 4000000 in
set_option maxRecDepth 100000 in
theorem c_X1_card (l : Launch) (x w i : Int) (g : XS) (S : StT) (hx0 : RX (g 0) S) (hv0 : VS S) (hkb : (-2147483648 ≤ x ∧ x ≤ 2147483647) ∧ (-2147483648 ≤ w ∧ w ≤ 2147483647) ∧ (-2147483648 ≤ i ∧ i ≤ 2147483647)) : xmRi l yX1_card (wU yX1_card cX1_card 5 (some .int)) ({ frames := 2, cells := 0, slots := 0, locals := 46 } : Room) [.int (iN x), .int (iN w), .int (iN i)] g (fun z => z = cardR S x w i) := by
  refine xmRi_of (by decide) (Nat.le_of_ble_eq_true rfl) ?_
  intro p e s m args below meth c D ci tb ad ga A ls cx hr hlocks hK hA hT hw hl
  have hx := cx.1
  have hb := cx.2.1
  have hl : lv_has ls 5 [(0, .ref (ad 0)), (1, .int (iN x)), (2, .int (iN w)), (3, .int (iN i))] := hl
  have hN := VS_NX hx0 hv0
  have hM := PX_M hx0.2
  have hKx := PX_K hx0.2 (VS_kinds hv0)
  have hvb := VS_nums hv0
  have h44 := hx0.1.1
  refine lv_aload_n hx hb dX1_card_0 rfl (lv_at hl 0 rfl) ?_
  refine xp_get0 cx hK hw tl_RX1_10 dX1_card_1 ?_
  refine lv_iload_n hx hb dX1_card_4 rfl (lv_at hl 1 rfl) ?_
  refine gm_callr (ad := ga 0) (rest := []) cx (xm_K0 hK) hT hA (xg_B 0 (by decide) hw) hl (c_X0_hasPlayer l x (g 0) (by omega) hN) tg_RX1_64 ⟨rfl, rfl⟩ 1 rfl (by decide +kernel) ⟨Nat.le_of_ble_eq_true rfl, Nat.le_of_ble_eq_true rfl⟩ ⟨Nat.zero_le _, Nat.zero_le _⟩ (Nat.le_of_ble_eq_true rfl) dX1_card_5 (rfl) (fun z5 hz5 => ?_)
  refine ts_if_eq (tgt := 24) hx hb (by omega) dX1_card_8 (by decide) (fun c8 => ?_) (fun c8 => ?_)
  · skip
    have hR : cardR S x w i = -1000001 := by
      unfold cardR isP
      rw [if_pos (by omega)]
    refine ts_ldc (z := -1000001) hx hb cx.2.2.2.1 cx.2.2.2.2 tk_RX1_55 dX1_card_24 ?_
    exact ro_ret cx hr hlocks (hR.symm) dX1_card_26
  · skip
    refine lv_iload_n hx hb dX1_card_11 rfl (lv_at hl 2 rfl) ?_
    refine ts_if_lt (tgt := 24) hx hb (by omega) dX1_card_12 (by decide) (fun c12 => ?_) (fun c12 => ?_)
    · skip
      have hR : cardR S x w i = -1000001 := by
        unfold cardR isP
        rw [if_pos (by omega)]
      refine ts_ldc (z := -1000001) hx hb cx.2.2.2.1 cx.2.2.2.2 tk_RX1_55 dX1_card_24 ?_
      exact ro_ret cx hr hlocks (hR.symm) dX1_card_26
    · skip
      refine lv_iload_n hx hb dX1_card_15 rfl (lv_at hl 2 rfl) ?_
      refine ts_iconst hx hb dX1_card_16 ?_
      refine ts_icmp_ge (tgt := 24) hx hb (by omega) dX1_card_17 (by decide) (fun c17 => ?_) (fun c17 => ?_)
      · skip
        have hR : cardR S x w i = -1000001 := by
          unfold cardR isP
          rw [if_pos (by omega)]
        refine ts_ldc (z := -1000001) hx hb cx.2.2.2.1 cx.2.2.2.2 tk_RX1_55 dX1_card_24 ?_
        exact ro_ret cx hr hlocks (hR.symm) dX1_card_26
      · skip
        refine lv_iload_n hx hb dX1_card_20 rfl (lv_at hl 3 rfl) ?_
        refine ts_if_ge (tgt := 27) hx hb (by omega) dX1_card_21 (by decide) (fun c21 => ?_) (fun c21 => ?_)
        · skip
          refine lv_aload_n hx hb dX1_card_27 rfl (lv_at hl 0 rfl) ?_
          refine xp_get0 cx hK hw tl_RX1_10 dX1_card_28 ?_
          refine lv_iload_n hx hb dX1_card_31 rfl (lv_at hl 1 rfl) ?_
          refine lv_iload_n hx hb dX1_card_32 rfl (lv_at hl 2 rfl) ?_
          refine ps_call (rest := [.int (iN x), .ref (ga 0 0)]) cx hl (c_X1_partAt l w w.toNat (by omega)) tg_RX1_68 ⟨rfl, rfl⟩ 1 rfl (by decide +kernel) ⟨Nat.le_of_ble_eq_true rfl, Nat.le_of_ble_eq_true rfl⟩ ⟨Nat.zero_le _, Nat.zero_le _⟩ (Nat.le_of_ble_eq_true rfl) dX1_card_33 (rfl) (fun z33 hz33 => ?_)
          have hP := PX_at hx0.2 (p := x.toNat) (w := w.toNat) (by omega) (by omega)
          have hwr := wr_b w.toNat
          refine lv_iload_n hx hb dX1_card_36 rfl (lv_at hl 3 rfl) ?_
          refine gm_callr (ad := ga 0) (rest := []) cx (xm_K0 hK) hT hA (xg_B 0 (by decide) hw) hl (c_X0_cardOf l x.toNat (wr w.toNat) i (g 0) (by omega) hwr (by omega) hM hKx) tg_RX1_71 ⟨rfl, rfl⟩ 3 rfl (by decide +kernel) ⟨Nat.le_of_ble_eq_true rfl, Nat.le_of_ble_eq_true rfl⟩ ⟨Nat.zero_le _, Nat.zero_le _⟩ (Nat.le_of_ble_eq_true rfl) dX1_card_37 (by rw [hz33, nn_to (x := x) (by omega)]; rfl) (fun z37 hz37 => ?_)
          have hll := VS_len hv0 (p := x.toNat) (w := w.toNat) (by omega) (by omega)
          have hb37 : -1 ≤ z37 ∧ z37 ≤ 9 := by
            rcases hz37 with q | q
            · have := hKx ((g 0 1 (4 * x.toNat + wr w.toNat)).toNat + i.toNat) (by have := MX_b hM (4 * x.toNat + wr w.toNat) (by omega); have := MX_le hM (a := 4 * x.toNat + wr w.toNat + 1) (b := 16) (by omega) (by omega); omega)
              omega
            · omega
          refine lv_istore (lv' := [(4, .int (iN z37)), (0, .ref (ad 0)), (1, .int (iN x)), (2, .int (iN w)), (3, .int (iN i))]) hx hb dX1_card_40 hl (by decide) rfl (fun ls hl => ?_)
          refine lv_iload hx hb dX1_card_42 (lv_at hl 0 rfl) ?_
          refine ts_if_ge (tgt := 52) hx hb (by omega) dX1_card_44 (by decide) (fun c44 => ?_) (fun c44 => ?_)
          · skip
            have hR : cardR S x w i = z37 := by
              unfold cardR isP
              rcases hz37 with q2 | q2
              · rw [if_neg (by omega), if_pos (by omega), q2.2.2]
                exact (hP.2 i.toNat (by omega)).symm
              · omega
            refine lv_iload hx hb dX1_card_52 (lv_at hl 0 rfl) ?_
            exact ro_ret cx hr hlocks (hR.symm) dX1_card_54
          · skip
            have hR : cardR S x w i = -1000004 := by
              unfold cardR isP
              rw [if_neg (by omega), if_neg]
              intro q
              rcases hz37 with q2 | q2
              · have := hP.2 i.toNat (by omega)
                have := hKx ((g 0 1 (4 * x.toNat + wr w.toNat)).toNat + i.toNat) (by have := MX_b hM (4 * x.toNat + wr w.toNat) (by omega); have := MX_le hM (a := 4 * x.toNat + wr w.toNat + 1) (b := 16) (by omega) (by omega); omega)
                omega
              · omega
            refine ts_ldc (z := -1000004) hx hb cx.2.2.2.1 cx.2.2.2.2 tk_RX1_75 dX1_card_47 ?_
            refine lv_goto (tgt := 54) hx hb dX1_card_49 (by decide) ?_
            exact ro_ret cx hr hlocks (hR.symm) dX1_card_54
        · skip
          have hR : cardR S x w i = -1000001 := by
            unfold cardR isP
            rw [if_pos (by omega)]
          refine ts_ldc (z := -1000001) hx hb cx.2.2.2.1 cx.2.2.2.2 tk_RX1_55 dX1_card_24 ?_
          exact ro_ret cx hr hlocks (hR.symm) dX1_card_26
set_option maxHeartbeats 4000000 in
set_option maxRecDepth 100000 in
theorem c_X1_many (l : Launch) (x w kk : Int) (g : XS) (S : StT) (hx0 : RX (g 0) S) (hv0 : VS S) (hkb : (-2147483648 ≤ x ∧ x ≤ 2147483647) ∧ (-2147483648 ≤ w ∧ w ≤ 2147483647) ∧ (-2147483648 ≤ kk ∧ kk ≤ 2147483647)) : xmRi l yX1_many (wU yX1_many cX1_many 5 (some .int)) ({ frames := 2, cells := 0, slots := 0, locals := 49 } : Room) [.int (iN x), .int (iN w), .int (iN kk)] g (fun z => z = manyR S x w kk) := by
  refine xmRi_of (by decide) (Nat.le_of_ble_eq_true rfl) ?_
  intro p e s m args below meth c D ci tb ad ga A ls cx hr hlocks hK hA hT hw hl
  have hx := cx.1
  have hb := cx.2.1
  have hl : lv_has ls 5 [(0, .ref (ad 0)), (1, .int (iN x)), (2, .int (iN w)), (3, .int (iN kk))] := hl
  have hN := VS_NX hx0 hv0
  have hM := PX_M hx0.2
  have hKx := PX_K hx0.2 (VS_kinds hv0)
  have hvb := VS_nums hv0
  have h44 := hx0.1.1
  refine lv_aload_n hx hb dX1_many_0 rfl (lv_at hl 0 rfl) ?_
  refine xp_get0 cx hK hw tl_RX1_10 dX1_many_1 ?_
  refine lv_iload_n hx hb dX1_many_4 rfl (lv_at hl 1 rfl) ?_
  refine gm_callr (ad := ga 0) (rest := []) cx (xm_K0 hK) hT hA (xg_B 0 (by decide) hw) hl (c_X0_hasPlayer l x (g 0) (by omega) hN) tg_RX1_64 ⟨rfl, rfl⟩ 1 rfl (by decide +kernel) ⟨Nat.le_of_ble_eq_true rfl, Nat.le_of_ble_eq_true rfl⟩ ⟨Nat.zero_le _, Nat.zero_le _⟩ (Nat.le_of_ble_eq_true rfl) dX1_many_5 (rfl) (fun z5 hz5 => ?_)
  refine ts_if_eq (tgt := 30) hx hb (by omega) dX1_many_8 (by decide) (fun c8 => ?_) (fun c8 => ?_)
  · skip
    have hR : manyR S x w kk = -1000001 := by
      unfold manyR isP
      rw [if_pos (by omega)]
    refine ts_ldc (z := -1000001) hx hb cx.2.2.2.1 cx.2.2.2.2 tk_RX1_55 dX1_many_30 ?_
    exact ro_ret cx hr hlocks (hR.symm) dX1_many_32
  · skip
    refine lv_iload_n hx hb dX1_many_11 rfl (lv_at hl 2 rfl) ?_
    refine ts_if_lt (tgt := 30) hx hb (by omega) dX1_many_12 (by decide) (fun c12 => ?_) (fun c12 => ?_)
    · skip
      have hR : manyR S x w kk = -1000001 := by
        unfold manyR isP
        rw [if_pos (by omega)]
      refine ts_ldc (z := -1000001) hx hb cx.2.2.2.1 cx.2.2.2.2 tk_RX1_55 dX1_many_30 ?_
      exact ro_ret cx hr hlocks (hR.symm) dX1_many_32
    · skip
      refine lv_iload_n hx hb dX1_many_15 rfl (lv_at hl 2 rfl) ?_
      refine ts_iconst hx hb dX1_many_16 ?_
      refine ts_icmp_gt (tgt := 30) hx hb (by omega) dX1_many_17 (by decide) (fun c17 => ?_) (fun c17 => ?_)
      · skip
        have hR : manyR S x w kk = -1000001 := by
          unfold manyR isP
          rw [if_pos (by omega)]
        refine ts_ldc (z := -1000001) hx hb cx.2.2.2.1 cx.2.2.2.2 tk_RX1_55 dX1_many_30 ?_
        exact ro_ret cx hr hlocks (hR.symm) dX1_many_32
      · skip
        refine lv_iload_n hx hb dX1_many_20 rfl (lv_at hl 3 rfl) ?_
        refine ts_if_lt (tgt := 30) hx hb (by omega) dX1_many_21 (by decide) (fun c21 => ?_) (fun c21 => ?_)
        · skip
          have hR : manyR S x w kk = -1000001 := by
            unfold manyR isP
            rw [if_pos (by omega)]
          refine ts_ldc (z := -1000001) hx hb cx.2.2.2.1 cx.2.2.2.2 tk_RX1_55 dX1_many_30 ?_
          exact ro_ret cx hr hlocks (hR.symm) dX1_many_32
        · skip
          refine lv_iload_n hx hb dX1_many_24 rfl (lv_at hl 3 rfl) ?_
          refine ts_bipush hx hb dX1_many_25 (by decide) ?_
          refine ts_icmp_le (tgt := 33) hx hb (by omega) dX1_many_27 (by decide) (fun c27 => ?_) (fun c27 => ?_)
          · skip
            refine lv_iload_n hx hb dX1_many_33 rfl (lv_at hl 2 rfl) ?_
            refine ts_iconst hx hb dX1_many_34 ?_
            refine ts_icmp_ne (tgt := 50) hx hb (by omega) dX1_many_35 (by decide) (fun c35 => ?_) (fun c35 => ?_)
            · skip
              refine lv_iload_n hx hb dX1_many_50 rfl (lv_at hl 2 rfl) ?_
              refine ps_call (rest := []) cx hl (c_X1_partAt l w w.toNat (by omega)) tg_RX1_68 ⟨rfl, rfl⟩ 1 rfl (by decide +kernel) ⟨Nat.le_of_ble_eq_true rfl, Nat.le_of_ble_eq_true rfl⟩ ⟨Nat.zero_le _, Nat.zero_le _⟩ (Nat.le_of_ble_eq_true rfl) dX1_many_51 (rfl) (fun z51 hz51 => ?_)
              have hwr := wr_b w.toNat
              refine lv_istore (lv' := [(4, .int (iN z51)), (0, .ref (ad 0)), (1, .int (iN x)), (2, .int (iN w)), (3, .int (iN kk))]) hx hb dX1_many_54 hl (by decide) rfl (fun ls hl => ?_)
              refine lv_aload_n hx hb dX1_many_56 rfl (lv_at hl 1 rfl) ?_
              refine xp_get0 cx hK hw tl_RX1_10 dX1_many_57 ?_
              refine lv_iload_n hx hb dX1_many_60 rfl (lv_at hl 2 rfl) ?_
              refine lv_iload hx hb dX1_many_61 (lv_at hl 0 rfl) ?_
              refine lv_iload hx hb dX1_many_63 (lv_at hl 0 rfl) ?_
              refine lv_iload_n hx hb dX1_many_65 rfl (lv_at hl 4 rfl) ?_
              refine gm_callr (ad := ga 0) (rest := []) cx (xm_K0 hK) hT hA (xg_B 0 (by decide) hw) hl (c_X0_howMany l x.toNat (wr w.toNat) (wr w.toNat) kk (g 0) (by omega) (by omega) (by omega) hM hKx) tg_RX1_76 ⟨rfl, rfl⟩ 4 rfl (by decide +kernel) ⟨Nat.le_of_ble_eq_true rfl, Nat.le_of_ble_eq_true rfl⟩ ⟨Nat.zero_le _, Nat.zero_le _⟩ (Nat.le_of_ble_eq_true rfl) dX1_many_66 (by rw [hz51, nn_to (x := x) (by omega)]; rfl) (fun z66 hz66 => ?_)
              have hR : manyR S x w kk = z66 := by
                unfold manyR isP
                rw [if_neg (by omega), if_neg (by omega)]
                exact (many1 hx0.2 (by omega) (by omega) hz66).symm
              exact ro_ret cx hr hlocks (hR.symm) dX1_many_69
            · skip
              refine lv_aload_n hx hb dX1_many_38 rfl (lv_at hl 0 rfl) ?_
              refine xp_get0 cx hK hw tl_RX1_10 dX1_many_39 ?_
              refine lv_iload_n hx hb dX1_many_42 rfl (lv_at hl 1 rfl) ?_
              refine ts_iconst hx hb dX1_many_43 ?_
              refine ts_iconst hx hb dX1_many_44 ?_
              refine lv_iload_n hx hb dX1_many_45 rfl (lv_at hl 3 rfl) ?_
              refine gm_callr (ad := ga 0) (rest := []) cx (xm_K0 hK) hT hA (xg_B 0 (by decide) hw) hl (c_X0_howMany l x.toNat 0 3 kk (g 0) (by omega) (by omega) (by omega) hM hKx) tg_RX1_76 ⟨rfl, rfl⟩ 4 rfl (by decide +kernel) ⟨Nat.le_of_ble_eq_true rfl, Nat.le_of_ble_eq_true rfl⟩ ⟨Nat.zero_le _, Nat.zero_le _⟩ (Nat.le_of_ble_eq_true rfl) dX1_many_46 (by rw [nn_to (x := x) (by omega)]; rfl) (fun z46 hz46 => ?_)
              have hR : manyR S x w kk = z46 := by
                unfold manyR isP
                rw [if_neg (by omega), if_pos (by omega)]
                exact (many4 hx0.2 (by omega) hz46).symm
              exact ro_ret cx hr hlocks (hR.symm) dX1_many_49
          · skip
            have hR : manyR S x w kk = -1000001 := by
              unfold manyR isP
              rw [if_pos (by omega)]
            refine ts_ldc (z := -1000001) hx hb cx.2.2.2.1 cx.2.2.2.2 tk_RX1_55 dX1_many_30 ?_
            exact ro_ret cx hr hlocks (hR.symm) dX1_many_32
set_option maxHeartbeats 4000000 in
set_option maxRecDepth 100000 in
theorem c_X1_points (l : Launch) (x : Int) (g : XS) (S : StT) (hx0 : RX (g 0) S) (hv0 : VS S) (hkb : (-2147483648 ≤ x ∧ x ≤ 2147483647)) : xmRi l yX1_points (wU yX1_points cX1_points 2 (some .int)) ({ frames := 3, cells := 0, slots := 0, locals := 73 } : Room) [.int (iN x)] g (fun z => z = pointsR S x) := by
  refine xmRi_of (by decide) (Nat.le_of_ble_eq_true rfl) ?_
  intro p e s m args below meth c D ci tb ad ga A ls cx hr hlocks hK hA hT hw hl
  have hx := cx.1
  have hb := cx.2.1
  have hl : lv_has ls 2 [(0, .ref (ad 0)), (1, .int (iN x))] := hl
  have hN := VS_NX hx0 hv0
  have hM := PX_M hx0.2
  have hKx := PX_K hx0.2 (VS_kinds hv0)
  have hvb := VS_nums hv0
  have h44 := hx0.1.1
  refine lv_aload_n hx hb dX1_points_0 rfl (lv_at hl 0 rfl) ?_
  refine xp_get0 cx hK hw tl_RX1_10 dX1_points_1 ?_
  refine lv_iload_n hx hb dX1_points_4 rfl (lv_at hl 1 rfl) ?_
  refine gm_callr (ad := ga 0) (rest := []) cx (xm_K0 hK) hT hA (xg_B 0 (by decide) hw) hl (c_X0_hasPlayer l x (g 0) (by omega) hN) tg_RX1_64 ⟨rfl, rfl⟩ 1 rfl (by decide +kernel) ⟨Nat.le_of_ble_eq_true rfl, Nat.le_of_ble_eq_true rfl⟩ ⟨Nat.zero_le _, Nat.zero_le _⟩ (Nat.le_of_ble_eq_true rfl) dX1_points_5 (rfl) (fun z5 hz5 => ?_)
  refine ts_if_ne (tgt := 14) hx hb (by omega) dX1_points_8 (by decide) (fun c8 => ?_) (fun c8 => ?_)
  · skip
    refine lv_aload_n hx hb dX1_points_14 rfl (lv_at hl 0 rfl) ?_
    refine xp_get0 cx hK hw tl_RX1_10 dX1_points_15 ?_
    refine lv_iload_n hx hb dX1_points_18 rfl (lv_at hl 1 rfl) ?_
    refine tt_gso cx hT hw.2.2 7 (by decide) tl_RX1_80 dX1_points_19 ?_
    refine gm_callt (ad := ga 0) (rest := []) cx (xm_K0 hK) hT hA (xg_B 0 (by decide) hw) hl (c_X0_sumOf l 7 x.toNat (g 0) (by omega) (by omega) hM hKx) tg_RX1_84 ⟨rfl, rfl⟩ 2 rfl (by decide +kernel) ⟨Nat.le_of_ble_eq_true rfl, Nat.le_of_ble_eq_true rfl⟩ ⟨Nat.zero_le _, Nat.zero_le _⟩ (Nat.le_of_ble_eq_true rfl) dX1_points_22 (by rw [nn_to (x := x) (by omega)]; rfl) (fun z22 hz22 => ?_)
    refine ts_bipush hx hb dX1_points_25 (by decide) ?_
    refine ts_iadd hx hb dX1_points_27 (fun z27 hz27 => ?_)
    have hR : pointsR S x = z27 := by
      unfold pointsR isP
      rw [if_pos (by omega), hz27]
      have hq := pts4 hx0.2 (by omega) hz22
      unfold ptA
      omega
    exact ro_ret cx hr hlocks (hR.symm) dX1_points_28
  · skip
    have hR : pointsR S x = -1000001 := by
      unfold pointsR isP
      rw [if_neg (by omega)]
    refine ts_ldc (z := -1000001) hx hb cx.2.2.2.1 cx.2.2.2.2 tk_RX1_55 dX1_points_11 ?_
    exact ro_ret cx hr hlocks (hR.symm) dX1_points_13
set_option maxHeartbeats 4000000 in
set_option maxRecDepth 100000 in
theorem c_X1_kindOf (l : Launch) (kk what : Int) (g : XS) (S : StT) (hx0 : RX (g 0) S) (hv0 : VS S) (hkb : (-2147483648 ≤ kk ∧ kk ≤ 2147483647) ∧ (-2147483648 ≤ what ∧ what ≤ 2147483647)) : xmRi l yX1_kindOf (wU yX1_kindOf cX1_kindOf 3 (some .int)) ({ frames := 2, cells := 0, slots := 0, locals := 42 } : Room) [.int (iN kk), .int (iN what)] g (fun z => z = kindR S kk what) := by
  refine xmRi_of (by decide) (Nat.le_of_ble_eq_true rfl) ?_
  intro p e s m args below meth c D ci tb ad ga A ls cx hr hlocks hK hA hT hw hl
  have hx := cx.1
  have hb := cx.2.1
  have hl : lv_has ls 3 [(0, .ref (ad 0)), (1, .int (iN kk)), (2, .int (iN what))] := hl
  have hN := VS_NX hx0 hv0
  have hM := PX_M hx0.2
  have hKx := PX_K hx0.2 (VS_kinds hv0)
  have hvb := VS_nums hv0
  have h44 := hx0.1.1
  have h46 := hx0.1.2.2.2.2.2.2.1
  refine lv_iload_n hx hb dX1_kindOf_0 rfl (lv_at hl 1 rfl) ?_
  refine ts_if_lt (tgt := 10) hx hb (by omega) dX1_kindOf_1 (by decide) (fun c1 => ?_) (fun c1 => ?_)
  · skip
    have hR : kindR S kk what = -1000001 := by
      unfold kindR
      rw [if_pos (by omega)]
    refine ts_ldc (z := -1000001) hx hb cx.2.2.2.1 cx.2.2.2.2 tk_RX1_55 dX1_kindOf_10 ?_
    exact ro_ret cx hr hlocks (hR.symm) dX1_kindOf_12
  · skip
    refine lv_iload_n hx hb dX1_kindOf_4 rfl (lv_at hl 1 rfl) ?_
    refine ts_bipush hx hb dX1_kindOf_5 (by decide) ?_
    refine ts_icmp_lt (tgt := 13) hx hb (by omega) dX1_kindOf_7 (by decide) (fun c7 => ?_) (fun c7 => ?_)
    · skip
      refine lv_iload_n hx hb dX1_kindOf_13 rfl (lv_at hl 2 rfl) ?_
      by_cases c14 : what < 0 ∨ 4 < what
      · refine lv_tableOut (tgt := 100) hx hb dX1_kindOf_14 (by rw [toInt_iN (by omega)]; exact c14) (by decide) ?_
        have hR : kindR S kk what = -1000001 := by
          unfold kindR
          rw [if_neg (by omega), if_neg (by omega), if_neg (by omega), if_neg (by omega), if_neg (by omega), if_neg (by omega)]
        refine ts_ldc (z := -1000001) hx hb cx.2.2.2.1 cx.2.2.2.2 tk_RX1_55 dX1_kindOf_100 ?_
        exact ro_ret cx hr hlocks (hR.symm) dX1_kindOf_102
      · have c14_ : what = 0 ∨ what = 1 ∨ what = 2 ∨ what = 3 ∨ what = 4 := by omega
        rcases c14_ with c14 | c14 | c14 | c14 | c14
        · refine lv_tableIn (off := 34) (tgt := 48) hx hb dX1_kindOf_14 (by rw [toInt_iN (by omega)]; omega) (by rw [toInt_iN (by omega)]; omega) (by rw [toInt_iN (by omega), c14]; rfl) (by decide) ?_
          refine tt_gso cx hT hw.2.2 0 (by decide) tl_RX1_88 dX1_kindOf_48 ?_
          refine lv_iload_n hx hb dX1_kindOf_51 rfl (lv_at hl 1 rfl) ?_
          refine tt_ld hx hb hT hw.2.2 0 (by decide) (kk.toNat) (by omega) dX1_kindOf_52 (fun z52 hz52 => ?_)
          have hR : kindR S kk what = z52 := by
            unfold kindR
            rw [if_neg (by omega), if_pos (by omega), hz52]
          exact ro_ret cx hr hlocks (hR.symm) dX1_kindOf_53
        · refine lv_tableIn (off := 40) (tgt := 54) hx hb dX1_kindOf_14 (by rw [toInt_iN (by omega)]; omega) (by rw [toInt_iN (by omega)]; omega) (by rw [toInt_iN (by omega), c14]; rfl) (by decide) ?_
          refine lv_aload_n hx hb dX1_kindOf_54 rfl (lv_at hl 0 rfl) ?_
          refine xp_get0 cx hK hw tl_RX1_10 dX1_kindOf_55 ?_
          refine gm_get2 (ad := ga 0) cx (xm_K0 hK) (xg_B 0 (by decide) hw) tl_RX1_91 dX1_kindOf_58 ?_
          refine lv_iload_n hx hb dX1_kindOf_61 rfl (lv_at hl 1 rfl) ?_
          refine gm_ld2 (ad := ga 0) cx (xm_K0 hK) (xg_B 0 (by decide) hw) (kk.toNat) (by omega) dX1_kindOf_62 (fun z62 hz62 => ?_)
          have hrp := hx0.1.2.2.2.2.2.2.2.2.2.2.1 kk.toNat (by omega)
          have hrq := hx0.1.2.2.2.2.2.2.2.2.2.2.2 kk.toNat (by omega)
          have hR : kindR S kk what = z62 := by
            unfold kindR
            rw [if_neg (by omega), if_neg (by omega), if_pos (by omega), hz62, hrp]
          exact ro_ret cx hr hlocks (hR.symm) dX1_kindOf_63
        · refine lv_tableIn (off := 50) (tgt := 64) hx hb dX1_kindOf_14 (by rw [toInt_iN (by omega)]; omega) (by rw [toInt_iN (by omega)]; omega) (by rw [toInt_iN (by omega), c14]; rfl) (by decide) ?_
          refine lv_aload_n hx hb dX1_kindOf_64 rfl (lv_at hl 0 rfl) ?_
          refine xp_get0 cx hK hw tl_RX1_10 dX1_kindOf_65 ?_
          refine lv_iload_n hx hb dX1_kindOf_68 rfl (lv_at hl 1 rfl) ?_
          refine gm_callr (ad := ga 0) (rest := []) cx (xm_K0 hK) hT hA (xg_B 0 (by decide) hw) hl (c_X0_isInRow l kk.toNat (g 0) (by omega) hN) tg_RX1_94 ⟨rfl, rfl⟩ 1 rfl (by decide +kernel) ⟨Nat.le_of_ble_eq_true rfl, Nat.le_of_ble_eq_true rfl⟩ ⟨Nat.zero_le _, Nat.zero_le _⟩ (Nat.le_of_ble_eq_true rfl) dX1_kindOf_69 (by rw [nn_to (x := kk) (by omega)]; rfl) (fun z69 hz69 => ?_)
          refine ts_if_eq (tgt := 79) hx hb (by omega) dX1_kindOf_72 (by decide) (fun c72 => ?_) (fun c72 => ?_)
          · skip
            have hR : kindR S kk what = 0 := by
              unfold kindR
              rw [if_neg (by omega), if_neg (by omega), if_neg (by omega), if_pos (by omega), if_neg (by omega)]
            refine ts_iconst hx hb dX1_kindOf_79 ?_
            exact ro_ret cx hr hlocks (hR.symm) dX1_kindOf_80
          · skip
            have hR : kindR S kk what = 1 := by
              unfold kindR
              rw [if_neg (by omega), if_neg (by omega), if_neg (by omega), if_pos (by omega), if_pos (by omega)]
            refine ts_iconst hx hb dX1_kindOf_75 ?_
            refine lv_goto (tgt := 80) hx hb dX1_kindOf_76 (by decide) ?_
            exact ro_ret cx hr hlocks (hR.symm) dX1_kindOf_80
        · refine lv_tableIn (off := 67) (tgt := 81) hx hb dX1_kindOf_14 (by rw [toInt_iN (by omega)]; omega) (by rw [toInt_iN (by omega)]; omega) (by rw [toInt_iN (by omega), c14]; rfl) (by decide) ?_
          refine lv_aload_n hx hb dX1_kindOf_81 rfl (lv_at hl 0 rfl) ?_
          refine xp_get0 cx hK hw tl_RX1_10 dX1_kindOf_82 ?_
          refine gm_get3 (ad := ga 0) cx (xm_K0 hK) (xg_B 0 (by decide) hw) tl_RX1_97 dX1_kindOf_85 ?_
          refine lv_iload_n hx hb dX1_kindOf_88 rfl (lv_at hl 1 rfl) ?_
          refine gm_ld3 (ad := ga 0) cx (xm_K0 hK) (xg_B 0 (by decide) hw) (kk.toNat) (by omega) dX1_kindOf_89 (fun z89 hz89 => ?_)
          have hrp := hx0.1.2.2.2.2.2.2.2.2.2.2.1 kk.toNat (by omega)
          have hrq := hx0.1.2.2.2.2.2.2.2.2.2.2.2 kk.toNat (by omega)
          have hR : kindR S kk what = z89 := by
            unfold kindR
            rw [if_neg (by omega), if_neg (by omega), if_neg (by omega), if_neg (by omega), if_pos (by omega), hz89, hrq]
          exact ro_ret cx hr hlocks (hR.symm) dX1_kindOf_90
        · refine lv_tableIn (off := 77) (tgt := 91) hx hb dX1_kindOf_14 (by rw [toInt_iN (by omega)]; omega) (by rw [toInt_iN (by omega)]; omega) (by rw [toInt_iN (by omega), c14]; rfl) (by decide) ?_
          refine lv_aload_n hx hb dX1_kindOf_91 rfl (lv_at hl 0 rfl) ?_
          refine xp_get0 cx hK hw tl_RX1_10 dX1_kindOf_92 ?_
          refine lv_iload_n hx hb dX1_kindOf_95 rfl (lv_at hl 1 rfl) ?_
          refine gm_callr (ad := ga 0) (rest := []) cx (xm_K0 hK) hT hA (xg_B 0 (by decide) hw) hl (c_X0_whyNotBought l kk.toNat (g 0) S.1 (by omega) hx0.1 hN) tg_RX1_100 ⟨rfl, rfl⟩ 1 rfl (by decide +kernel) ⟨Nat.le_of_ble_eq_true rfl, Nat.le_of_ble_eq_true rfl⟩ ⟨Nat.zero_le _, Nat.zero_le _⟩ (Nat.le_of_ble_eq_true rfl) dX1_kindOf_96 (by rw [nn_to (x := kk) (by omega)]; rfl) (fun z96 hz96 => ?_)
          have hR : kindR S kk what = z96 := by
            unfold kindR
            rw [if_neg (by omega), if_neg (by omega), if_neg (by omega), if_neg (by omega), if_neg (by omega), if_pos (by omega), hz96]
          exact ro_ret cx hr hlocks (hR.symm) dX1_kindOf_99
    · skip
      have hR : kindR S kk what = -1000001 := by
        unfold kindR
        rw [if_pos (by omega)]
      refine ts_ldc (z := -1000001) hx hb cx.2.2.2.1 cx.2.2.2.2 tk_RX1_55 dX1_kindOf_10 ?_
      exact ro_ret cx hr hlocks (hR.symm) dX1_kindOf_12
set_option maxHeartbeats 4000000 in
set_option maxRecDepth 100000 in
theorem c_X1_turn (l : Launch) (what : Int) (g : XS) (S : StT) (hx0 : RX (g 0) S) (hv0 : VS S) (hkb : (-2147483648 ≤ what ∧ what ≤ 2147483647)) : xmRi l yX1_turn (wU yX1_turn cX1_turn 2 (some .int)) ({ frames := 3, cells := 0, slots := 0, locals := 64 } : Room) [.int (iN what)] g (fun z => z = turnR S what) := by
  refine xmRi_of (by decide) (Nat.le_of_ble_eq_true rfl) ?_
  intro p e s m args below meth c D ci tb ad ga A ls cx hr hlocks hK hA hT hw hl
  have hx := cx.1
  have hb := cx.2.1
  have hl : lv_has ls 2 [(0, .ref (ad 0)), (1, .int (iN what))] := hl
  have hN := VS_NX hx0 hv0
  have hM := PX_M hx0.2
  have hKx := PX_K hx0.2 (VS_kinds hv0)
  have hvb := VS_nums hv0
  have h44 := hx0.1.1
  obtain ⟨r0, r1, r2, r3, r4, r5, r6, r9, r7, r8, rp, rq⟩ := hx0.1
  refine lv_iload_n hx hb dX1_turn_0 rfl (lv_at hl 1 rfl) ?_
  by_cases c1 : what < 0 ∨ 6 < what
  · refine lv_tableOut (tgt := 100) hx hb dX1_turn_1 (by rw [toInt_iN (by omega)]; exact c1) (by decide) ?_
    have hR : turnR S what = -1000001 := by
      unfold turnR
      rw [if_neg (by omega), if_neg (by omega), if_neg (by omega)]
    refine ts_ldc (z := -1000001) hx hb cx.2.2.2.1 cx.2.2.2.2 tk_RX1_55 dX1_turn_100 ?_
    exact ro_ret cx hr hlocks (hR.symm) dX1_turn_102
  · have c1_ : what = 0 ∨ what = 1 ∨ what = 2 ∨ what = 3 ∨ what = 4 ∨ what = 5 ∨ what = 6 := by omega
    rcases c1_ with c1 | c1 | c1 | c1 | c1 | c1 | c1
    · refine lv_tableIn (off := 43) (tgt := 44) hx hb dX1_turn_1 (by rw [toInt_iN (by omega)]; omega) (by rw [toInt_iN (by omega)]; omega) (by rw [toInt_iN (by omega), c1]; rfl) (by decide) ?_
      refine lv_aload_n hx hb dX1_turn_44 rfl (lv_at hl 0 rfl) ?_
      refine xp_get0 cx hK hw tl_RX1_10 dX1_turn_45 ?_
      refine gm_get5 (ad := ga 0) cx (xm_K0 hK) (xg_B 0 (by decide) hw) tl_RX1_103 dX1_turn_48 (fun z48 hz48 => ?_)
      have hR : turnR S what = z48 := by
        unfold turnR
        rw [if_neg (by omega), if_neg (by omega), if_pos (by omega), show 1 + what.toNat = 1 by omega]
        omega
      exact ro_ret cx hr hlocks (hR.symm) dX1_turn_51
    · refine lv_tableIn (off := 51) (tgt := 52) hx hb dX1_turn_1 (by rw [toInt_iN (by omega)]; omega) (by rw [toInt_iN (by omega)]; omega) (by rw [toInt_iN (by omega), c1]; rfl) (by decide) ?_
      refine lv_aload_n hx hb dX1_turn_52 rfl (lv_at hl 0 rfl) ?_
      refine xp_get0 cx hK hw tl_RX1_10 dX1_turn_53 ?_
      refine gm_get6 (ad := ga 0) cx (xm_K0 hK) (xg_B 0 (by decide) hw) tl_RX1_106 dX1_turn_56 (fun z56 hz56 => ?_)
      have hR : turnR S what = z56 := by
        unfold turnR
        rw [if_neg (by omega), if_neg (by omega), if_pos (by omega), show 1 + what.toNat = 2 by omega]
        omega
      exact ro_ret cx hr hlocks (hR.symm) dX1_turn_59
    · refine lv_tableIn (off := 59) (tgt := 60) hx hb dX1_turn_1 (by rw [toInt_iN (by omega)]; omega) (by rw [toInt_iN (by omega)]; omega) (by rw [toInt_iN (by omega), c1]; rfl) (by decide) ?_
      refine lv_aload_n hx hb dX1_turn_60 rfl (lv_at hl 0 rfl) ?_
      refine xp_get0 cx hK hw tl_RX1_10 dX1_turn_61 ?_
      refine gm_get7 (ad := ga 0) cx (xm_K0 hK) (xg_B 0 (by decide) hw) tl_RX1_109 dX1_turn_64 (fun z64 hz64 => ?_)
      have hR : turnR S what = z64 := by
        unfold turnR
        rw [if_neg (by omega), if_neg (by omega), if_pos (by omega), show 1 + what.toNat = 3 by omega]
        omega
      exact ro_ret cx hr hlocks (hR.symm) dX1_turn_67
    · refine lv_tableIn (off := 67) (tgt := 68) hx hb dX1_turn_1 (by rw [toInt_iN (by omega)]; omega) (by rw [toInt_iN (by omega)]; omega) (by rw [toInt_iN (by omega), c1]; rfl) (by decide) ?_
      refine lv_aload_n hx hb dX1_turn_68 rfl (lv_at hl 0 rfl) ?_
      refine xp_get0 cx hK hw tl_RX1_10 dX1_turn_69 ?_
      refine gm_get8 (ad := ga 0) cx (xm_K0 hK) (xg_B 0 (by decide) hw) tl_RX1_112 dX1_turn_72 (fun z72 hz72 => ?_)
      have hR : turnR S what = z72 := by
        unfold turnR
        rw [if_neg (by omega), if_neg (by omega), if_pos (by omega), show 1 + what.toNat = 4 by omega]
        omega
      exact ro_ret cx hr hlocks (hR.symm) dX1_turn_75
    · refine lv_tableIn (off := 75) (tgt := 76) hx hb dX1_turn_1 (by rw [toInt_iN (by omega)]; omega) (by rw [toInt_iN (by omega)]; omega) (by rw [toInt_iN (by omega), c1]; rfl) (by decide) ?_
      refine lv_aload_n hx hb dX1_turn_76 rfl (lv_at hl 0 rfl) ?_
      refine xp_get0 cx hK hw tl_RX1_10 dX1_turn_77 ?_
      refine gm_get9 (ad := ga 0) cx (xm_K0 hK) (xg_B 0 (by decide) hw) tl_RX1_115 dX1_turn_80 (fun z80 hz80 => ?_)
      have hR : turnR S what = z80 := by
        unfold turnR
        rw [if_neg (by omega), if_neg (by omega), if_pos (by omega), show 1 + what.toNat = 5 by omega]
        omega
      exact ro_ret cx hr hlocks (hR.symm) dX1_turn_83
    · refine lv_tableIn (off := 83) (tgt := 84) hx hb dX1_turn_1 (by rw [toInt_iN (by omega)]; omega) (by rw [toInt_iN (by omega)]; omega) (by rw [toInt_iN (by omega), c1]; rfl) (by decide) ?_
      refine lv_aload_n hx hb dX1_turn_84 rfl (lv_at hl 0 rfl) ?_
      refine xp_get0 cx hK hw tl_RX1_10 dX1_turn_85 ?_
      refine gm_callr (ad := ga 0) (rest := []) cx (xm_K0 hK) hT hA (xg_B 0 (by decide) hw) hl (c_X0_kindsToBuy l (g 0) S.1 hx0.1 hN) tg_RX1_118 ⟨rfl, rfl⟩ 0 rfl (by decide +kernel) ⟨Nat.le_of_ble_eq_true rfl, Nat.le_of_ble_eq_true rfl⟩ ⟨Nat.zero_le _, Nat.zero_le _⟩ (Nat.le_of_ble_eq_true rfl) dX1_turn_88 (rfl) (fun z88 hz88 => ?_)
      have hR : turnR S what = z88 := by
        unfold turnR
        rw [if_pos (by omega), hz88]
      exact ro_ret cx hr hlocks (hR.symm) dX1_turn_91
    · refine lv_tableIn (off := 91) (tgt := 92) hx hb dX1_turn_1 (by rw [toInt_iN (by omega)]; omega) (by rw [toInt_iN (by omega)]; omega) (by rw [toInt_iN (by omega), c1]; rfl) (by decide) ?_
      refine lv_aload_n hx hb dX1_turn_92 rfl (lv_at hl 0 rfl) ?_
      refine xp_get0 cx hK hw tl_RX1_10 dX1_turn_93 ?_
      refine gm_get10 (ad := ga 0) cx (xm_K0 hK) (xg_B 0 (by decide) hw) tl_RX1_121 dX1_turn_96 (fun z96 hz96 => ?_)
      have hR : turnR S what = z96 := by
        unfold turnR
        rw [if_neg (by omega), if_pos (by omega)]
        omega
      exact ro_ret cx hr hlocks (hR.symm) dX1_turn_99
set_option maxHeartbeats 4000000 in
set_option maxRecDepth 100000 in
theorem c_X1_purse (l : Launch) (g : XS) (S : StT) (hx0 : RX (g 0) S) (hv0 : VS S) : xmRi l yX1_purse (wU yX1_purse cX1_purse 3 (some .int)) ({ frames := 2, cells := 0, slots := 0, locals := 49 } : Room) [] g (fun z => z = purseR S) := by
  refine xmRi_of (by decide) (Nat.le_of_ble_eq_true rfl) ?_
  intro p e s m args below meth c D ci tb ad ga A ls cx hr hlocks hK hA hT hw hl
  have hx := cx.1
  have hb := cx.2.1
  have hl : lv_has ls 3 [(0, .ref (ad 0))] := hl
  have hN := VS_NX hx0 hv0
  have hM := PX_M hx0.2
  have hKx := PX_K hx0.2 (VS_kinds hv0)
  have hvb := VS_nums hv0
  have h44 := hx0.1.1
  have hpl := VS_pl hv0
  have h45 := hx0.1.2.1
  have h46 := hx0.1.2.2.1
  have hpc := purse_cq (hand S) (fun x hx => hv0.2.2.2.2.2.2.2.2.2.2.1 (pl S) 1 x hx)
  have hc0 := cq_b 0 (hand S)
  have hc1 := cq_b 1 (hand S)
  have hc2 := cq_b 2 (hand S)
  have hlh := VS_len hv0 (p := pl S) (w := 1) hpl.1 (by omega)
  refine lv_aload_n hx hb dX1_purse_0 rfl (lv_at hl 0 rfl) ?_
  refine xp_get0 cx hK hw tl_RX1_10 dX1_purse_1 ?_
  refine gm_get6 (ad := ga 0) cx (xm_K0 hK) (xg_B 0 (by decide) hw) tl_RX1_106 dX1_purse_4 (fun z4 hz4 => ?_)
  refine lv_istore_n (lv' := [(1, .int (iN z4)), (0, .ref (ad 0))]) hx hb dX1_purse_7 rfl hl (by decide) rfl (fun ls hl => ?_)
  refine ts_iconst hx hb dX1_purse_8 ?_
  refine lv_istore_n (lv' := [(2, .int (iN 0)), (1, .int (iN z4)), (0, .ref (ad 0))]) hx hb dX1_purse_9 rfl hl (by decide) rfl (fun ls hl => ?_)
  have cut10 : ∀ (fu : Nat) (sm : Int) (k : Nat) (kz : Int) (hmu : 3 - k < fu) (hk : kz = (k : Int) ∧ k ≤ 3) (hs : sm = S.1 2 + (if 0 < k then 1 * cq 0 (hand S) else 0) + (if 1 < k then 2 * cq 1 (hand S) else 0) + (if 2 < k then 3 * cq 2 (hand S) else 0)) (ls : Array Slot) (hl : lv_has ls 3 [(0, .ref (ad 0)), (1, .int (iN sm)), (2, .int (iN kz))]), W p l e ({ frames := 2, cells := 0, slots := 0, locals := 49 } : Room) s m args below meth c s.heap [] 0 0 (roQ below args s (fun z => z = purseR S)) (F0 m 10 ls []) := by
    intro fu
    induction fu with
    | zero => intro sm k kz hmu; exact absurd hmu (Nat.not_lt_zero _)
    | succ fu ih10 =>
      intro sm k kz hmu hk hs ls hl
      refine lv_iload_n hx hb dX1_purse_10 rfl (lv_at hl 2 rfl) ?_
      refine ts_iconst hx hb dX1_purse_11 ?_
      refine ts_icmp_gt (tgt := 47) hx hb (by omega) dX1_purse_12 (by decide) (fun c12 => ?_) (fun c12 => ?_)
      · skip
        have hR : sm = purseR S := by
          unfold purseR
          rw [hs, hpc, if_pos (by omega), if_pos (by omega), if_pos (by omega)]
          omega
        refine lv_iload_n hx hb dX1_purse_47 rfl (lv_at hl 1 rfl) ?_
        exact ro_ret cx hr hlocks (hR) dX1_purse_48
      · skip
        refine lv_iload_n hx hb dX1_purse_15 rfl (lv_at hl 1 rfl) ?_
        refine tt_gso cx hT hw.2.2 1 (by decide) tl_RX1_124 dX1_purse_16 ?_
        refine lv_iload_n hx hb dX1_purse_19 rfl (lv_at hl 2 rfl) ?_
        refine tt_ld hx hb hT hw.2.2 1 (by decide) (k) (by omega) dX1_purse_20 (fun z20 hz20 => ?_)
        refine lv_aload_n hx hb dX1_purse_21 rfl (lv_at hl 0 rfl) ?_
        refine xp_get0 cx hK hw tl_RX1_10 dX1_purse_22 ?_
        refine lv_aload_n hx hb dX1_purse_25 rfl (lv_at hl 0 rfl) ?_
        refine xp_get0 cx hK hw tl_RX1_10 dX1_purse_26 ?_
        refine gm_get5 (ad := ga 0) cx (xm_K0 hK) (xg_B 0 (by decide) hw) tl_RX1_103 dX1_purse_29 (fun z29 hz29 => ?_)
        refine ts_iconst hx hb dX1_purse_32 ?_
        refine ts_iconst hx hb dX1_purse_33 ?_
        refine lv_iload_n hx hb dX1_purse_34 rfl (lv_at hl 2 rfl) ?_
        refine gm_callr (ad := ga 0) (rest := [.int (iN z20), .int (iN sm)]) cx (xm_K0 hK) hT hA (xg_B 0 (by decide) hw) hl (c_X0_howMany l (pl S) 2 2 ((k : Nat) : Int) (g 0) hpl.1 (by omega) (by omega) hM hKx) tg_RX1_76 ⟨rfl, rfl⟩ 4 rfl (by decide +kernel) ⟨Nat.le_of_ble_eq_true rfl, Nat.le_of_ble_eq_true rfl⟩ ⟨Nat.zero_le _, Nat.zero_le _⟩ (Nat.le_of_ble_eq_true rfl) dX1_purse_35 (by rw [show z29 = ((pl S : Nat) : Int) by omega, hk.1]; rfl) (fun z35 hz35 => ?_)
        have hq : z35 = cq (k : Int) (hand S) := by
          have h1 := many1 hx0.2 (p := pl S) (w := 1) hpl.1 (by omega) hz35
          rw [h1]
          show 0 + cq (k : Int) (S.2 (pl S) (1 + 0)) = _
          rw [Int.zero_add]
          rfl
        have hlen : (S.2 (pl S) 1).length = (hand S).length := rfl
        refine ts_imul hx hb dX1_purse_38 (fun z38 hz38 => ?_)
        refine ts_iadd hx hb dX1_purse_39 (fun z39 hz39 => ?_)
        refine lv_istore_n (lv' := [(1, .int (iN z39)), (0, .ref (ad 0)), (2, .int (iN kz))]) hx hb dX1_purse_40 rfl hl (by decide) rfl (fun ls hl => ?_)
        have hS : z39 = S.1 2 + (if 0 < k + 1 then 1 * cq 0 (hand S) else 0) + (if 1 < k + 1 then 2 * cq 1 (hand S) else 0) + (if 2 < k + 1 then 3 * cq 2 (hand S) else 0) := by
          rw [hz39, hz38, hq, hz20, hs]
          rcases (show k = 0 ∨ k = 1 ∨ k = 2 by omega) with e | e | e
          · subst e
            show _ + (tv 1 0 * cq 0 (hand S)) = _
            rw [show tv 1 0 = 1 from rfl]
            simp
          · subst e
            show _ + (tv 1 1 * cq 1 (hand S)) = _
            rw [show tv 1 1 = 2 from rfl]
            simp
          · subst e
            show _ + (tv 1 2 * cq 2 (hand S)) = _
            rw [show tv 1 2 = 3 from rfl]
            simp
        obtain ⟨z41, hz41⟩ : ∃ z : Int, z = kz + 1 := ⟨_, rfl⟩
        refine lv_iinc (v := iN z41) (lv' := [(2, .int (iN z41)), (1, .int (iN z39)), (0, .ref (ad 0))]) hx hb dX1_purse_41 hl (k := 2) rfl (by rw [hz41]; exact iN_add _ _) (by decide) rfl (fun ls hl => ?_)
        refine lv_goto (tgt := 10) hx hb dX1_purse_44 (by decide) ?_
        exact ih10 (z39) (k + 1) (z41) (by omega) (by omega) (hS) _ (lv_sub hl [2, 1, 0] rfl)
  exact cut10 _ (z4) (0) (0) (Nat.lt_succ_self _) (by omega) (by rw [if_neg (by omega), if_neg (by omega), if_neg (by omega)]; omega) _ (lv_sub hl [2, 1, 0] rfl)
/-- the picture of the whole object -/
def FX (g : XS) (T : TT) : Prop := RX (g 0) T.1 ∧ g 6 4 3 = (T.2.1.1 : Int) ∧ (∀ b : Nat, b < T.2.1.1 → RX (g (2 + b)) (T.2.1.2 b)) ∧ g 6 4 5 = (T.2.2.1 : Int) ∧ (∀ j : Nat, j < T.2.2.1 → g 6 0 j = T.2.2.2 j)
theorem FX_spare {g g1 : XS} {T : TT} (h : FX g T) (e : ∀ i : Nat, i ≠ 1 → g1 i = g i) : FX g1 T := by
  obtain ⟨f1, f2, f3, f4, f5⟩ := h
  have e6 := e 6 (by decide)
  exact ⟨by rw [e 0 (by decide)]; exact f1, by rw [e6]; exact f2, fun b hb => by rw [e (2 + b) (by omega)]; exact f3 b hb, by rw [e6]; exact f4, fun j hj => by rw [e6]; exact f5 j hj⟩
theorem FX_faults {g g1 : XS} {T : TT} (h : FX g T) (e : ∀ i : Nat, i ≠ 6 → g1 i = g i) (e3 : g1 6 4 3 = g 6 4 3) (e5 : g1 6 4 5 = g 6 4 5) (e0 : g1 6 0 = g 6 0) (hn : T.2.1.1 ≤ 4) : FX g1 T := by
  obtain ⟨f1, f2, f3, f4, f5⟩ := h
  exact ⟨by rw [e 0 (by decide)]; exact f1, by rw [e3]; exact f2, fun b hb => by rw [e (2 + b) (by omega)]; exact f3 b hb, by rw [e5]; exact f4, fun j hj => by rw [e0]; exact f5 j hj⟩
set_option maxHeartbeats 4000000 in
set_option maxRecDepth 100000 in
theorem c_X1_count (l : Launch) (what : Int) (g : XS) (T : TT) (hf : FX g T) (hv : VT T) (hkb : (-2147483648 ≤ what ∧ what ≤ 2147483647)) : xmRi l yX1_count (wU yX1_count cX1_count 2 (some .int)) ({ frames := 1, cells := 0, slots := 0, locals := 22 } : Room) [.int (iN what)] g (fun z => z = countR T what) := by
  refine xmRi_of (by decide) (Nat.le_of_ble_eq_true rfl) ?_
  intro p e s m args below meth c D ci tb ad ga A ls cx hr hlocks hK hA hT hw hl
  have hx := cx.1
  have hb := cx.2.1
  have hl : lv_has ls 2 [(0, .ref (ad 0)), (1, .int (iN what))] := hl
  have hx0 := hf.1
  have hv0 := hv.1
  have hN := VS_NX hx0 hv0
  have hM := PX_M hx0.2
  have hKx := PX_K hx0.2 (VS_kinds hv0)
  have hvb := VS_nums hv0
  have h44 := hx0.1.1
  have hrs := hx0.1
  have hn3 := hf.2.1
  have hn5 := hf.2.2.2.1
  have hpb : ∀ k : Nat, k < 10 → 0 ≤ g 0 2 k ∧ g 0 2 k ≤ 164 := hN.2.2.2.2.2.2.2.2.2.1
  have hqb : ∀ k : Nat, k < 10 → 0 ≤ g 0 3 k ∧ g 0 3 k ≤ 164 := hN.2.2.2.2.2.2.2.2.2.2
  have h13 := hrs.2.2.2.2.2.2.2.2.2.1
  refine lv_iload_n hx hb dX1_count_0 rfl (lv_at hl 1 rfl) ?_
  by_cases c1 : what < 0 ∨ 20 < what
  · refine lv_tableOut (tgt := 180) hx hb dX1_count_1 (by rw [toInt_iN (by omega)]; exact c1) (by decide) ?_
    have hR : countR T what = -1000001 := by
      unfold countR
      rw [if_neg (by omega), if_neg (by omega), if_neg (by omega), if_neg (by omega), if_neg (by omega), if_neg (by omega), if_neg (by omega), if_neg (by omega), if_neg (by omega)]
    refine ts_ldc (z := -1000001) hx hb cx.2.2.2.1 cx.2.2.2.2 tk_RX1_55 dX1_count_180 ?_
    exact ro_ret cx hr hlocks (hR.symm) dX1_count_182
  · have c1_ : what = 0 ∨ what = 1 ∨ what = 2 ∨ what = 3 ∨ what = 4 ∨ what = 5 ∨ what = 6 ∨ what = 7 ∨ what = 8 ∨ what = 9 ∨ what = 10 ∨ what = 11 ∨ what = 12 ∨ what = 13 ∨ what = 14 ∨ what = 15 ∨ what = 16 ∨ what = 17 ∨ what = 18 ∨ what = 19 ∨ what = 20 := by omega
    rcases c1_ with c1 | c1 | c1 | c1 | c1 | c1 | c1 | c1 | c1 | c1 | c1 | c1 | c1 | c1 | c1 | c1 | c1 | c1 | c1 | c1 | c1
    · refine lv_tableIn (off := 99) (tgt := 100) hx hb dX1_count_1 (by rw [toInt_iN (by omega)]; omega) (by rw [toInt_iN (by omega)]; omega) (by rw [toInt_iN (by omega), c1]; rfl) (by decide) ?_
      refine lv_aload_n hx hb dX1_count_100 rfl (lv_at hl 0 rfl) ?_
      refine xp_get0 cx hK hw tl_RX1_10 dX1_count_101 ?_
      refine gm_get4 (ad := ga 0) cx (xm_K0 hK) (xg_B 0 (by decide) hw) tl_RX1_137 dX1_count_104 (fun z104 hz104 => ?_)
      have hR : countR T what = z104 := by
        unfold countR
        rw [if_pos (by omega)]
        omega
      exact ro_ret cx hr hlocks (hR.symm) dX1_count_107
    · refine lv_tableIn (off := 107) (tgt := 108) hx hb dX1_count_1 (by rw [toInt_iN (by omega)]; omega) (by rw [toInt_iN (by omega)]; omega) (by rw [toInt_iN (by omega), c1]; rfl) (by decide) ?_
      refine lv_aload_n hx hb dX1_count_108 rfl (lv_at hl 0 rfl) ?_
      refine xp_get0 cx hK hw tl_RX1_10 dX1_count_109 ?_
      refine gm_get12 (ad := ga 0) cx (xm_K0 hK) (xg_B 0 (by decide) hw) tl_RX1_140 dX1_count_112 (fun z112 hz112 => ?_)
      have hR : countR T what = z112 := by
        unfold countR
        rw [if_neg (by omega), if_pos (by omega)]
        have := hrs.2.2.2.2.2.2.2.2.1
        omega
      exact ro_ret cx hr hlocks (hR.symm) dX1_count_115
    · refine lv_tableIn (off := 115) (tgt := 116) hx hb dX1_count_1 (by rw [toInt_iN (by omega)]; omega) (by rw [toInt_iN (by omega)]; omega) (by rw [toInt_iN (by omega), c1]; rfl) (by decide) ?_
      refine lv_aload_n hx hb dX1_count_116 rfl (lv_at hl 0 rfl) ?_
      refine xp_get0 cx hK hw tl_RX1_10 dX1_count_117 ?_
      refine gm_get13 (ad := ga 0) cx (xm_K0 hK) (xg_B 0 (by decide) hw) tl_RX1_56 dX1_count_120 (fun z120 hz120 => ?_)
      refine ts_if_eq (tgt := 130) hx hb (by omega) dX1_count_123 (by decide) (fun c123 => ?_) (fun c123 => ?_)
      · skip
        have hR : countR T what = 0 := by
          unfold countR
          rw [if_neg (by omega), if_neg (by omega), if_pos (by omega)]
          omega
        refine ts_iconst hx hb dX1_count_130 ?_
        exact ro_ret cx hr hlocks (hR.symm) dX1_count_131
      · skip
        have hR : countR T what = 1 := by
          unfold countR
          rw [if_neg (by omega), if_neg (by omega), if_pos (by omega)]
          omega
        refine ts_iconst hx hb dX1_count_126 ?_
        refine lv_goto (tgt := 131) hx hb dX1_count_127 (by decide) ?_
        exact ro_ret cx hr hlocks (hR.symm) dX1_count_131
    · refine lv_tableIn (off := 131) (tgt := 132) hx hb dX1_count_1 (by rw [toInt_iN (by omega)]; omega) (by rw [toInt_iN (by omega)]; omega) (by rw [toInt_iN (by omega), c1]; rfl) (by decide) ?_
      refine lv_aload_n hx hb dX1_count_132 rfl (lv_at hl 0 rfl) ?_
      refine xp_get0 cx hK hw tl_RX1_10 dX1_count_133 ?_
      refine gm_callr (ad := ga 0) (rest := []) cx (xm_K0 hK) hT hA (xg_B 0 (by decide) hw) hl (c_X0_emptyPiles l (g 0) hpb) tg_RX1_143 ⟨rfl, rfl⟩ 0 rfl (by decide +kernel) ⟨Nat.le_of_ble_eq_true rfl, Nat.le_of_ble_eq_true rfl⟩ ⟨Nat.zero_le _, Nat.zero_le _⟩ (Nat.le_of_ble_eq_true rfl) dX1_count_136 (rfl) (fun z136 hz136 => ?_)
      have hR : countR T what = z136 := by
        unfold countR
        rw [if_neg (by omega), if_neg (by omega), if_neg (by omega), if_pos (by omega)]
        rw [hz136]
        unfold emp
        apply sumN_congr
        intro k hk
        rw [hrs.2.2.2.2.2.2.2.2.2.2.1 k hk]
      exact ro_ret cx hr hlocks (hR.symm) dX1_count_139
    · refine lv_tableIn (off := 139) (tgt := 140) hx hb dX1_count_1 (by rw [toInt_iN (by omega)]; omega) (by rw [toInt_iN (by omega)]; omega) (by rw [toInt_iN (by omega), c1]; rfl) (by decide) ?_
      refine lv_aload_n hx hb dX1_count_140 rfl (lv_at hl 0 rfl) ?_
      refine xp_get0 cx hK hw tl_RX1_10 dX1_count_141 ?_
      refine gm_get3 (ad := ga 0) cx (xm_K0 hK) (xg_B 0 (by decide) hw) tl_RX1_97 dX1_count_144 ?_
      refine aw_callr (rest := []) cx (xm_K0 hK) rfl (xg_B 0 (by decide) hw).1 4 rfl hl (c_X1_sum l (g 0 3) hqb) tg_RX1_146 ⟨rfl, rfl⟩ 1 rfl (by decide +kernel) ⟨Nat.le_of_ble_eq_true rfl, Nat.le_of_ble_eq_true rfl⟩ ⟨Nat.zero_le _, Nat.zero_le _⟩ (Nat.le_of_ble_eq_true rfl) dX1_count_147 (rfl) (fun z147 hz147 => ?_)
      have hR : countR T what = z147 := by
        unfold countR
        rw [if_neg (by omega), if_neg (by omega), if_neg (by omega), if_neg (by omega), if_pos (by omega)]
        rw [hz147]
        apply sumN_congr
        intro k hk
        rw [hrs.2.2.2.2.2.2.2.2.2.2.2 k hk]
      exact ro_ret cx hr hlocks (hR.symm) dX1_count_150
    · refine lv_tableIn (off := 150) (tgt := 151) hx hb dX1_count_1 (by rw [toInt_iN (by omega)]; omega) (by rw [toInt_iN (by omega)]; omega) (by rw [toInt_iN (by omega), c1]; rfl) (by decide) ?_
      refine lv_aload_n hx hb dX1_count_151 rfl (lv_at hl 0 rfl) ?_
      refine xp_get0 cx hK hw tl_RX1_10 dX1_count_152 ?_
      refine gm_get2 (ad := ga 0) cx (xm_K0 hK) (xg_B 0 (by decide) hw) tl_RX1_91 dX1_count_155 ?_
      refine aw_callr (rest := []) cx (xm_K0 hK) rfl (xg_B 0 (by decide) hw).1 3 rfl hl (c_X1_sum l (g 0 2) hpb) tg_RX1_146 ⟨rfl, rfl⟩ 1 rfl (by decide +kernel) ⟨Nat.le_of_ble_eq_true rfl, Nat.le_of_ble_eq_true rfl⟩ ⟨Nat.zero_le _, Nat.zero_le _⟩ (Nat.le_of_ble_eq_true rfl) dX1_count_158 (rfl) (fun z158 hz158 => ?_)
      have hR : countR T what = z158 := by
        unfold countR
        rw [if_neg (by omega), if_neg (by omega), if_neg (by omega), if_neg (by omega), if_neg (by omega), if_pos (by omega)]
        rw [hz158]
        apply sumN_congr
        intro k hk
        rw [hrs.2.2.2.2.2.2.2.2.2.2.1 k hk]
      exact ro_ret cx hr hlocks (hR.symm) dX1_count_161
    · refine lv_tableIn (off := 161) (tgt := 162) hx hb dX1_count_1 (by rw [toInt_iN (by omega)]; omega) (by rw [toInt_iN (by omega)]; omega) (by rw [toInt_iN (by omega), c1]; rfl) (by decide) ?_
      refine lv_aload_n hx hb dX1_count_162 rfl (lv_at hl 0 rfl) ?_
      refine xp_get3 cx hK hw tl_RX1_150 dX1_count_163 (fun z163 hz163 => ?_)
      have hR : countR T what = z163 := by
        unfold countR
        rw [if_neg (by omega), if_neg (by omega), if_neg (by omega), if_neg (by omega), if_neg (by omega), if_neg (by omega), if_pos (by omega)]
        omega
      exact ro_ret cx hr hlocks (hR.symm) dX1_count_166
    · refine lv_tableIn (off := 166) (tgt := 167) hx hb dX1_count_1 (by rw [toInt_iN (by omega)]; omega) (by rw [toInt_iN (by omega)]; omega) (by rw [toInt_iN (by omega), c1]; rfl) (by decide) ?_
      refine lv_aload_n hx hb dX1_count_167 rfl (lv_at hl 0 rfl) ?_
      refine xp_get5 cx hK hw tl_RX1_153 dX1_count_168 (fun z168 hz168 => ?_)
      have hR : countR T what = z168 := by
        unfold countR
        rw [if_neg (by omega), if_neg (by omega), if_neg (by omega), if_neg (by omega), if_neg (by omega), if_neg (by omega), if_neg (by omega), if_pos (by omega)]
        omega
      exact ro_ret cx hr hlocks (hR.symm) dX1_count_171
    · refine lv_tableIn (off := 179) (tgt := 180) hx hb dX1_count_1 (by rw [toInt_iN (by omega)]; omega) (by rw [toInt_iN (by omega)]; omega) (by rw [toInt_iN (by omega), c1]; rfl) (by decide) ?_
      have hR : countR T what = -1000001 := by
        unfold countR
        rw [if_neg (by omega), if_neg (by omega), if_neg (by omega), if_neg (by omega), if_neg (by omega), if_neg (by omega), if_neg (by omega), if_neg (by omega), if_neg (by omega)]
      refine ts_ldc (z := -1000001) hx hb cx.2.2.2.1 cx.2.2.2.2 tk_RX1_55 dX1_count_180 ?_
      exact ro_ret cx hr hlocks (hR.symm) dX1_count_182
    · refine lv_tableIn (off := 179) (tgt := 180) hx hb dX1_count_1 (by rw [toInt_iN (by omega)]; omega) (by rw [toInt_iN (by omega)]; omega) (by rw [toInt_iN (by omega), c1]; rfl) (by decide) ?_
      have hR : countR T what = -1000001 := by
        unfold countR
        rw [if_neg (by omega), if_neg (by omega), if_neg (by omega), if_neg (by omega), if_neg (by omega), if_neg (by omega), if_neg (by omega), if_neg (by omega), if_neg (by omega)]
      refine ts_ldc (z := -1000001) hx hb cx.2.2.2.1 cx.2.2.2.2 tk_RX1_55 dX1_count_180 ?_
      exact ro_ret cx hr hlocks (hR.symm) dX1_count_182
    · refine lv_tableIn (off := 179) (tgt := 180) hx hb dX1_count_1 (by rw [toInt_iN (by omega)]; omega) (by rw [toInt_iN (by omega)]; omega) (by rw [toInt_iN (by omega), c1]; rfl) (by decide) ?_
      have hR : countR T what = -1000001 := by
        unfold countR
        rw [if_neg (by omega), if_neg (by omega), if_neg (by omega), if_neg (by omega), if_neg (by omega), if_neg (by omega), if_neg (by omega), if_neg (by omega), if_neg (by omega)]
      refine ts_ldc (z := -1000001) hx hb cx.2.2.2.1 cx.2.2.2.2 tk_RX1_55 dX1_count_180 ?_
      exact ro_ret cx hr hlocks (hR.symm) dX1_count_182
    · refine lv_tableIn (off := 179) (tgt := 180) hx hb dX1_count_1 (by rw [toInt_iN (by omega)]; omega) (by rw [toInt_iN (by omega)]; omega) (by rw [toInt_iN (by omega), c1]; rfl) (by decide) ?_
      have hR : countR T what = -1000001 := by
        unfold countR
        rw [if_neg (by omega), if_neg (by omega), if_neg (by omega), if_neg (by omega), if_neg (by omega), if_neg (by omega), if_neg (by omega), if_neg (by omega), if_neg (by omega)]
      refine ts_ldc (z := -1000001) hx hb cx.2.2.2.1 cx.2.2.2.2 tk_RX1_55 dX1_count_180 ?_
      exact ro_ret cx hr hlocks (hR.symm) dX1_count_182
    · refine lv_tableIn (off := 179) (tgt := 180) hx hb dX1_count_1 (by rw [toInt_iN (by omega)]; omega) (by rw [toInt_iN (by omega)]; omega) (by rw [toInt_iN (by omega), c1]; rfl) (by decide) ?_
      have hR : countR T what = -1000001 := by
        unfold countR
        rw [if_neg (by omega), if_neg (by omega), if_neg (by omega), if_neg (by omega), if_neg (by omega), if_neg (by omega), if_neg (by omega), if_neg (by omega), if_neg (by omega)]
      refine ts_ldc (z := -1000001) hx hb cx.2.2.2.1 cx.2.2.2.2 tk_RX1_55 dX1_count_180 ?_
      exact ro_ret cx hr hlocks (hR.symm) dX1_count_182
    · refine lv_tableIn (off := 179) (tgt := 180) hx hb dX1_count_1 (by rw [toInt_iN (by omega)]; omega) (by rw [toInt_iN (by omega)]; omega) (by rw [toInt_iN (by omega), c1]; rfl) (by decide) ?_
      have hR : countR T what = -1000001 := by
        unfold countR
        rw [if_neg (by omega), if_neg (by omega), if_neg (by omega), if_neg (by omega), if_neg (by omega), if_neg (by omega), if_neg (by omega), if_neg (by omega), if_neg (by omega)]
      refine ts_ldc (z := -1000001) hx hb cx.2.2.2.1 cx.2.2.2.2 tk_RX1_55 dX1_count_180 ?_
      exact ro_ret cx hr hlocks (hR.symm) dX1_count_182
    · refine lv_tableIn (off := 179) (tgt := 180) hx hb dX1_count_1 (by rw [toInt_iN (by omega)]; omega) (by rw [toInt_iN (by omega)]; omega) (by rw [toInt_iN (by omega), c1]; rfl) (by decide) ?_
      have hR : countR T what = -1000001 := by
        unfold countR
        rw [if_neg (by omega), if_neg (by omega), if_neg (by omega), if_neg (by omega), if_neg (by omega), if_neg (by omega), if_neg (by omega), if_neg (by omega), if_neg (by omega)]
      refine ts_ldc (z := -1000001) hx hb cx.2.2.2.1 cx.2.2.2.2 tk_RX1_55 dX1_count_180 ?_
      exact ro_ret cx hr hlocks (hR.symm) dX1_count_182
    · refine lv_tableIn (off := 179) (tgt := 180) hx hb dX1_count_1 (by rw [toInt_iN (by omega)]; omega) (by rw [toInt_iN (by omega)]; omega) (by rw [toInt_iN (by omega), c1]; rfl) (by decide) ?_
      have hR : countR T what = -1000001 := by
        unfold countR
        rw [if_neg (by omega), if_neg (by omega), if_neg (by omega), if_neg (by omega), if_neg (by omega), if_neg (by omega), if_neg (by omega), if_neg (by omega), if_neg (by omega)]
      refine ts_ldc (z := -1000001) hx hb cx.2.2.2.1 cx.2.2.2.2 tk_RX1_55 dX1_count_180 ?_
      exact ro_ret cx hr hlocks (hR.symm) dX1_count_182
    · refine lv_tableIn (off := 179) (tgt := 180) hx hb dX1_count_1 (by rw [toInt_iN (by omega)]; omega) (by rw [toInt_iN (by omega)]; omega) (by rw [toInt_iN (by omega), c1]; rfl) (by decide) ?_
      have hR : countR T what = -1000001 := by
        unfold countR
        rw [if_neg (by omega), if_neg (by omega), if_neg (by omega), if_neg (by omega), if_neg (by omega), if_neg (by omega), if_neg (by omega), if_neg (by omega), if_neg (by omega)]
      refine ts_ldc (z := -1000001) hx hb cx.2.2.2.1 cx.2.2.2.2 tk_RX1_55 dX1_count_180 ?_
      exact ro_ret cx hr hlocks (hR.symm) dX1_count_182
    · refine lv_tableIn (off := 179) (tgt := 180) hx hb dX1_count_1 (by rw [toInt_iN (by omega)]; omega) (by rw [toInt_iN (by omega)]; omega) (by rw [toInt_iN (by omega), c1]; rfl) (by decide) ?_
      have hR : countR T what = -1000001 := by
        unfold countR
        rw [if_neg (by omega), if_neg (by omega), if_neg (by omega), if_neg (by omega), if_neg (by omega), if_neg (by omega), if_neg (by omega), if_neg (by omega), if_neg (by omega)]
      refine ts_ldc (z := -1000001) hx hb cx.2.2.2.1 cx.2.2.2.2 tk_RX1_55 dX1_count_180 ?_
      exact ro_ret cx hr hlocks (hR.symm) dX1_count_182
    · refine lv_tableIn (off := 179) (tgt := 180) hx hb dX1_count_1 (by rw [toInt_iN (by omega)]; omega) (by rw [toInt_iN (by omega)]; omega) (by rw [toInt_iN (by omega), c1]; rfl) (by decide) ?_
      have hR : countR T what = -1000001 := by
        unfold countR
        rw [if_neg (by omega), if_neg (by omega), if_neg (by omega), if_neg (by omega), if_neg (by omega), if_neg (by omega), if_neg (by omega), if_neg (by omega), if_neg (by omega)]
      refine ts_ldc (z := -1000001) hx hb cx.2.2.2.1 cx.2.2.2.2 tk_RX1_55 dX1_count_180 ?_
      exact ro_ret cx hr hlocks (hR.symm) dX1_count_182
    · refine lv_tableIn (off := 179) (tgt := 180) hx hb dX1_count_1 (by rw [toInt_iN (by omega)]; omega) (by rw [toInt_iN (by omega)]; omega) (by rw [toInt_iN (by omega), c1]; rfl) (by decide) ?_
      have hR : countR T what = -1000001 := by
        unfold countR
        rw [if_neg (by omega), if_neg (by omega), if_neg (by omega), if_neg (by omega), if_neg (by omega), if_neg (by omega), if_neg (by omega), if_neg (by omega), if_neg (by omega)]
      refine ts_ldc (z := -1000001) hx hb cx.2.2.2.1 cx.2.2.2.2 tk_RX1_55 dX1_count_180 ?_
      exact ro_ret cx hr hlocks (hR.symm) dX1_count_182
    · refine lv_tableIn (off := 171) (tgt := 172) hx hb dX1_count_1 (by rw [toInt_iN (by omega)]; omega) (by rw [toInt_iN (by omega)]; omega) (by rw [toInt_iN (by omega), c1]; rfl) (by decide) ?_
      refine lv_aload_n hx hb dX1_count_172 rfl (lv_at hl 0 rfl) ?_
      refine xp_get0 cx hK hw tl_RX1_10 dX1_count_173 ?_
      refine gm_get11 (ad := ga 0) cx (xm_K0 hK) (xg_B 0 (by decide) hw) tl_RX1_27 dX1_count_176 (fun z176 hz176 => ?_)
      have hR : countR T what = z176 := by
        unfold countR
        rw [if_neg (by omega), if_neg (by omega), if_neg (by omega), if_neg (by omega), if_neg (by omega), if_neg (by omega), if_neg (by omega), if_neg (by omega), if_pos (by omega)]
        have := hrs.2.2.2.2.2.2.2.1
        omega
      exact ro_ret cx hr hlocks (hR.symm) dX1_count_179
