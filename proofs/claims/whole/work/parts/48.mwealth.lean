theorem wo_cq : ∀ (l : List Int), (∀ x ∈ l, 0 ≤ x ∧ x ≤ 9) → sumN (fun k => tv 1 k * cq k l) 10 = lsum (fun x => tv 1 x.toNat) l ∧ 0 ≤ lsum (fun x => tv 1 x.toNat) l ∧ lsum (fun x => tv 1 x.toNat) l ≤ 3 * cq 10 l ∧ cq 10 l = l.length
  | [], _ => ⟨by decide +kernel, Int.le_refl _, by decide, rfl⟩
  | a :: t, h => by
    have h1 := wo_cq t (fun x hx => h x (List.mem_cons_of_mem _ hx))
    have h2 := h a List.mem_cons_self
    have e : ∀ k : Fin 10, tv 1 k.1 = 1 * (if (k.1 : Int) = 0 then 1 else 0) + 2 * (if (k.1 : Int) = 1 then 1 else 0) + 3 * (if (k.1 : Int) = 2 then 1 else 0) + (if (k.1 : Int) = 7 then 1 else 0) ∧ 0 ≤ tv 1 k.1 ∧ tv 1 k.1 ≤ 3 := by decide +kernel
    have e2 := e ⟨a.toNat, by omega⟩
    simp only [show ((a.toNat : Nat) : Int) = a by omega] at e2
    have u : ∀ f : Nat → Int, sumN (fun k => tv 1 k * f k) 10 = f 0 + 2 * f 1 + 3 * f 2 + f 7 := fun f => by
      show 0 + 1 * f 0 + 2 * f 1 + 3 * f 2 + 0 * f 3 + 0 * f 4 + 0 * f 5 + 0 * f 6 + 1 * f 7 + 0 * f 8 + 0 * f 9 = _
      omega
    have w : ∀ k : Int, cq k (a :: t) = (if k = 10 ∨ a = k then 1 else 0) + cq k t := fun _ => rfl
    have h3 := h1.1
    rw [u (fun k => cq k t)] at h3
    have w0 := w 0
    have w1 := w 1
    have w2 := w 2
    have w7 := w 7
    have w10 := w 10
    rw [if_pos (Or.inl rfl)] at w10
    have hs : lsum (fun x => tv 1 x.toNat) (a :: t) = tv 1 a.toNat + lsum (fun x => tv 1 x.toNat) t := rfl
    refine ⟨?_, ?_, ?_, ?_⟩
    · rw [u (fun k => cq k (a :: t))]
      show cq 0 (a :: t) + 2 * cq 1 (a :: t) + 3 * cq 2 (a :: t) + cq 7 (a :: t) = _
      rw [w0, w1, w2, w7, hs, e2.1]
      have h4 : cq 0 t + 2 * cq 1 t + 3 * cq 2 t + cq 7 t = lsum (fun x => tv 1 x.toNat) t := h3
      (repeat' split) <;> omega
    · rw [hs]; omega
    · rw [hs, w10]; omega
    · rw [w10, h1.2.2.2, List.length_cons]; omega
theorem len4 (L : LLT) {p : Nat} (hp : p < 4) : ((L p 0).length : Int) + (L p 1).length + (L p 2).length + (L p 3).length ≤ lenS L := by
  have h : lenS L = 0 + ((L 0 0).length : Int) + ((L 0 1).length : Int) + ((L 0 2).length : Int) + ((L 0 3).length : Int) + ((L 1 0).length : Int) + ((L 1 1).length : Int) + ((L 1 2).length : Int) + ((L 1 3).length : Int) + ((L 2 0).length : Int) + ((L 2 1).length : Int) + ((L 2 2).length : Int) + ((L 2 3).length : Int) + ((L 3 0).length : Int) + ((L 3 1).length : Int) + ((L 3 2).length : Int) + ((L 3 3).length : Int) := rfl
  rcases (show p = 0 ∨ p = 1 ∨ p = 2 ∨ p = 3 by omega) with e | e | e | e <;> subst e <;> omega
theorem wo_A {S : StT} (hv : VS S) {p : Nat} (hp : p < 4) : (0 ≤ sumN (fun k => tv 1 k * cqA k S.2 p 0 4) 10 ∧ sumN (fun k => tv 1 k * cqA k S.2 p 0 4) 10 ≤ 492) ∧ (0 ≤ cqA 10 S.2 p 0 4 ∧ cqA 10 S.2 p 0 4 ≤ 164) ∧ sumN (fun k => tv 1 k * cqA k S.2 p 0 4) 10 = lsum (fun x => tv 1 x.toNat) (S.2 p 0) + lsum (fun x => tv 1 x.toNat) (S.2 p 1) + lsum (fun x => tv 1 x.toNat) (S.2 p 2) + lsum (fun x => tv 1 x.toNat) (S.2 p 3) := by
  have hk := hv.2.2.2.2.2.2.2.2.2.2.1
  have a0 := wo_cq (S.2 p 0) (hk p 0)
  have a1 := wo_cq (S.2 p 1) (hk p 1)
  have a2 := wo_cq (S.2 p 2) (hk p 2)
  have a3 := wo_cq (S.2 p 3) (hk p 3)
  have u : ∀ f : Nat → Int, sumN (fun k => tv 1 k * f k) 10 = f 0 + 2 * f 1 + 3 * f 2 + f 7 := fun f => by
    show 0 + 1 * f 0 + 2 * f 1 + 3 * f 2 + 0 * f 3 + 0 * f 4 + 0 * f 5 + 0 * f 6 + 1 * f 7 + 0 * f 8 + 0 * f 9 = _
    omega
  have b0 := a0.1
  have b1 := a1.1
  have b2 := a2.1
  have b3 := a3.1
  rw [u (fun k => cq k (S.2 p 0))] at b0
  rw [u (fun k => cq k (S.2 p 1))] at b1
  rw [u (fun k => cq k (S.2 p 2))] at b2
  rw [u (fun k => cq k (S.2 p 3))] at b3
  have c : ∀ k : Int, cqA k S.2 p 0 4 = 0 + cq k (S.2 p 0) + cq k (S.2 p 1) + cq k (S.2 p 2) + cq k (S.2 p 3) := fun _ => rfl
  have hl := len4 S.2 hp
  have ht := hv.2.2.2.2.2.2.2.2.2.2.2.2
  have hpos := VS_pos hv
  rw [u (fun k => cqA k S.2 p 0 4)]
  have c0 := c ((0 : Nat) : Int)
  have c1 := c ((1 : Nat) : Int)
  have c2 := c ((2 : Nat) : Int)
  have c7 := c ((7 : Nat) : Int)
  have c10 := c 10
  have a0' := a0.2
  have a1' := a1.2
  have a2' := a2.2
  have a3' := a3.2
  clear a0 a1 a2 a3 u hk c
  omega
set_option maxHeartbeats 4000000 in
set_option maxRecDepth 100000 in
theorem c_X2_wealth (l : Launch) (x : Int) (g : GS) (S : StT) (hx0 : RM g S) (hv0 : VS S) (hkb : (-2147483648 ≤ x ∧ x ≤ 2147483647)) : mmRi l yX2_wealth (wU yX2_wealth cX2_wealth 5 (some .int)) ({ frames := 3, cells := 0, slots := 0, locals := 70 } : Room) [.int (iN x)] g (fun z => z = wealthR S x) := by
  refine mmRi_of (by decide) (Nat.le_of_ble_eq_true rfl) ?_
  intro p e s m args below meth c D cI tb ad A ls cx hr hlocks hK hA hw hl
  have hx := cx.1
  have hb := cx.2.1
  have hl : lv_has ls 5 [(0, .ref (ad 0)), (1, .int (iN x))] := hl
  have hvb := VS_nums hv0
  refine lv_aload_n hx hb dX2_wealth_0 rfl (lv_at hl 0 rfl) ?_
  refine lv_iload_n hx hb dX2_wealth_1 rfl (lv_at hl 1 rfl) ?_
  refine mm_callr (rest := []) cx hK hA hw hl (c_X2_isPlayer l x g S hx0 hv0 (by omega)) tg_RX2_124 ⟨rfl, rfl⟩ 1 rfl (by decide +kernel) ⟨Nat.le_of_ble_eq_true rfl, Nat.le_of_ble_eq_true rfl⟩ ⟨Nat.zero_le _, Nat.zero_le _⟩ (Nat.le_of_ble_eq_true rfl) dX2_wealth_2 (rfl) (fun z2 hz2 => ?_)
  refine ts_if_ne (tgt := 11) hx hb (by omega) dX2_wealth_5 (by decide) (fun c5 => ?_) (fun c5 => ?_)
  · skip
    refine lv_aload_n hx hb dX2_wealth_11 rfl (lv_at hl 0 rfl) ?_
    refine lv_iload_n hx hb dX2_wealth_12 rfl (lv_at hl 1 rfl) ?_
    refine ts_iconst hx hb dX2_wealth_13 ?_
    refine ts_iconst hx hb dX2_wealth_14 ?_
    refine ts_bipush hx hb dX2_wealth_15 (by decide) ?_
    refine mm_callr (rest := []) cx hK hA hw hl (c_X2_cardsOf l x 0 3 x.toNat 0 3 (by omega) 10 g S hx0 hv0 (by omega)) tg_RX2_128 ⟨rfl, rfl⟩ 4 rfl (by decide +kernel) ⟨Nat.le_of_ble_eq_true rfl, Nat.le_of_ble_eq_true rfl⟩ ⟨Nat.zero_le _, Nat.zero_le _⟩ (Nat.le_of_ble_eq_true rfl) dX2_wealth_17 (rfl) (fun z17 hz17 => ?_)
    have hz17b : z17 = cqA 10 S.2 x.toNat 0 4 := hz17
    have hwA := wo_A hv0 (p := x.toNat) (by omega)
    refine lv_istore_n (lv' := [(2, .int (iN z17)), (0, .ref (ad 0)), (1, .int (iN x))]) hx hb dX2_wealth_20 rfl hl (by decide) rfl (fun ls hl => ?_)
    refine ts_iconst hx hb dX2_wealth_21 ?_
    refine lv_istore_n (lv' := [(3, .int (iN 0)), (2, .int (iN z17)), (0, .ref (ad 0)), (1, .int (iN x))]) hx hb dX2_wealth_22 rfl hl (by decide) rfl (fun ls hl => ?_)
    refine ts_iconst hx hb dX2_wealth_23 ?_
    refine lv_istore (lv' := [(4, .int (iN 0)), (3, .int (iN 0)), (2, .int (iN z17)), (0, .ref (ad 0)), (1, .int (iN x))]) hx hb dX2_wealth_24 hl (by decide) rfl (fun ls hl => ?_)
    have cut26 : ∀ (fu : Nat) (sm : Int) (k : Int) (hmu : (10 - k).toNat < fu) (hk : 0 ≤ k ∧ k ≤ 10) (hsm : sm = sumN (fun j => tv 1 j * cqA j S.2 x.toNat 0 4) k.toNat) (ls : Array Slot) (hl : lv_has ls 5 [(0, .ref (ad 0)), (1, .int (iN x)), (2, .int (iN z17)), (3, .int (iN sm)), (4, .int (iN k))]), W p l e ({ frames := 3, cells := 0, slots := 0, locals := 70 } : Room) s m args below meth c s.heap [] 0 0 (roQ below args s (fun z => z = wealthR S x)) (F0 m 26 ls []) := by
      intro fu
      induction fu with
      | zero => intro sm k hmu; exact absurd hmu (Nat.not_lt_zero _)
      | succ fu ih26 =>
        intro sm k hmu hk hsm ls hl
        refine lv_iload hx hb dX2_wealth_26 (lv_at hl 4 rfl) ?_
        refine ts_bipush hx hb dX2_wealth_28 (by decide) ?_
        refine ts_icmp_ge (tgt := 57) hx hb (by omega) dX2_wealth_30 (by decide) (fun c30 => ?_) (fun c30 => ?_)
        · skip
          refine lv_iload_n hx hb dX2_wealth_57 rfl (lv_at hl 2 rfl) ?_
          refine ts_if_ne (tgt := 66) hx hb (by omega) dX2_wealth_58 (by decide) (fun c58 => ?_) (fun c58 => ?_)
          · skip
            have hk10 : k.toNat = 10 := by omega
            rw [hk10] at hsm
            obtain ⟨an, han⟩ : ∃ an : Nat, sm = (an : Int) := ⟨sm.toNat, by omega⟩
            obtain ⟨bn, hbn⟩ : ∃ bn : Nat, z17 = (bn : Int) := ⟨z17.toNat, by omega⟩
            have hfv0 : FV (FP.fdiv (FP.i2f (iN sm)) (FP.i2f (iN z17))) := by
              rw [han, hbn]
              by_cases h0 : an = 0
              · rw [h0]
                exact Or.inl (wealth_0 (by omega))
              · exact Or.inr (wealth_fn (by omega) (by omega))
            refine lv_iload_n hx hb dX2_wealth_66 rfl (lv_at hl 3 rfl) ?_
            refine lv_i2f hx hb dX2_wealth_67 ?_
            refine lv_iload_n hx hb dX2_wealth_68 rfl (lv_at hl 2 rfl) ?_
            refine lv_i2f hx hb dX2_wealth_69 ?_
            obtain ⟨f70, hf70⟩ : ∃ f, f = FP.fdiv (FP.i2f (iN (sm))) (FP.i2f (iN (z17))) := ⟨_, rfl⟩
            refine lv_fdiv hx hb dX2_wealth_70 (by
        rcases hfv0 with w | ⟨cw, qw, w, _⟩
        · exact fn_nn (by rw [w]; intro e; cases e)
        · exact fn_n w) ?_
            rw [← hf70]
            have hfv : FV f70 := by rw [hf70]; exact hfv0
            refine ps_call (rest := []) cx hl (c_X2_bitsOf l f70 hfv) tg_RX2_156 ⟨rfl, rfl⟩ 1 rfl (by decide +kernel) ⟨Nat.le_of_ble_eq_true rfl, Nat.le_of_ble_eq_true rfl⟩ ⟨Nat.zero_le _, Nat.zero_le _⟩ (Nat.le_of_ble_eq_true rfl) dX2_wealth_71 (rfl) (fun z71 hz71 => ?_)
            have hR : wealthR S x = z71 := by
              unfold wealthR isP
              rw [if_neg (by omega), if_neg (by omega), hz71, hf70, hsm, hz17b]
            exact ro_ret cx hr hlocks (hR.symm) dX2_wealth_74
          · skip
            have hR : wealthR S x = -1000004 := by
              unfold wealthR isP
              rw [if_neg (by omega), if_pos (by omega)]
            refine ts_ldc (z := -1000004) hx hb cx.2.2.2.1 cx.2.2.2.2 tk_RX2_127 dX2_wealth_61 ?_
            refine lv_goto (tgt := 74) hx hb dX2_wealth_63 (by decide) ?_
            
            exact ro_ret cx hr hlocks (hR.symm) dX2_wealth_74
        · skip
          refine lv_iload_n hx hb dX2_wealth_33 rfl (lv_at hl 3 rfl) ?_
          refine lv_iload hx hb dX2_wealth_34 (lv_at hl 4 rfl) ?_
          refine ps_call (rest := [.int (iN sm)]) cx hl (c_X2_coins l k k.toNat (by omega)) tg_RX2_68 ⟨rfl, rfl⟩ 1 rfl (by decide +kernel) ⟨Nat.le_of_ble_eq_true rfl, Nat.le_of_ble_eq_true rfl⟩ ⟨Nat.zero_le _, Nat.zero_le _⟩ (Nat.le_of_ble_eq_true rfl) dX2_wealth_36 (rfl) (fun z36 hz36 => ?_)
          refine lv_aload_n hx hb dX2_wealth_39 rfl (lv_at hl 0 rfl) ?_
          refine lv_iload_n hx hb dX2_wealth_40 rfl (lv_at hl 1 rfl) ?_
          refine ts_iconst hx hb dX2_wealth_41 ?_
          refine ts_iconst hx hb dX2_wealth_42 ?_
          refine lv_iload hx hb dX2_wealth_43 (lv_at hl 4 rfl) ?_
          refine mm_callr (rest := [.int (iN z36), .int (iN sm)]) cx hK hA hw hl (c_X2_cardsOf l x 0 3 x.toNat 0 3 (by omega) k g S hx0 hv0 (by omega)) tg_RX2_128 ⟨rfl, rfl⟩ 4 rfl (by decide +kernel) ⟨Nat.le_of_ble_eq_true rfl, Nat.le_of_ble_eq_true rfl⟩ ⟨Nat.zero_le _, Nat.zero_le _⟩ (Nat.le_of_ble_eq_true rfl) dX2_wealth_45 (rfl) (fun z45 hz45 => ?_)
          refine ts_imul hx hb dX2_wealth_48 (fun z48 hz48 => ?_)
          refine ts_iadd hx hb dX2_wealth_49 (fun z49 hz49 => ?_)
          refine lv_istore_n (lv' := [(3, .int (iN z49)), (0, .ref (ad 0)), (1, .int (iN x)), (2, .int (iN z17)), (4, .int (iN k))]) hx hb dX2_wealth_50 rfl hl (by decide) rfl (fun ls hl => ?_)
          obtain ⟨z51, hz51⟩ : ∃ z : Int, z = k + 1 := ⟨_, rfl⟩
          refine lv_iinc (v := iN z51) (lv' := [(4, .int (iN z51)), (3, .int (iN z49)), (0, .ref (ad 0)), (1, .int (iN x)), (2, .int (iN z17))]) hx hb dX2_wealth_51 hl (k := 4) rfl (by rw [hz51]; exact iN_add _ _) (by decide) rfl (fun ls hl => ?_)
          have hsn : z49 = sumN (fun j => tv 1 j * cqA j S.2 x.toNat 0 4) z51.toNat := by
            have e : cqA k S.2 x.toNat 0 (3 + 1 - 0) = cqA ((k.toNat : Nat) : Int) S.2 x.toNat 0 4 := by rw [show ((k.toNat : Nat) : Int) = k by omega]
            rw [show z51.toNat = k.toNat + 1 by omega, hz49, hz48, hsm, hz36, hz45, e]
            rfl
          refine lv_goto (tgt := 26) hx hb dX2_wealth_54 (by decide) ?_
          exact ih26 (z49) (z51) (by omega) (by omega) (hsn) _ (lv_sub hl [2, 3, 4, 1, 0] rfl)
    exact cut26 _ (0) (0) (Nat.lt_succ_self _) (by omega) (rfl) _ (lv_sub hl [3, 4, 2, 1, 0] rfl)
  · skip
    have hR : wealthR S x = -1000001 := by
      unfold wealthR isP
      rw [if_pos (by omega)]
    refine ts_ldc (z := -1000001) hx hb cx.2.2.2.1 cx.2.2.2.2 tk_RX2_63 dX2_wealth_8 ?_
    exact ro_ret cx hr hlocks (hR.symm) dX2_wealth_10
