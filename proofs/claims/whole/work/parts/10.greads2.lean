/-! bits of a set -/
theorem setb_or : ∀ k : Fin 10, ∀ s : Fin 1024, s.1 < 2 ^ k.1 → iN (s.1 : Int) ||| iN ((2 ^ k.1 : Nat) : Int) = iN (((s.1 + 2 ^ k.1 : Nat)) : Int) := by decide +kernel
theorem setb_shl : ∀ k : Fin 10, iN 1 <<< (iN (k.1 : Int) &&& 31) = iN ((2 ^ k.1 : Nat) : Int) := by decide +kernel
section SETB
variable {p : Program} {l : Launch} {e : Env} {R : Room} {s : State} {m : MethodId} {args : Array Value} {below : List Frame} {meth : Method} {c : Code} {H : Heap} {locs : List Loc} {cells slots : Nat} {Q : State → Prop}
variable {cc : ByteArray} {pc : Nat} {ls : Array Slot} {rest : List Value}
theorem ts_ishl (hx : p.tables.exec = Jvm.exec) (hb : c.code = cc) {a : Int} (k : Nat) (hk : a = (k : Int) ∧ k < 10) (hdg : decode cc pc = .ok (.ishl, 1)) (kk : ∀ z : Int, z = 2 ^ k → W p l e R s m args below meth c H locs cells slots Q (F0 m (pc + 1) ls (.int (iN z) :: rest))) : W p l e R s m args below meth c H locs cells slots Q (F0 m pc ls (.int (iN a) :: .int (iN 1) :: rest)) := by
  obtain ⟨rfl, hk⟩ := hk
  refine lv_ishl hx hb hdg ?_
  rw [setb_shl ⟨k, hk⟩]
  exact kk _ (by rw [Int.natCast_pow]; rfl)
theorem ts_ior (hx : p.tables.exec = Jvm.exec) (hb : c.code = cc) {a b : Int} (hk : ∃ k : Nat, k < 10 ∧ b = 2 ^ k ∧ 0 ≤ a ∧ a < 2 ^ k) (hdg : decode cc pc = .ok (.ior, 1)) (kk : ∀ z : Int, z = a + b → W p l e R s m args below meth c H locs cells slots Q (F0 m (pc + 1) ls (.int (iN z) :: rest))) : W p l e R s m args below meth c H locs cells slots Q (F0 m pc ls (.int (iN b) :: .int (iN a) :: rest)) := by
  obtain ⟨k, hk, rfl, h0, h1⟩ := hk
  refine lv_ior hx hb hdg ?_
  have e2 : (2 : Int) ^ k = ((2 ^ k : Nat) : Int) := by rw [Int.natCast_pow]; rfl
  have h2 : 2 ^ k ≤ 2 ^ 9 := Nat.pow_le_pow_right (by omega) (by omega)
  rw [e2] at h1 kk ⊢
  have h3 := setb_or ⟨k, hk⟩ ⟨a.toNat, by omega⟩ (by show a.toNat < 2 ^ k; omega)
  have h4 : ((a.toNat : Nat) : Int) = a := by omega
  have h5 : ((a.toNat + 2 ^ k : Nat) : Int) = a + ((2 ^ k : Nat) : Int) := by omega
  simp only [h4, h5] at h3
  rw [h3]
  exact kk _ rfl
end SETB
theorem NX_13 {g : GS} {sc : SCT} (hs : RS g sc) (hn : NX g) : (sc 8 = 0 ∨ sc 8 = 1) ∧ (0 ≤ sc 6 ∧ sc 6 ≤ 9) ∧ (0 ≤ sc 3 ∧ sc 3 ≤ 1000) ∧ (0 ≤ sc 2 ∧ sc 2 ≤ 1000) ∧ (0 ≤ sc 4 ∧ sc 4 ≤ 1000) ∧ (2 ≤ sc 0 ∧ sc 0 ≤ 4) ∧ (0 ≤ sc 1 ∧ sc 1 < sc 0) := by
  obtain ⟨h0, h1, h2, h3, h4, h5, h6, h9, h7, h8, -, -⟩ := hs
  obtain ⟨n0, n1, n2, n3, n4, n5, n6, n9, n8, -, -⟩ := hn
  omega
/-! cards one by one, and by kinds -/
theorem sumN_zz {f : Nat → Int} : ∀ {n : Nat}, (∀ i, i < n → f i = 0) → sumN f n = 0
  | 0, _ => rfl
  | n + 1, h => by
    show sumN f n + f n = 0
    rw [sumN_zz (fun i hi => h i (by omega)), h n (by omega)]
    rfl
theorem sumN_pp (f g : Nat → Int) : ∀ n : Nat, sumN (fun k => f k + g k) n = sumN f n + sumN g n
  | 0 => rfl
  | n + 1 => by
    show sumN (fun k => f k + g k) n + (f n + g n) = sumN f n + f n + (sumN g n + g n)
    rw [sumN_pp f g n]
    omega
theorem sumN_one (f : Nat → Int) (c : Int) : ∀ n : Nat, sumN (fun k => f k * (if c = (k : Int) then 1 else 0)) n = if 0 ≤ c ∧ c < n then f c.toNat else 0
  | 0 => by
    rw [if_neg (by omega)]
    rfl
  | n + 1 => by
    show sumN (fun k => f k * (if c = (k : Int) then 1 else 0)) n + f n * (if c = (n : Int) then 1 else 0) = _
    rw [sumN_one f c n]
    by_cases h : c = (n : Int)
    · rw [if_neg (by omega), if_pos h, if_pos (by omega), show c.toNat = n by omega, Int.mul_one, Int.zero_add]
    · rw [if_neg h, Int.mul_zero, Int.add_zero]
      by_cases h2 : 0 ≤ c ∧ c < n
      · rw [if_pos h2, if_pos (by omega)]
      · rw [if_neg h2, if_neg (by omega)]
/-- what n cards are worth: card by card, or kind by kind -/
theorem sumN_kinds (t : Nat) (c : Nat → Int) : ∀ n : Nat, (∀ i, i < n → 0 ≤ c i ∧ c i ≤ 9) → sumN (fun k => tv t k * sumN (fun i => if c i = (k : Int) then 1 else 0) n) 10 = sumN (fun i => tv t (c i).toNat) n
  | 0, _ => sumN_zz (fun k _ => Int.mul_zero _)
  | n + 1, h => by
    have ih := sumN_kinds t c n (fun i hi => h i (by omega))
    have h1 := sumN_one (tv t) (c n) 10
    have hn := h n (by omega)
    rw [if_pos (by omega)] at h1
    show _ = sumN (fun i => tv t (c i).toNat) n + tv t (c n).toNat
    rw [← ih, ← h1, ← sumN_pp]
    exact sumN_congr (fun k _ => Int.mul_add _ _ _)
set_option maxHeartbeats 4000000 in
set_option maxRecDepth 100000 in
theorem c_X0_sumOf (l : Launch) (t w : Nat) (g : GS) (ht : t < 10) (hw0 : w < 4) (hm : MX g) (hm2 : KX g) : gmRt l yX0_sumOf (wU yX0_sumOf cX0_sumOf 5 (some .int)) ({ frames := 2, cells := 0, slots := 0, locals := 49 } : Room) (fun tb => [.int (iN ((w : Int))), .ref (tb t)]) g (fun z => z = sumN (fun i => tv t (g 0 ((g 1 (4 * w + 0)).toNat + i)).toNat) (g 1 (4 * w + 3 + 1) - g 1 (4 * w + 0)).toNat) := by
  refine gmRt_of (by decide) (fun _ => Nat.le_of_ble_eq_true rfl) ?_
  intro p e s m args below meth c D cI tb ad A ls cx hr hlocks hK hA hT hw hl
  have hx := cx.1
  have hb := cx.2.1
  have hl : lv_has ls 5 [(0, .ref (ad 0)), (1, .int (iN ((w : Int)))), (2, .ref (tb t))] := hl
  have hT2 := MX_b hm
  have hq := MX_le hm (a := 4 * w + 3 + 1) (b := 16) (by omega) (by omega)
  have hq2 := MX_le hm (a := 4 * w + 0) (b := 4 * w + 3 + 1) (by omega) (by omega)
  have hb0 := hT2 (4 * w + 0) (by omega)
  obtain ⟨F, hF⟩ : ∃ F : Nat → Int, F = fun k => tv t k * sumN (fun i => if g 0 ((g 1 (4 * w + 0)).toNat + i) = (k : Int) then 1 else 0) (g 1 (4 * w + 3 + 1) - g 1 (4 * w + 0)).toNat := ⟨_, rfl⟩
  have hK10 : sumN F 10 = sumN (fun i => tv t (g 0 ((g 1 (4 * w + 0)).toNat + i)).toNat) (g 1 (4 * w + 3 + 1) - g 1 (4 * w + 0)).toNat := by
    rw [hF]
    exact sumN_kinds t (fun i => g 0 ((g 1 (4 * w + 0)).toNat + i)) _ (fun i hi => hm2 _ (by omega))
  refine ts_iconst hx hb dX0_sumOf_0 ?_
  refine lv_istore_n (lv' := [(3, .int (iN 0)), (0, .ref (ad 0)), (1, .int (iN ((w : Int)))), (2, .ref (tb t))]) hx hb dX0_sumOf_1 rfl hl (by decide) rfl (fun ls hl => ?_)
  refine ts_iconst hx hb dX0_sumOf_2 ?_
  refine lv_istore (lv' := [(4, .int (iN 0)), (3, .int (iN 0)), (0, .ref (ad 0)), (1, .int (iN ((w : Int)))), (2, .ref (tb t))]) hx hb dX0_sumOf_3 hl (by decide) rfl (fun ls hl => ?_)
  have cut5 : ∀ (fu : Nat) (n : Int) (k : Int) (hmu : (10 - k).toNat < fu) (hk : 0 ≤ k ∧ k ≤ 10) (hn : n = sumN F k.toNat) (ls : Array Slot) (hl : lv_has ls 5 [(0, .ref (ad 0)), (1, .int (iN ((w : Int)))), (2, .ref (tb t)), (3, .int (iN n)), (4, .int (iN k))]), W p l e ({ frames := 2, cells := 0, slots := 0, locals := 49 } : Room) s m args below meth c s.heap [] 0 0 (roQ below args s (fun z => z = sumN (fun i => tv t (g 0 ((g 1 (4 * w + 0)).toNat + i)).toNat) (g 1 (4 * w + 3 + 1) - g 1 (4 * w + 0)).toNat)) (F0 m 5 ls []) := by
    intro fu
    induction fu with
    | zero => intro n k hmu; exact absurd hmu (Nat.not_lt_zero _)
    | succ fu ih5 =>
      intro n k hmu hk hn ls hl
      refine lv_iload hx hb dX0_sumOf_5 (lv_at hl 4 rfl) ?_
      refine lv_aload_n hx hb dX0_sumOf_7 rfl (lv_at hl 2 rfl) ?_
      refine tt_len hx hb hT hw.2.2 t (ht) dX0_sumOf_8 ?_
      refine ts_icmp_ge (tgt := 35) hx hb (by omega) dX0_sumOf_9 (by decide) (fun c9 => ?_) (fun c9 => ?_)
      · skip
        refine lv_iload_n hx hb dX0_sumOf_35 rfl (lv_at hl 3 rfl) ?_
        exact ro_ret cx hr hlocks (by rw [hn, show k.toNat = 10 by omega]; exact hK10) dX0_sumOf_36
      · skip
        refine lv_iload_n hx hb dX0_sumOf_12 rfl (lv_at hl 3 rfl) ?_
        refine lv_aload_n hx hb dX0_sumOf_13 rfl (lv_at hl 2 rfl) ?_
        refine lv_iload hx hb dX0_sumOf_14 (lv_at hl 4 rfl) ?_
        refine tt_ld hx hb hT hw.2.2 t (ht) (k.toNat) (by omega) dX0_sumOf_16 (fun z16 hz16 => ?_)
        have hb16 := tv_b t (k.toNat)
        refine lv_aload_n hx hb dX0_sumOf_17 rfl (lv_at hl 0 rfl) ?_
        refine lv_iload_n hx hb dX0_sumOf_18 rfl (lv_at hl 1 rfl) ?_
        refine ts_iconst hx hb dX0_sumOf_19 ?_
        refine ts_iconst hx hb dX0_sumOf_20 ?_
        refine lv_iload hx hb dX0_sumOf_21 (lv_at hl 4 rfl) ?_
        refine gm_callr (rest := [.int (iN z16), .int (iN n)]) cx hK hT hA hw hl (c_X0_howMany l w 0 3 k g hw0 (by omega) (by omega) hm hm2) tg_RX0_154 ⟨rfl, rfl⟩ 4 rfl (by decide +kernel) ⟨Nat.le_of_ble_eq_true rfl, Nat.le_of_ble_eq_true rfl⟩ ⟨Nat.zero_le _, Nat.zero_le _⟩ (Nat.le_of_ble_eq_true rfl) dX0_sumOf_23 (rfl) (fun z23 hz23 => ?_)
        refine ts_imul hx hb dX0_sumOf_26 (fun z26 hz26 => ?_)
        refine ts_iadd hx hb dX0_sumOf_27 (fun z27 hz27 => ?_)
        refine lv_istore_n (lv' := [(3, .int (iN z27)), (0, .ref (ad 0)), (1, .int (iN ((w : Int)))), (2, .ref (tb t)), (4, .int (iN k))]) hx hb dX0_sumOf_28 rfl hl (by decide) rfl (fun ls hl => ?_)
        have hs := sumN_s (f := F) (a := (k + 1).toNat) (b := k.toNat) (by omega)
        have hfk : z26 = F k.toNat := by
          rw [hz26, hz16, hF]
          rcases hz23 with q | q
          · exact absurd q.1 (by omega)
          · rw [q.2]
            dsimp only
            rw [show ((k.toNat : Nat) : Int) = k by omega]
        obtain ⟨z29, hz29⟩ : ∃ z : Int, z = k + 1 := ⟨_, rfl⟩
        refine lv_iinc (v := iN z29) (lv' := [(4, .int (iN z29)), (3, .int (iN z27)), (0, .ref (ad 0)), (1, .int (iN ((w : Int)))), (2, .ref (tb t))]) hx hb dX0_sumOf_29 hl (k := 4) rfl (by rw [hz29]; exact iN_add _ _) (by decide) rfl (fun ls hl => ?_)
        have hsn : z27 = sumN F z29.toNat := by rw [hz29, hs, ← hfk, hz27, hn]
        refine lv_goto (tgt := 5) hx hb dX0_sumOf_32 (by decide) ?_
        exact ih5 (z27) (z29) (by omega) (by omega) (hsn) _ (lv_sub hl [2, 3, 4, 1, 0] rfl)
  exact cut5 _ (0) (0) (Nat.lt_succ_self _) (by omega) (rfl) _ (lv_sub hl [2, 3, 4, 1, 0] rfl)
set_option maxHeartbeats 4000000 in
set_option maxRecDepth 100000 in
theorem c_X0_whyNotBought (l : Launch) (k : Nat) (g : GS) (sc : SCT) (hk : k < 10) (hs : RS g sc) (hn : NX g) : gmRi l yX0_whyNotBought (wU yX0_whyNotBought cX0_whyNotBought 2 (some .int)) ({ frames := 1, cells := 0, slots := 0, locals := 21 } : Room) [.int (iN ((k : Int)))] g (fun z => z = why sc k) := by
  refine gmRi_of (by decide) (Nat.le_of_ble_eq_true rfl) ?_
  intro p e s m args below meth c D cI tb ad A ls cx hr hlocks hK hA hT hw hl
  have hx := cx.1
  have hb := cx.2.1
  have hl : lv_has ls 2 [(0, .ref (ad 0)), (1, .int (iN ((k : Int))))] := hl
  have hn1 := NX_13 hs hn
  obtain ⟨h0, h1, h2, h3, h4, h5, h6, h9, h7, h8, hp, -⟩ := id hs
  have hpk := hp k hk
  have hpb := hn.2.2.2.2.2.2.2.2.2.1 k hk
  have htv := tv_b 0 k
  refine lv_aload_n hx hb dX0_whyNotBought_0 rfl (lv_at hl 0 rfl) ?_
  refine gm_get13 cx hK hw tl_RX0_58 dX0_whyNotBought_1 (fun z1 hz1 => ?_)
  refine ts_if_eq (tgt := 9) hx hb (by omega) dX0_whyNotBought_4 (by decide) (fun c4 => ?_) (fun c4 => ?_)
  · skip
    refine lv_aload_n hx hb dX0_whyNotBought_9 rfl (lv_at hl 0 rfl) ?_
    refine lv_iload_n hx hb dX0_whyNotBought_10 rfl (lv_at hl 1 rfl) ?_
    refine gm_callr (rest := []) cx hK hT hA hw hl (c_X0_isInRow l k g hk hn) tg_RX0_165 ⟨rfl, rfl⟩ 1 rfl (by decide +kernel) ⟨Nat.le_of_ble_eq_true rfl, Nat.le_of_ble_eq_true rfl⟩ ⟨Nat.zero_le _, Nat.zero_le _⟩ (Nat.le_of_ble_eq_true rfl) dX0_whyNotBought_11 (rfl) (fun z11 hz11 => ?_)
    refine ts_if_ne (tgt := 19) hx hb (by omega) dX0_whyNotBought_14 (by decide) (fun c14 => ?_) (fun c14 => ?_)
    · skip
      refine lv_aload_n hx hb dX0_whyNotBought_19 rfl (lv_at hl 0 rfl) ?_
      refine gm_get2 cx hK hw tl_RX0_18 dX0_whyNotBought_20 ?_
      refine lv_iload_n hx hb dX0_whyNotBought_23 rfl (lv_at hl 1 rfl) ?_
      refine gm_ld2 cx hK hw (k) (by omega) dX0_whyNotBought_24 (fun z24 hz24 => ?_)
      have hb24 := hn.2.2.2.2.2.2.2.2.2.1 (k) (by omega)
      refine ts_if_gt (tgt := 30) hx hb (by omega) dX0_whyNotBought_25 (by decide) (fun c25 => ?_) (fun c25 => ?_)
      · skip
        refine lv_aload_n hx hb dX0_whyNotBought_30 rfl (lv_at hl 0 rfl) ?_
        refine gm_get7 cx hK hw tl_RX0_40 dX0_whyNotBought_31 (fun z31 hz31 => ?_)
        refine ts_if_gt (tgt := 39) hx hb (by omega) dX0_whyNotBought_34 (by decide) (fun c34 => ?_) (fun c34 => ?_)
        · skip
          refine lv_aload_n hx hb dX0_whyNotBought_39 rfl (lv_at hl 0 rfl) ?_
          refine gm_get6 cx hK hw tl_RX0_37 dX0_whyNotBought_40 (fun z40 hz40 => ?_)
          refine tt_gst cx hT hw.2.2 0 (by decide) rfl dX0_whyNotBought_43 ?_
          refine lv_iload_n hx hb dX0_whyNotBought_46 rfl (lv_at hl 1 rfl) ?_
          refine tt_ld hx hb hT hw.2.2 0 (by decide) (k) (by omega) dX0_whyNotBought_47 (fun z47 hz47 => ?_)
          have hb47 := tv_b 0 (k)
          refine ts_icmp_ge (tgt := 55) hx hb (by omega) dX0_whyNotBought_48 (by decide) (fun c48 => ?_) (fun c48 => ?_)
          · skip
            refine ts_iconst hx hb dX0_whyNotBought_55 ?_
            exact ro_ret cx hr hlocks (by unfold why; (repeat' split) <;> omega) dX0_whyNotBought_56
          · skip
            refine ts_iconst hx hb dX0_whyNotBought_51 ?_
            refine lv_goto (tgt := 56) hx hb dX0_whyNotBought_52 (by decide) ?_
            exact ro_ret cx hr hlocks (by unfold why; (repeat' split) <;> omega) dX0_whyNotBought_56
        · skip
          refine ts_iconst hx hb dX0_whyNotBought_37 ?_
          exact ro_ret cx hr hlocks (by unfold why; (repeat' split) <;> omega) dX0_whyNotBought_38
      · skip
        refine ts_iconst hx hb dX0_whyNotBought_28 ?_
        exact ro_ret cx hr hlocks (by unfold why; (repeat' split) <;> omega) dX0_whyNotBought_29
    · skip
      refine ts_iconst hx hb dX0_whyNotBought_17 ?_
      exact ro_ret cx hr hlocks (by unfold why; (repeat' split) <;> omega) dX0_whyNotBought_18
  · skip
    refine ts_iconst hx hb dX0_whyNotBought_7 ?_
    exact ro_ret cx hr hlocks (by unfold why; (repeat' split) <;> omega) dX0_whyNotBought_8
set_option maxHeartbeats 4000000 in
set_option maxRecDepth 100000 in
theorem c_X0_kindsToBuy (l : Launch) (g : GS) (sc : SCT) (hs : RS g sc) (hn : NX g) : gmRi l yX0_kindsToBuy (wU yX0_kindsToBuy cX0_kindsToBuy 3 (some .int)) ({ frames := 2, cells := 0, slots := 0, locals := 42 } : Room) [] g (fun z => z = setN sc 10) := by
  refine gmRi_of (by decide) (Nat.le_of_ble_eq_true rfl) ?_
  intro p e s m args below meth c D cI tb ad A ls cx hr hlocks hK hA hT hw hl
  have hx := cx.1
  have hb := cx.2.1
  have hl : lv_has ls 3 [(0, .ref (ad 0))] := hl
  refine ts_iconst hx hb dX0_kindsToBuy_0 ?_
  refine lv_istore_n (lv' := [(1, .int (iN 0)), (0, .ref (ad 0))]) hx hb dX0_kindsToBuy_1 rfl hl (by decide) rfl (fun ls hl => ?_)
  refine ts_iconst hx hb dX0_kindsToBuy_2 ?_
  refine lv_istore_n (lv' := [(2, .int (iN 0)), (1, .int (iN 0)), (0, .ref (ad 0))]) hx hb dX0_kindsToBuy_3 rfl hl (by decide) rfl (fun ls hl => ?_)
  have cut4 : ∀ (fu : Nat) (n : Int) (i : Int) (hmu : (10 - i).toNat < fu) (hi : 0 ≤ i ∧ i ≤ 10) (hq : n = setN sc i.toNat) (ls : Array Slot) (hl : lv_has ls 3 [(0, .ref (ad 0)), (1, .int (iN n)), (2, .int (iN i))]), W p l e ({ frames := 2, cells := 0, slots := 0, locals := 42 } : Room) s m args below meth c s.heap [] 0 0 (roQ below args s (fun z => z = setN sc 10)) (F0 m 4 ls []) := by
    intro fu
    induction fu with
    | zero => intro n i hmu; exact absurd hmu (Nat.not_lt_zero _)
    | succ fu ih4 =>
      intro n i hmu hi hq ls hl
      refine lv_iload_n hx hb dX0_kindsToBuy_4 rfl (lv_at hl 2 rfl) ?_
      refine ts_bipush hx hb dX0_kindsToBuy_5 (by decide) ?_
      refine ts_icmp_ge (tgt := 30) hx hb (by omega) dX0_kindsToBuy_7 (by decide) (fun c7 => ?_) (fun c7 => ?_)
      · skip
        refine lv_iload_n hx hb dX0_kindsToBuy_30 rfl (lv_at hl 1 rfl) ?_
        exact ro_ret cx hr hlocks (by rw [hq]; congr 1; omega) dX0_kindsToBuy_31
      · skip
        have hv : ((i.toNat : Nat) : Int) = i := by omega
        have hwb : why sc i.toNat = 0 ∨ why sc i.toNat = 1 ∨ why sc i.toNat = 2 ∨ why sc i.toNat = 3 ∨ why sc i.toNat = 4 ∨ why sc i.toNat = 5 := by unfold why; (repeat' split) <;> omega
        have hsb := setN_b sc i.toNat
        refine lv_aload_n hx hb dX0_kindsToBuy_10 rfl (lv_at hl 0 rfl) ?_
        refine lv_iload_n hx hb dX0_kindsToBuy_11 rfl (lv_at hl 2 rfl) ?_
        refine gm_callr (rest := []) cx hK hT hA hw hl (c_X0_whyNotBought l (i).toNat g sc (by omega) hs hn) tg_RX0_122 ⟨rfl, rfl⟩ 1 rfl (by decide +kernel) ⟨Nat.le_of_ble_eq_true rfl, Nat.le_of_ble_eq_true rfl⟩ ⟨Nat.zero_le _, Nat.zero_le _⟩ (Nat.le_of_ble_eq_true rfl) dX0_kindsToBuy_12 (by rw [hv]; rfl) (fun z12 hz12 => ?_)
        refine ts_if_ne (tgt := 24) hx hb (by omega) dX0_kindsToBuy_15 (by decide) (fun c15 => ?_) (fun c15 => ?_)
        · skip
          have he : i.toNat + 1 = (i + 1).toNat := by omega
          have hs2 : setN sc (i.toNat + 1) = setN sc i.toNat + (if why sc i.toNat = 0 then 2 ^ i.toNat else 0) := rfl
          rw [he] at hs2
          obtain ⟨z24, hz24⟩ : ∃ z : Int, z = i + 1 := ⟨_, rfl⟩
          refine lv_iinc (v := iN z24) (lv' := [(2, .int (iN z24)), (0, .ref (ad 0)), (1, .int (iN n))]) hx hb dX0_kindsToBuy_24 hl (k := 2) rfl (by rw [hz24]; exact iN_add _ _) (by decide) rfl (fun ls hl => ?_)
          have hsn : n = setN sc z24.toNat := by
            rw [hz24, hs2]
            by_cases hk : why sc i.toNat = 0
            · (rw [if_pos hk]) <;> omega
            · (rw [if_neg hk]) <;> omega
          refine lv_goto (tgt := 4) hx hb dX0_kindsToBuy_27 (by decide) ?_
          exact ih4 (n) (z24) (by omega) (by omega) (hsn) _ (lv_sub hl [1, 2, 0] rfl)
        · skip
          refine lv_iload_n hx hb dX0_kindsToBuy_18 rfl (lv_at hl 1 rfl) ?_
          refine ts_iconst hx hb dX0_kindsToBuy_19 ?_
          refine lv_iload_n hx hb dX0_kindsToBuy_20 rfl (lv_at hl 2 rfl) ?_
          refine ts_ishl hx hb (i.toNat) (by omega) dX0_kindsToBuy_21 (fun z21 hz21 => ?_)
          refine ts_ior hx hb (⟨i.toNat, by omega, hz21, by omega, by omega⟩) dX0_kindsToBuy_22 (fun z22 hz22 => ?_)
          refine lv_istore_n (lv' := [(1, .int (iN z22)), (0, .ref (ad 0)), (2, .int (iN i))]) hx hb dX0_kindsToBuy_23 rfl hl (by decide) rfl (fun ls hl => ?_)
          have he : i.toNat + 1 = (i + 1).toNat := by omega
          have hs2 : setN sc (i.toNat + 1) = setN sc i.toNat + (if why sc i.toNat = 0 then 2 ^ i.toNat else 0) := rfl
          rw [he] at hs2
          obtain ⟨z24, hz24⟩ : ∃ z : Int, z = i + 1 := ⟨_, rfl⟩
          refine lv_iinc (v := iN z24) (lv' := [(2, .int (iN z24)), (1, .int (iN z22)), (0, .ref (ad 0))]) hx hb dX0_kindsToBuy_24 hl (k := 2) rfl (by rw [hz24]; exact iN_add _ _) (by decide) rfl (fun ls hl => ?_)
          have hsn : z22 = setN sc z24.toNat := by
            rw [hz24, hs2]
            by_cases hk : why sc i.toNat = 0
            · (rw [if_pos hk]) <;> omega
            · (rw [if_neg hk]) <;> omega
          refine lv_goto (tgt := 4) hx hb dX0_kindsToBuy_27 (by decide) ?_
          exact ih4 (z22) (z24) (by omega) (by omega) (hsn) _ (lv_sub hl [2, 1, 0] rfl)
  exact cut4 _ (0) (0) (Nat.lt_succ_self _) (by omega) (by rfl) _ (lv_sub hl [2, 1, 0] rfl)
set_option maxHeartbeats 4000000 in
set_option maxRecDepth 100000 in
theorem c_X0_dearestToBuy (l : Launch) (g : GS) (sc : SCT) (hs : RS g sc) (hn : NX g) : gmRi l yX0_dearestToBuy (wU yX0_dearestToBuy cX0_dearestToBuy 4 (some .int)) ({ frames := 2, cells := 0, slots := 0, locals := 42 } : Room) [] g (fun z => z = dearN sc 10) := by
  refine gmRi_of (by decide) (Nat.le_of_ble_eq_true rfl) ?_
  intro p e s m args below meth c D cI tb ad A ls cx hr hlocks hK hA hT hw hl
  have hx := cx.1
  have hb := cx.2.1
  have hl : lv_has ls 4 [(0, .ref (ad 0))] := hl
  refine ts_iconst hx hb dX0_dearestToBuy_0 ?_
  refine lv_istore_n (lv' := [(1, .int (iN ((-1)))), (0, .ref (ad 0))]) hx hb dX0_dearestToBuy_1 rfl hl (by decide) rfl (fun ls hl => ?_)
  refine ts_iconst hx hb dX0_dearestToBuy_2 ?_
  refine lv_istore_n (lv' := [(2, .int (iN 1)), (1, .int (iN ((-1)))), (0, .ref (ad 0))]) hx hb dX0_dearestToBuy_3 rfl hl (by decide) rfl (fun ls hl => ?_)
  refine ts_iconst hx hb dX0_dearestToBuy_4 ?_
  refine lv_istore_n (lv' := [(3, .int (iN 0)), (2, .int (iN 1)), (1, .int (iN ((-1)))), (0, .ref (ad 0))]) hx hb dX0_dearestToBuy_5 rfl hl (by decide) rfl (fun ls hl => ?_)
  have cut6 : ∀ (fu : Nat) (n : Int) (q : Int) (i : Int) (hmu : (10 - i).toNat < fu) (hi : 0 ≤ i ∧ i ≤ 10) (hq : n = dearN sc i.toNat) (hq2 : (n < 0 ∧ q = 1) ∨ (0 ≤ n ∧ q = tv 0 n.toNat)) (hq3 : -1 ≤ n ∧ n ≤ 9 ∧ 1 ≤ q ∧ q ≤ 60) (ls : Array Slot) (hl : lv_has ls 4 [(0, .ref (ad 0)), (1, .int (iN n)), (2, .int (iN q)), (3, .int (iN i))]), W p l e ({ frames := 2, cells := 0, slots := 0, locals := 42 } : Room) s m args below meth c s.heap [] 0 0 (roQ below args s (fun z => z = dearN sc 10)) (F0 m 6 ls []) := by
    intro fu
    induction fu with
    | zero => intro n q i hmu; exact absurd hmu (Nat.not_lt_zero _)
    | succ fu ih6 =>
      intro n q i hmu hi hq hq2 hq3 ls hl
      refine lv_iload_n hx hb dX0_dearestToBuy_6 rfl (lv_at hl 3 rfl) ?_
      refine ts_bipush hx hb dX0_dearestToBuy_7 (by decide) ?_
      refine ts_icmp_ge (tgt := 43) hx hb (by omega) dX0_dearestToBuy_9 (by decide) (fun c9 => ?_) (fun c9 => ?_)
      · skip
        refine lv_iload_n hx hb dX0_dearestToBuy_43 rfl (lv_at hl 1 rfl) ?_
        exact ro_ret cx hr hlocks (by rw [hq]; congr 1; omega) dX0_dearestToBuy_44
      · skip
        have hv : ((i.toNat : Nat) : Int) = i := by omega
        have hwb : why sc i.toNat = 0 ∨ why sc i.toNat = 1 ∨ why sc i.toNat = 2 ∨ why sc i.toNat = 3 ∨ why sc i.toNat = 4 ∨ why sc i.toNat = 5 := by unfold why; (repeat' split) <;> omega
        refine tt_gst cx hT hw.2.2 0 (by decide) rfl dX0_dearestToBuy_12 ?_
        refine lv_iload_n hx hb dX0_dearestToBuy_15 rfl (lv_at hl 3 rfl) ?_
        refine tt_ld hx hb hT hw.2.2 0 (by decide) (i.toNat) (by omega) dX0_dearestToBuy_16 (fun z16 hz16 => ?_)
        have hb16 := tv_b 0 (i.toNat)
        refine lv_iload_n hx hb dX0_dearestToBuy_17 rfl (lv_at hl 2 rfl) ?_
        refine ts_icmp_lt (tgt := 37) hx hb (by omega) dX0_dearestToBuy_18 (by decide) (fun c18 => ?_) (fun c18 => ?_)
        · skip
          have he : i.toNat + 1 = (i + 1).toNat := by omega
          have hs2 : dearN sc (i.toNat + 1) = if 0 < tv 0 i.toNat ∧ why sc i.toNat = 0 ∧ (dearN sc i.toNat < 0 ∨ tv 0 (dearN sc i.toNat).toNat ≤ tv 0 i.toNat) then (i.toNat : Int) else dearN sc i.toNat := rfl
          rw [he, ← hq] at hs2
          have htq : 0 ≤ n → q = tv 0 n.toNat := by intro h; omega
          obtain ⟨z37, hz37⟩ : ∃ z : Int, z = i + 1 := ⟨_, rfl⟩
          refine lv_iinc (v := iN z37) (lv' := [(3, .int (iN z37)), (0, .ref (ad 0)), (1, .int (iN n)), (2, .int (iN q))]) hx hb dX0_dearestToBuy_37 hl (k := 3) rfl (by rw [hz37]; exact iN_add _ _) (by decide) rfl (fun ls hl => ?_)
          have hsn : n = dearN sc z37.toNat := by
            rw [hz37, hs2]
            by_cases hk : 0 < tv 0 i.toNat ∧ why sc i.toNat = 0 ∧ (n < 0 ∨ tv 0 n.toNat ≤ tv 0 i.toNat)
            · (rw [if_pos hk]) <;> omega
            · (rw [if_neg hk]) <;> omega
          have hsq : (n < 0 ∧ q = 1) ∨ (0 ≤ n ∧ q = tv 0 (n).toNat) := by omega
          have hsr : -1 ≤ n ∧ n ≤ 9 ∧ 1 ≤ q ∧ q ≤ 60 := by omega
          refine lv_goto (tgt := 6) hx hb dX0_dearestToBuy_40 (by decide) ?_
          exact ih6 (n) (q) (z37) (by omega) (by omega) (hsn) (hsq) (hsr) _ (lv_sub hl [1, 2, 3, 0] rfl)
        · skip
          refine lv_aload_n hx hb dX0_dearestToBuy_21 rfl (lv_at hl 0 rfl) ?_
          refine lv_iload_n hx hb dX0_dearestToBuy_22 rfl (lv_at hl 3 rfl) ?_
          refine gm_callr (rest := []) cx hK hT hA hw hl (c_X0_whyNotBought l (i).toNat g sc (by omega) hs hn) tg_RX0_122 ⟨rfl, rfl⟩ 1 rfl (by decide +kernel) ⟨Nat.le_of_ble_eq_true rfl, Nat.le_of_ble_eq_true rfl⟩ ⟨Nat.zero_le _, Nat.zero_le _⟩ (Nat.le_of_ble_eq_true rfl) dX0_dearestToBuy_23 (by rw [hv]; rfl) (fun z23 hz23 => ?_)
          refine ts_if_ne (tgt := 37) hx hb (by omega) dX0_dearestToBuy_26 (by decide) (fun c26 => ?_) (fun c26 => ?_)
          · skip
            have he : i.toNat + 1 = (i + 1).toNat := by omega
            have hs2 : dearN sc (i.toNat + 1) = if 0 < tv 0 i.toNat ∧ why sc i.toNat = 0 ∧ (dearN sc i.toNat < 0 ∨ tv 0 (dearN sc i.toNat).toNat ≤ tv 0 i.toNat) then (i.toNat : Int) else dearN sc i.toNat := rfl
            rw [he, ← hq] at hs2
            have htq : 0 ≤ n → q = tv 0 n.toNat := by intro h; omega
            obtain ⟨z37, hz37⟩ : ∃ z : Int, z = i + 1 := ⟨_, rfl⟩
            refine lv_iinc (v := iN z37) (lv' := [(3, .int (iN z37)), (0, .ref (ad 0)), (1, .int (iN n)), (2, .int (iN q))]) hx hb dX0_dearestToBuy_37 hl (k := 3) rfl (by rw [hz37]; exact iN_add _ _) (by decide) rfl (fun ls hl => ?_)
            have hsn : n = dearN sc z37.toNat := by
              rw [hz37, hs2]
              by_cases hk : 0 < tv 0 i.toNat ∧ why sc i.toNat = 0 ∧ (n < 0 ∨ tv 0 n.toNat ≤ tv 0 i.toNat)
              · (rw [if_pos hk]) <;> omega
              · (rw [if_neg hk]) <;> omega
            have hsq : (n < 0 ∧ q = 1) ∨ (0 ≤ n ∧ q = tv 0 (n).toNat) := by omega
            have hsr : -1 ≤ n ∧ n ≤ 9 ∧ 1 ≤ q ∧ q ≤ 60 := by omega
            refine lv_goto (tgt := 6) hx hb dX0_dearestToBuy_40 (by decide) ?_
            exact ih6 (n) (q) (z37) (by omega) (by omega) (hsn) (hsq) (hsr) _ (lv_sub hl [1, 2, 3, 0] rfl)
          · skip
            refine lv_iload_n hx hb dX0_dearestToBuy_29 rfl (lv_at hl 3 rfl) ?_
            refine lv_istore_n (lv' := [(1, .int (iN i)), (0, .ref (ad 0)), (2, .int (iN q)), (3, .int (iN i))]) hx hb dX0_dearestToBuy_30 rfl hl (by decide) rfl (fun ls hl => ?_)
            refine tt_gst cx hT hw.2.2 0 (by decide) rfl dX0_dearestToBuy_31 ?_
            refine lv_iload_n hx hb dX0_dearestToBuy_34 rfl (lv_at hl 3 rfl) ?_
            refine tt_ld hx hb hT hw.2.2 0 (by decide) (i.toNat) (by omega) dX0_dearestToBuy_35 (fun z35 hz35 => ?_)
            have hb35 := tv_b 0 (i.toNat)
            refine lv_istore_n (lv' := [(2, .int (iN z35)), (1, .int (iN i)), (0, .ref (ad 0)), (3, .int (iN i))]) hx hb dX0_dearestToBuy_36 rfl hl (by decide) rfl (fun ls hl => ?_)
            have he : i.toNat + 1 = (i + 1).toNat := by omega
            have hs2 : dearN sc (i.toNat + 1) = if 0 < tv 0 i.toNat ∧ why sc i.toNat = 0 ∧ (dearN sc i.toNat < 0 ∨ tv 0 (dearN sc i.toNat).toNat ≤ tv 0 i.toNat) then (i.toNat : Int) else dearN sc i.toNat := rfl
            rw [he, ← hq] at hs2
            have htq : 0 ≤ n → q = tv 0 n.toNat := by intro h; omega
            obtain ⟨z37, hz37⟩ : ∃ z : Int, z = i + 1 := ⟨_, rfl⟩
            refine lv_iinc (v := iN z37) (lv' := [(3, .int (iN z37)), (2, .int (iN z35)), (1, .int (iN i)), (0, .ref (ad 0))]) hx hb dX0_dearestToBuy_37 hl (k := 3) rfl (by rw [hz37]; exact iN_add _ _) (by decide) rfl (fun ls hl => ?_)
            have hsn : i = dearN sc z37.toNat := by
              rw [hz37, hs2]
              by_cases hk : 0 < tv 0 i.toNat ∧ why sc i.toNat = 0 ∧ (n < 0 ∨ tv 0 n.toNat ≤ tv 0 i.toNat)
              · (rw [if_pos hk]) <;> omega
              · (rw [if_neg hk]) <;> omega
            have hsq : (i < 0 ∧ z35 = 1) ∨ (0 ≤ i ∧ z35 = tv 0 (i).toNat) := by omega
            have hsr : -1 ≤ i ∧ i ≤ 9 ∧ 1 ≤ z35 ∧ z35 ≤ 60 := by omega
            refine lv_goto (tgt := 6) hx hb dX0_dearestToBuy_40 (by decide) ?_
            exact ih6 (i) (z35) (z37) (by omega) (by omega) (hsn) (hsq) (hsr) _ (lv_sub hl [3, 2, 1, 0] rfl)
  exact cut6 _ ((-1)) (1) (0) (Nat.lt_succ_self _) (by omega) (by rfl) (by omega) (by omega) _ (lv_sub hl [3, 2, 1, 0] rfl)
theorem lx_at (L : LLT) (p r : Nat) (hr : r < 4) : lx L (4 * p + r) = L p (wx r) := by
  unfold lx
  rw [show (4 * p + r) / 4 = p by omega, show (4 * p + r) % 4 = r by omega]
set_option maxHeartbeats 4000000 in
set_option maxRecDepth 100000 in
theorem c_X0_firstInHand (l : Launch) (lo hi : Int) (g : GS) (S : StT) (hx0 : RX g S) (hn : NX g) (hk : kindsOk (lx S.2)) (hlh : (0 ≤ lo ∧ lo ≤ 9) ∧ (0 ≤ hi ∧ hi ≤ 9)) : gmRi l yX0_firstInHand (wU yX0_firstInHand cX0_firstInHand 7 (some .int)) ({ frames := 1, cells := 0, slots := 0, locals := 21 } : Room) [.int (iN lo), .int (iN hi)] g (fun z => z = ffst lo hi (hand S)) := by
  refine gmRi_of (by decide) (Nat.le_of_ble_eq_true rfl) ?_
  intro p e s m args below meth c D cI tb ad A ls cx hr hlocks hK hA hT hw hl
  have hx := cx.1
  have hb := cx.2.1
  have hl : lv_has ls 7 [(0, .ref (ad 0)), (1, .int (iN lo)), (2, .int (iN hi))] := hl
  have hm := PX_M hx0.2
  have hm2 := PX_K hx0.2 hk
  have hT2 := MX_b hm
  have hn1 := NX_13 hx0.1 hn
  have h1 := hx0.1.2.1
  obtain ⟨w, hw4⟩ : ∃ w : Nat, g 4 5 = (w : Int) := ⟨(g 4 5).toNat, by omega⟩
  have hh : hand S = lx S.2 (4 * w + 2) := by
    rw [lx_at _ _ _ (by omega)]
    unfold hand pl
    rw [← h1, hw4, Int.toNat_natCast]
    rfl
  have hlen := hx0.2.2.1 (4 * w + 2) (by omega)
  have hcd := hx0.2.2.2.1 (4 * w + 2) (by omega)
  have hkk := hk (4 * w + 2) (by omega)
  rw [← hh] at hlen hcd hkk
  have hq := MX_le hm (a := 4 * w + 2 + 1) (b := 16) (by omega) (by omega)
  refine lv_aload_n hx hb dX0_firstInHand_0 rfl (lv_at hl 0 rfl) ?_
  refine gm_get1 cx hK hw tl_RX0_15 dX0_firstInHand_1 ?_
  refine lv_aload_n hx hb dX0_firstInHand_4 rfl (lv_at hl 0 rfl) ?_
  refine gm_get5 cx hK hw tl_RX0_34 dX0_firstInHand_5 (fun z5 hz5 => ?_)
  refine ts_iconst hx hb dX0_firstInHand_8 ?_
  refine ts_imul hx hb dX0_firstInHand_9 (fun z9 hz9 => ?_)
  refine ts_iconst hx hb dX0_firstInHand_10 ?_
  refine ts_iadd hx hb dX0_firstInHand_11 (fun z11 hz11 => ?_)
  refine gm_ld1 cx hK hw (4 * w + 2) (by omega) dX0_firstInHand_12 (fun z12 hz12 => ?_)
  have hb12 := hT2 (4 * w + 2) (by omega)
  refine lv_istore_n (lv' := [(3, .int (iN z12)), (0, .ref (ad 0)), (1, .int (iN lo)), (2, .int (iN hi))]) hx hb dX0_firstInHand_13 rfl hl (by decide) rfl (fun ls hl => ?_)
  refine lv_aload_n hx hb dX0_firstInHand_14 rfl (lv_at hl 1 rfl) ?_
  refine gm_get1 cx hK hw tl_RX0_15 dX0_firstInHand_15 ?_
  refine lv_aload_n hx hb dX0_firstInHand_18 rfl (lv_at hl 1 rfl) ?_
  refine gm_get5 cx hK hw tl_RX0_34 dX0_firstInHand_19 (fun z19 hz19 => ?_)
  refine ts_iconst hx hb dX0_firstInHand_22 ?_
  refine ts_imul hx hb dX0_firstInHand_23 (fun z23 hz23 => ?_)
  refine ts_iconst hx hb dX0_firstInHand_24 ?_
  refine ts_iadd hx hb dX0_firstInHand_25 (fun z25 hz25 => ?_)
  refine gm_ld1 cx hK hw (4 * w + 2 + 1) (by omega) dX0_firstInHand_26 (fun z26 hz26 => ?_)
  have hb26 := hT2 (4 * w + 2 + 1) (by omega)
  refine lv_istore (lv' := [(4, .int (iN z26)), (3, .int (iN z12)), (0, .ref (ad 0)), (1, .int (iN lo)), (2, .int (iN hi))]) hx hb dX0_firstInHand_27 hl (by decide) rfl (fun ls hl => ?_)
  refine lv_iload_n hx hb dX0_firstInHand_29 rfl (lv_at hl 1 rfl) ?_
  refine lv_istore (lv' := [(5, .int (iN z12)), (4, .int (iN z26)), (3, .int (iN z12)), (0, .ref (ad 0)), (1, .int (iN lo)), (2, .int (iN hi))]) hx hb dX0_firstInHand_30 hl (by decide) rfl (fun ls hl => ?_)
  have cut32 : ∀ (fu : Nat) (i : Int) (hmu : (z26 - i).toNat < fu) (hi2 : z12 ≤ i ∧ i ≤ z26) (hno : ∀ j : Nat, (j : Int) < i - z12 → ¬ (lo ≤ (hand S).getD j 0 ∧ (hand S).getD j 0 ≤ hi)) (ls : Array Slot) (hl : lv_has ls 7 [(0, .ref (ad 0)), (1, .int (iN lo)), (2, .int (iN hi)), (3, .int (iN z12)), (4, .int (iN z26)), (5, .int (iN i))]), W p l e ({ frames := 1, cells := 0, slots := 0, locals := 21 } : Room) s m args below meth c s.heap [] 0 0 (roQ below args s (fun z => z = ffst lo hi (hand S))) (F0 m 32 ls []) := by
    intro fu
    induction fu with
    | zero => intro i hmu; exact absurd hmu (Nat.not_lt_zero _)
    | succ fu ih32 =>
      intro i hmu hi2 hno ls hl
      refine lv_iload hx hb dX0_firstInHand_32 (lv_at hl 5 rfl) ?_
      refine lv_iload hx hb dX0_firstInHand_34 (lv_at hl 4 rfl) ?_
      refine ts_icmp_ge (tgt := 70) hx hb (by omega) dX0_firstInHand_36 (by decide) (fun c36 => ?_) (fun c36 => ?_)
      · skip
        refine ts_iconst hx hb dX0_firstInHand_70 ?_
        exact ro_ret cx hr hlocks (by rw [ffst_none (fun k hk => hno k (by omega))]) dX0_firstInHand_71
      · skip
        have hci := hcd (i - z12).toNat (by omega)
        rw [show (g 1 (4 * w + 2)).toNat + (i - z12).toNat = i.toNat by omega] at hci
        refine lv_aload_n hx hb dX0_firstInHand_39 rfl (lv_at hl 0 rfl) ?_
        refine lv_iload hx hb dX0_firstInHand_40 (lv_at hl 5 rfl) ?_
        refine gm_callr (rest := []) cx hK hT hA hw hl (c_X0_kindAt l i g (by omega)) tg_RX0_151 ⟨rfl, rfl⟩ 1 rfl (by decide +kernel) ⟨Nat.le_of_ble_eq_true rfl, Nat.le_of_ble_eq_true rfl⟩ ⟨Nat.zero_le _, Nat.zero_le _⟩ (Nat.le_of_ble_eq_true rfl) dX0_firstInHand_42 (rfl) (fun z42 hz42 => ?_)
        have hk42 : z42 = g 0 i.toNat := by omega
        have hb42 := hm2 i.toNat (by omega)
        refine lv_istore (lv' := [(6, .int (iN z42)), (0, .ref (ad 0)), (1, .int (iN lo)), (2, .int (iN hi)), (3, .int (iN z12)), (4, .int (iN z26)), (5, .int (iN i))]) hx hb dX0_firstInHand_45 hl (by decide) rfl (fun ls hl => ?_)
        refine lv_iload hx hb dX0_firstInHand_47 (lv_at hl 0 rfl) ?_
        refine lv_iload_n hx hb dX0_firstInHand_49 rfl (lv_at hl 2 rfl) ?_
        refine ts_icmp_lt (tgt := 64) hx hb (by omega) dX0_firstInHand_50 (by decide) (fun c50 => ?_) (fun c50 => ?_)
        · skip
          obtain ⟨z64, hz64⟩ : ∃ z : Int, z = i + 1 := ⟨_, rfl⟩
          refine lv_iinc (v := iN z64) (lv' := [(5, .int (iN z64)), (6, .int (iN z42)), (0, .ref (ad 0)), (1, .int (iN lo)), (2, .int (iN hi)), (3, .int (iN z12)), (4, .int (iN z26))]) hx hb dX0_firstInHand_64 hl (k := 6) rfl (by rw [hz64]; exact iN_add _ _) (by decide) rfl (fun ls hl => ?_)
          have hno2 : ∀ j : Nat, (j : Int) < z64 - z12 → ¬ (lo ≤ (hand S).getD j 0 ∧ (hand S).getD j 0 ≤ hi) := by
            intro j hj
            by_cases hji : (j : Int) < i - z12
            · exact hno j hji
            · rw [show j = (i - z12).toNat by omega]
              omega
          refine lv_goto (tgt := 32) hx hb dX0_firstInHand_67 (by decide) ?_
          exact ih32 (z64) (by omega) (by omega) (hno2) _ (lv_sub hl [2, 3, 4, 5, 6, 0] rfl)
        · skip
          refine lv_iload hx hb dX0_firstInHand_53 (lv_at hl 0 rfl) ?_
          refine lv_iload_n hx hb dX0_firstInHand_55 rfl (lv_at hl 3 rfl) ?_
          refine ts_icmp_gt (tgt := 64) hx hb (by omega) dX0_firstInHand_56 (by decide) (fun c56 => ?_) (fun c56 => ?_)
          · skip
            obtain ⟨z64, hz64⟩ : ∃ z : Int, z = i + 1 := ⟨_, rfl⟩
            refine lv_iinc (v := iN z64) (lv' := [(5, .int (iN z64)), (6, .int (iN z42)), (0, .ref (ad 0)), (1, .int (iN lo)), (2, .int (iN hi)), (3, .int (iN z12)), (4, .int (iN z26))]) hx hb dX0_firstInHand_64 hl (k := 6) rfl (by rw [hz64]; exact iN_add _ _) (by decide) rfl (fun ls hl => ?_)
            have hno2 : ∀ j : Nat, (j : Int) < z64 - z12 → ¬ (lo ≤ (hand S).getD j 0 ∧ (hand S).getD j 0 ≤ hi) := by
              intro j hj
              by_cases hji : (j : Int) < i - z12
              · exact hno j hji
              · rw [show j = (i - z12).toNat by omega]
                omega
            refine lv_goto (tgt := 32) hx hb dX0_firstInHand_67 (by decide) ?_
            exact ih32 (z64) (by omega) (by omega) (hno2) _ (lv_sub hl [2, 3, 4, 5, 6, 0] rfl)
          · skip
            refine lv_iload hx hb dX0_firstInHand_59 (lv_at hl 6 rfl) ?_
            refine lv_iload_n hx hb dX0_firstInHand_61 rfl (lv_at hl 4 rfl) ?_
            refine ts_isub hx hb dX0_firstInHand_62 (fun z62 hz62 => ?_)
            exact ro_ret cx hr hlocks (by rw [ffst_at (k := (i - z12).toNat) (by omega) (by omega) (fun j hj => hno j (by omega))]; omega) dX0_firstInHand_63
  exact cut32 _ (z12) (Nat.lt_succ_self _) (by omega) (fun j hj => by omega) _ (lv_sub hl [3, 4, 5, 2, 1, 0] rfl)
theorem lead_le (L : LLT) : ∀ n : Nat, leadN L n ≤ n
  | 0 => Nat.le_refl _
  | n + 1 => by
    unfold leadN
    split
    · exact Nat.le_refl _
    · exact Nat.le_succ_of_le (lead_le L n)
theorem PX_pt {g : GS} {L : LLT} (h : PX g (lx L)) (p : Nat) (hp : p < 4) : sumN (fun i => tv 7 (g 0 ((g 1 (4 * p + 0)).toNat + i)).toNat) (g 1 (4 * p + 3 + 1) - g 1 (4 * p + 0)).toNat = ptA L p := PX_sum4 h (fun x => tv 7 x.toNat) p hp
theorem PX_len4 {g : GS} {L : LLT} (h : PX g (lx L)) (p : Nat) (hp : p < 4) : 0 ≤ g 1 (4 * p + 3 + 1) - g 1 (4 * p + 0) ∧ g 1 (4 * p + 3 + 1) - g 1 (4 * p + 0) ≤ 164 := by
  have h1 := MX_le (PX_M h) (a := 4 * p + 0) (b := 4 * p + 3 + 1) (by omega) (by omega)
  have h2 := MX_b (PX_M h) (4 * p + 0) (by omega)
  have h3 := MX_b (PX_M h) (4 * p + 3 + 1) (by omega)
  omega
theorem PX_ptb {g : GS} {L : LLT} (h : PX g (lx L)) (p : Nat) (hp : p < 4) : -10000 ≤ ptA L p ∧ ptA L p ≤ 10000 := by
  rw [← PX_pt h p hp]
  have h1 := PX_len4 h p hp
  have h2 := sumN_le (f := fun i => tv 7 (g 0 ((g 1 (4 * p + 0)).toNat + i)).toNat) (c := 60) (n := (g 1 (4 * p + 3 + 1) - g 1 (4 * p + 0)).toNat) (fun i _ => (tv_b 7 _).2)
  have h3 := sumN_ge (f := fun i => tv 7 (g 0 ((g 1 (4 * p + 0)).toNat + i)).toNat) (c := -1) (n := (g 1 (4 * p + 3 + 1) - g 1 (4 * p + 0)).toNat) (fun i _ => (tv_b 7 _).1)
  omega
set_option maxHeartbeats 4000000 in
set_option maxRecDepth 100000 in
theorem c_X0_leader (l : Launch) (g : GS) (S : StT) (hx0 : RX g S) (hn : NX g) (hk : kindsOk (lx S.2)) : gmRi l yX0_leader (wU yX0_leader cX0_leader 3 (some .int)) ({ frames := 3, cells := 0, slots := 0, locals := 73 } : Room) [] g (fun z => z = (leadN S.2 (S.1 0 - 1).toNat : Nat)) := by
  refine gmRi_of (by decide) (Nat.le_of_ble_eq_true rfl) ?_
  intro p e s m args below meth c D cI tb ad A ls cx hr hlocks hK hA hT hw hl
  have hx := cx.1
  have hb := cx.2.1
  have hl : lv_has ls 3 [(0, .ref (ad 0))] := hl
  have hm := PX_M hx0.2
  have hm2 := PX_K hx0.2 hk
  have hn1 := NX_13 hx0.1 hn
  have h00 := hx0.1.1
  refine ts_iconst hx hb dX0_leader_0 ?_
  refine lv_istore_n (lv' := [(1, .int (iN 0)), (0, .ref (ad 0))]) hx hb dX0_leader_1 rfl hl (by decide) rfl (fun ls hl => ?_)
  refine ts_iconst hx hb dX0_leader_2 ?_
  refine lv_istore_n (lv' := [(2, .int (iN 1)), (1, .int (iN 0)), (0, .ref (ad 0))]) hx hb dX0_leader_3 rfl hl (by decide) rfl (fun ls hl => ?_)
  have cut4 : ∀ (fu : Nat) (n : Int) (i : Int) (hmu : (5 - i).toNat < fu) (hi : 1 ≤ i ∧ i ≤ S.1 0) (hq : n = (leadN S.2 (i - 1).toNat : Nat)) (hq2 : 0 ≤ n ∧ n < i) (ls : Array Slot) (hl : lv_has ls 3 [(0, .ref (ad 0)), (1, .int (iN n)), (2, .int (iN i))]), W p l e ({ frames := 3, cells := 0, slots := 0, locals := 73 } : Room) s m args below meth c s.heap [] 0 0 (roQ below args s (fun z => z = (leadN S.2 (S.1 0 - 1).toNat : Nat))) (F0 m 4 ls []) := by
    intro fu
    induction fu with
    | zero => intro n i hmu; exact absurd hmu (Nat.not_lt_zero _)
    | succ fu ih4 =>
      intro n i hmu hi hq hq2 ls hl
      refine lv_iload_n hx hb dX0_leader_4 rfl (lv_at hl 2 rfl) ?_
      refine lv_aload_n hx hb dX0_leader_5 rfl (lv_at hl 0 rfl) ?_
      refine gm_get4 cx hK hw tl_RX0_30 dX0_leader_6 (fun z6 hz6 => ?_)
      refine ts_icmp_ge (tgt := 39) hx hb (by omega) dX0_leader_9 (by decide) (fun c9 => ?_) (fun c9 => ?_)
      · skip
        refine lv_iload_n hx hb dX0_leader_39 rfl (lv_at hl 1 rfl) ?_
        exact ro_ret cx hr hlocks (by rw [hq]; congr 2; omega) dX0_leader_40
      · skip
        have hv : ((i.toNat : Nat) : Int) = i := by omega
        have hvn : ((n.toNat : Nat) : Int) = n := by omega
        have hs2 : leadN S.2 ((i - 1).toNat + 1) = if ptA S.2 (leadN S.2 (i - 1).toNat) < ptA S.2 ((i - 1).toNat + 1) then (i - 1).toNat + 1 else leadN S.2 (i - 1).toNat := rfl
        rw [show leadN S.2 (i - 1).toNat = n.toNat by omega, show (i - 1).toNat + 1 = i.toNat by omega] at hs2
        refine lv_aload_n hx hb dX0_leader_12 rfl (lv_at hl 0 rfl) ?_
        refine lv_iload_n hx hb dX0_leader_13 rfl (lv_at hl 2 rfl) ?_
        refine tt_gst cx hT hw.2.2 7 (by decide) rfl dX0_leader_14 ?_
        refine gm_callt (rest := []) cx hK hT hA hw hl (c_X0_sumOf l 7 i.toNat g (by omega) (by omega) hm hm2) tg_RX0_161 ⟨rfl, rfl⟩ 2 rfl (by decide +kernel) ⟨Nat.le_of_ble_eq_true rfl, Nat.le_of_ble_eq_true rfl⟩ ⟨Nat.zero_le _, Nat.zero_le _⟩ (Nat.le_of_ble_eq_true rfl) dX0_leader_17 (by rw [hv]; rfl) (fun z17 hz17 => ?_)
        rw [PX_pt hx0.2 i.toNat (by omega)] at hz17
        have hb17 := PX_ptb hx0.2 i.toNat (by omega)
        refine lv_aload_n hx hb dX0_leader_20 rfl (lv_at hl 0 rfl) ?_
        refine lv_iload_n hx hb dX0_leader_21 rfl (lv_at hl 1 rfl) ?_
        refine tt_gst cx hT hw.2.2 7 (by decide) rfl dX0_leader_22 ?_
        refine gm_callt (rest := [.int (iN z17)]) cx hK hT hA hw hl (c_X0_sumOf l 7 n.toNat g (by omega) (by omega) hm hm2) tg_RX0_161 ⟨rfl, rfl⟩ 2 rfl (by decide +kernel) ⟨Nat.le_of_ble_eq_true rfl, Nat.le_of_ble_eq_true rfl⟩ ⟨Nat.zero_le _, Nat.zero_le _⟩ (Nat.le_of_ble_eq_true rfl) dX0_leader_25 (by rw [hvn]; rfl) (fun z25 hz25 => ?_)
        rw [PX_pt hx0.2 n.toNat (by omega)] at hz25
        have hb25 := PX_ptb hx0.2 n.toNat (by omega)
        refine ts_icmp_le (tgt := 33) hx hb (by omega) dX0_leader_28 (by decide) (fun c28 => ?_) (fun c28 => ?_)
        · skip
          obtain ⟨z33, hz33⟩ : ∃ z : Int, z = i + 1 := ⟨_, rfl⟩
          refine lv_iinc (v := iN z33) (lv' := [(2, .int (iN z33)), (0, .ref (ad 0)), (1, .int (iN n))]) hx hb dX0_leader_33 hl (k := 2) rfl (by rw [hz33]; exact iN_add _ _) (by decide) rfl (fun ls hl => ?_)
          have hsn : n = (leadN S.2 (z33 - 1).toNat : Nat) := by
            rw [show (z33 - 1).toNat = i.toNat by omega, hs2]
            first | (rw [if_pos (by omega)]; omega) | (rw [if_neg (by omega)]; omega)
          refine lv_goto (tgt := 4) hx hb dX0_leader_36 (by decide) ?_
          exact ih4 (n) (z33) (by omega) (by omega) (hsn) (by omega) _ (lv_sub hl [1, 2, 0] rfl)
        · skip
          refine lv_iload_n hx hb dX0_leader_31 rfl (lv_at hl 2 rfl) ?_
          refine lv_istore_n (lv' := [(1, .int (iN i)), (0, .ref (ad 0)), (2, .int (iN i))]) hx hb dX0_leader_32 rfl hl (by decide) rfl (fun ls hl => ?_)
          obtain ⟨z33, hz33⟩ : ∃ z : Int, z = i + 1 := ⟨_, rfl⟩
          refine lv_iinc (v := iN z33) (lv' := [(2, .int (iN z33)), (1, .int (iN i)), (0, .ref (ad 0))]) hx hb dX0_leader_33 hl (k := 2) rfl (by rw [hz33]; exact iN_add _ _) (by decide) rfl (fun ls hl => ?_)
          have hsn : i = (leadN S.2 (z33 - 1).toNat : Nat) := by
            rw [show (z33 - 1).toNat = i.toNat by omega, hs2]
            first | (rw [if_pos (by omega)]; omega) | (rw [if_neg (by omega)]; omega)
          refine lv_goto (tgt := 4) hx hb dX0_leader_36 (by decide) ?_
          exact ih4 (i) (z33) (by omega) (by omega) (hsn) (by omega) _ (lv_sub hl [2, 1, 0] rfl)
  exact cut4 _ (0) (1) (Nat.lt_succ_self _) (by omega) (by rfl) (by omega) _ (lv_sub hl [2, 1, 0] rfl)
