def cq (kind : Int) (l : List Int) : Int := lsum (fun x => if kind = 10 ∨ x = kind then 1 else 0) l
def cqA (kind : Int) (L : LLT) (p a n : Nat) : Int := sumN (fun d => cq kind (L p (a + d))) n
theorem lsum_take (f : Int → Int) : ∀ (l : List Int) (k : Nat), k < l.length → lsum f (l.take (k + 1)) = lsum f (l.take k) + f (l.getD k 0)
  | [], k, h => by simp at h
  | a :: t, 0, _ => by
    show f a + lsum f (t.take 0) = 0 + f a
    simp [lsum]
  | a :: t, k + 1, h => by
    show f a + lsum f (t.take (k + 1)) = f a + lsum f (t.take k) + f (t.getD k 0)
    rw [lsum_take f t k (by simp only [List.length_cons] at h; omega)]
    omega
theorem cq_b (kind : Int) : ∀ l : List Int, 0 ≤ cq kind l ∧ cq kind l ≤ l.length
  | [] => ⟨Int.le_refl _, Int.le_refl _⟩
  | a :: t => by
    have h := cq_b kind t
    show 0 ≤ (if kind = 10 ∨ a = kind then 1 else 0) + cq kind t ∧ (if kind = 10 ∨ a = kind then 1 else 0) + cq kind t ≤ ((a :: t).length : Nat)
    rw [List.length_cons]
    split <;> omega
theorem pt_cq : ∀ (l : List Int), (∀ x ∈ l, 0 ≤ x ∧ x ≤ 9) → lsum (fun x => tv 7 x.toNat) l = cq 3 l + 6 * cq 4 l - cq 5 l
  | [], _ => rfl
  | a :: t, h => by
    have h1 := pt_cq t (fun x hx => h x (List.mem_cons_of_mem _ hx))
    have h2 := h a List.mem_cons_self
    have e : ∀ k : Fin 10, tv 7 k.1 = (if (k.1 : Int) = 3 then 1 else 0) + 6 * (if (k.1 : Int) = 4 then 1 else 0) - (if (k.1 : Int) = 5 then 1 else 0) := by decide +kernel
    have e2 := e ⟨a.toNat, by omega⟩
    simp only [show ((a.toNat : Nat) : Int) = a by omega] at e2
    show tv 7 a.toNat + lsum (fun x => tv 7 x.toNat) t = ((if (3 : Int) = 10 ∨ a = 3 then 1 else 0) + cq 3 t) + 6 * ((if (4 : Int) = 10 ∨ a = 4 then 1 else 0) + cq 4 t) - ((if (5 : Int) = 10 ∨ a = 5 then 1 else 0) + cq 5 t)
    rw [h1, e2]
    (repeat' split) <;> omega
theorem pt_cqA {S : StT} (hv : VS S) (p : Nat) : ptA S.2 p = cqA 3 S.2 p 0 4 + 6 * cqA 4 S.2 p 0 4 - cqA 5 S.2 p 0 4 := by
  have hk := hv.2.2.2.2.2.2.2.2.2.2.1
  have e0 := pt_cq (S.2 p 0) (hk p 0)
  have e1 := pt_cq (S.2 p 1) (hk p 1)
  have e2 := pt_cq (S.2 p 2) (hk p 2)
  have e3 := pt_cq (S.2 p 3) (hk p 3)
  have u : ∀ k : Int, cqA k S.2 p 0 4 = 0 + cq k (S.2 p 0) + cq k (S.2 p 1) + cq k (S.2 p 2) + cq k (S.2 p 3) := fun _ => rfl
  unfold ptA
  rw [u, u, u]
  omega
theorem cqA_b {S : StT} (hv : VS S) (kind : Int) {p a n : Nat} (hp : p < 4) (hn : a + n ≤ 4) : 0 ≤ cqA kind S.2 p a n ∧ cqA kind S.2 p a n ≤ 656 := by
  have h1 : ∀ d, d < n → 0 ≤ cq kind (S.2 p (a + d)) ∧ cq kind (S.2 p (a + d)) ≤ 164 := fun d hd => by
    have := cq_b kind (S.2 p (a + d))
    have := VS_len hv (p := p) (w := a + d) hp (by omega)
    omega
  have h2 := sumN_nonneg (f := fun d => cq kind (S.2 p (a + d))) (n := n) (fun d hd => (h1 d hd).1)
  have h3 := sumN_le (f := fun d => cq kind (S.2 p (a + d))) (c := 164) (n := n) (fun d hd => (h1 d hd).2)
  unfold cqA
  omega
theorem ptA_b {S : StT} (hv : VS S) {p : Nat} (hp : p < 4) : -10000 ≤ ptA S.2 p ∧ ptA S.2 p ≤ 10000 := by
  rw [pt_cqA hv p]
  have h3 := cqA_b hv 3 hp (a := 0) (n := 4) (by omega)
  have h4 := cqA_b hv 4 hp (a := 0) (n := 4) (by omega)
  have h5 := cqA_b hv 5 hp (a := 0) (n := 4) (by omega)
  omega
def MO (m1 m : GS) : Prop := m1 2 = m 2 ∧ m1 3 = m 3 ∧ m1 4 = m 4
theorem RM_of {g g1 : GS} {S : StT} (h : RM g S) (e : ∀ j : Nat, j < 2670 → g1 0 j = g 0 j) : RM g1 S := by
  refine ⟨fun i hi => (e i (by omega)).trans (h.1 i hi), fun p w hp hw => ?_⟩
  obtain ⟨a1, a2, a3⟩ := h.2 p w hp hw
  exact ⟨(e _ (by omega)).trans a1, a2, fun k hk => (e _ (by omega)).trans (a3 k hk)⟩
set_option maxHeartbeats 4000000 in
set_option maxRecDepth 100000 in
theorem c_X2_cardsOf (l : Launch) (x y1 y2 : Int) (pq a b : Nat) (h : (x = (pq : Int) ∧ pq < 4) ∧ (y1 = (a : Int) ∧ a ≤ b) ∧ (y2 = (b : Int) ∧ b < 4)) (kind : Int) (g : GS) (S : StT) (hx0 : RM g S) (hv0 : VS S) (hkb : (-2147483648 ≤ kind ∧ kind ≤ 2147483647)) : mmRi l yX2_cardsOf (wU yX2_cardsOf cX2_cardsOf 8 (some .int)) ({ frames := 2, cells := 0, slots := 0, locals := 43 } : Room) [.int (iN x), .int (iN y1), .int (iN y2), .int (iN kind)] g (fun z => z = cqA kind S.2 pq a (b + 1 - a)) := by
  refine mmRi_of (by decide) (Nat.le_of_ble_eq_true rfl) ?_
  intro p e s m args below meth c D cI tb ad A ls cx hr hlocks hK hA hw hl
  have hx := cx.1
  have hb := cx.2.1
  have hl : lv_has ls 8 [(0, .ref (ad 0)), (1, .int (iN x)), (2, .int (iN y1)), (3, .int (iN y2)), (4, .int (iN kind))] := hl
  refine ts_iconst hx hb dX2_cardsOf_0 ?_
  refine lv_istore (lv' := [(5, .int (iN 0)), (0, .ref (ad 0)), (1, .int (iN x)), (2, .int (iN y1)), (3, .int (iN y2)), (4, .int (iN kind))]) hx hb dX2_cardsOf_1 hl (by decide) rfl (fun ls hl => ?_)
  refine lv_iload_n hx hb dX2_cardsOf_3 rfl (lv_at hl 3 rfl) ?_
  refine lv_istore (lv' := [(6, .int (iN y1)), (5, .int (iN 0)), (0, .ref (ad 0)), (1, .int (iN x)), (2, .int (iN y1)), (3, .int (iN y2)), (4, .int (iN kind))]) hx hb dX2_cardsOf_4 hl (by decide) rfl (fun ls hl => ?_)
  have cut6 : ∀ (fu : Nat) (n : Int) (w : Int) (hmu : ((b : Int) + 1 - w).toNat < fu) (hw2 : (a : Int) ≤ w ∧ w ≤ b + 1) (hq : n = cqA kind S.2 pq a (w - a).toNat) (ls : Array Slot) (hl : lv_has ls 8 [(0, .ref (ad 0)), (1, .int (iN x)), (3, .int (iN y2)), (4, .int (iN kind)), (5, .int (iN n)), (6, .int (iN w))]), W p l e ({ frames := 2, cells := 0, slots := 0, locals := 43 } : Room) s m args below meth c s.heap [] 0 0 (roQ below args s (fun z => z = cqA kind S.2 pq a (b + 1 - a))) (F0 m 6 ls []) := by
    intro fu
    induction fu with
    | zero => intro n w hmu; exact absurd hmu (Nat.not_lt_zero _)
    | succ fu ih6 =>
      intro n w hmu hw2 hq ls hl
      refine lv_iload hx hb dX2_cardsOf_6 (lv_at hl 5 rfl) ?_
      refine lv_iload_n hx hb dX2_cardsOf_8 rfl (lv_at hl 2 rfl) ?_
      refine ts_icmp_gt (tgt := 75) hx hb (by omega) dX2_cardsOf_9 (by decide) (fun c9 => ?_) (fun c9 => ?_)
      · skip
        refine lv_iload hx hb dX2_cardsOf_75 (lv_at hl 4 rfl) ?_
        exact ro_ret cx hr hlocks (by rw [hq]; congr 1; omega) dX2_cardsOf_77
      · skip
        refine ts_iconst hx hb dX2_cardsOf_12 ?_
        refine lv_istore (lv' := [(7, .int (iN 1)), (0, .ref (ad 0)), (1, .int (iN x)), (3, .int (iN y2)), (4, .int (iN kind)), (5, .int (iN n)), (6, .int (iN w))]) hx hb dX2_cardsOf_13 hl (by decide) rfl (fun ls hl => ?_)
        have cut15 : ∀ (fu : Nat) (n2 : Int) (k : Int) (hmu : ((S.2 pq w.toNat).length + 1 - k).toNat < fu) (hk : 1 ≤ k ∧ k ≤ (S.2 pq w.toNat).length + 1) (hq2 : n2 = n + lsum (fun x => if kind = 10 ∨ x = kind then 1 else 0) ((S.2 pq w.toNat).take (k - 1).toNat)) (ls : Array Slot) (hl : lv_has ls 8 [(0, .ref (ad 0)), (1, .int (iN x)), (3, .int (iN y2)), (4, .int (iN kind)), (5, .int (iN n2)), (6, .int (iN w)), (7, .int (iN k))]), W p l e ({ frames := 2, cells := 0, slots := 0, locals := 43 } : Room) s m args below meth c s.heap [] 0 0 (roQ below args s (fun z => z = cqA kind S.2 pq a (b + 1 - a))) (F0 m 15 ls []) := by
          intro fu
          induction fu with
          | zero => intro n2 k hmu; exact absurd hmu (Nat.not_lt_zero _)
          | succ fu ih15 =>
            intro n2 k hmu hk hq2 ls hl
            
            refine lv_iload hx hb dX2_cardsOf_15 (lv_at hl 6 rfl) ?_
            refine lv_aload_n hx hb dX2_cardsOf_17 rfl (lv_at hl 0 rfl) ?_
            obtain ⟨l1, l2, l3⟩ := hx0.2 pq w.toNat h.1.2 (by omega)
            refine lv_iload_n hx hb dX2_cardsOf_18 rfl (lv_at hl 1 rfl) ?_
            refine lv_iload hx hb dX2_cardsOf_19 (lv_at hl 5 rfl) ?_
            
            refine mm_callr (rest := [.int (iN k)]) cx hK hA hw hl (c_X2_manyAt l x w pq w.toNat (by omega) g S.2 hx0.2) tg_RX2_34 ⟨rfl, rfl⟩ 2 rfl (by decide +kernel) ⟨Nat.le_of_ble_eq_true rfl, Nat.le_of_ble_eq_true rfl⟩ ⟨Nat.zero_le _, Nat.zero_le _⟩ (Nat.le_of_ble_eq_true rfl) dX2_cardsOf_21 (rfl) (fun z21 hz21 => ?_)
            refine ts_icmp_gt (tgt := 69) hx hb (by omega) dX2_cardsOf_24 (by decide) (fun c24 => ?_) (fun c24 => ?_)
            · skip
              obtain ⟨z69, hz69⟩ : ∃ z : Int, z = w + 1 := ⟨_, rfl⟩
              refine lv_iinc (v := iN z69) (lv' := [(6, .int (iN z69)), (0, .ref (ad 0)), (1, .int (iN x)), (3, .int (iN y2)), (4, .int (iN kind)), (5, .int (iN n2)), (7, .int (iN k))]) hx hb dX2_cardsOf_69 hl (k := 5) rfl (by rw [hz69]; exact iN_add _ _) (by decide) rfl (fun ls hl => ?_)
              have hqn : n2 = cqA kind S.2 pq a (z69 - a).toNat := by
                rw [show (z69 - (a : Int)).toNat = (w - a).toNat + 1 by omega]
                show n2 = cqA kind S.2 pq a (w - a).toNat + cq kind (S.2 pq (a + (w - a).toNat))
                rw [hq2, ← hq, show (k - 1).toNat = (S.2 pq w.toNat).length by omega, List.take_length, show a + (w - a).toNat = w.toNat by omega]
                rfl
              refine lv_goto (tgt := 6) hx hb dX2_cardsOf_72 (by decide) ?_
              exact ih6 (n2) (z69) (by omega) (by omega) (hqn) _ (lv_sub hl [1, 2, 3, 4, 5, 0] rfl)
            · skip
              refine lv_iload hx hb dX2_cardsOf_27 (lv_at hl 4 rfl) ?_
              refine lv_iload hx hb dX2_cardsOf_29 (lv_at hl 3 rfl) ?_
              refine ts_bipush hx hb dX2_cardsOf_31 (by decide) ?_
              refine ts_icmp_eq (tgt := 55) hx hb (by omega) dX2_cardsOf_33 (by decide) (fun c33 => ?_) (fun c33 => ?_)
              · skip
                refine ts_iconst hx hb dX2_cardsOf_55 ?_
                refine lv_goto (tgt := 60) hx hb dX2_cardsOf_56 (by decide) ?_
                refine ts_iadd hx hb dX2_cardsOf_60 (fun z60 hz60 => ?_)
                refine lv_istore (lv' := [(5, .int (iN z60)), (0, .ref (ad 0)), (1, .int (iN x)), (3, .int (iN y2)), (4, .int (iN kind)), (6, .int (iN w)), (7, .int (iN k))]) hx hb dX2_cardsOf_61 hl (by decide) rfl (fun ls hl => ?_)
                have hst := lsum_take (fun x => if kind = 10 ∨ x = kind then 1 else 0) (S.2 pq w.toNat) (k - 1).toNat (by omega)
                obtain ⟨z63, hz63⟩ : ∃ z : Int, z = k + 1 := ⟨_, rfl⟩
                refine lv_iinc (v := iN z63) (lv' := [(7, .int (iN z63)), (5, .int (iN z60)), (0, .ref (ad 0)), (1, .int (iN x)), (3, .int (iN y2)), (4, .int (iN kind)), (6, .int (iN w))]) hx hb dX2_cardsOf_63 hl (k := 6) rfl (by rw [hz63]; exact iN_add _ _) (by decide) rfl (fun ls hl => ?_)
                have hq2n : z60 = n + lsum (fun x => if kind = 10 ∨ x = kind then 1 else 0) ((S.2 pq w.toNat).take (z63 - 1).toNat) := by
                  rw [show (z63 - 1).toNat = (k - 1).toNat + 1 by omega, hst]
                  (try dsimp only)
                  first | (rw [if_pos (by omega)]; omega) | (rw [if_neg (by omega)]; omega)
                refine lv_goto (tgt := 15) hx hb dX2_cardsOf_66 (by decide) ?_
                exact ih15 (z60) (z63) (by omega) (by omega) (hq2n) _ (lv_sub hl [2, 3, 4, 5, 1, 6, 0] rfl)
              · skip
                refine lv_aload_n hx hb dX2_cardsOf_36 rfl (lv_at hl 0 rfl) ?_
                refine mm_get0 cx hK hw tl_RX2_7 dX2_cardsOf_37 ?_
                refine lv_iload_n hx hb dX2_cardsOf_40 rfl (lv_at hl 1 rfl) ?_
                refine lv_iload hx hb dX2_cardsOf_41 (lv_at hl 5 rfl) ?_
                refine ps_call (rest := [.ref (ad 1), .int (iN n2)]) cx hl (c_X2_placeOf l x w pq w.toNat (by omega)) tg_RX2_26 ⟨rfl, rfl⟩ 2 rfl (by decide +kernel) ⟨Nat.le_of_ble_eq_true rfl, Nat.le_of_ble_eq_true rfl⟩ ⟨Nat.zero_le _, Nat.zero_le _⟩ (Nat.le_of_ble_eq_true rfl) dX2_cardsOf_43 (rfl) (fun z43 hz43 => ?_)
                refine lv_iload hx hb dX2_cardsOf_46 (lv_at hl 6 rfl) ?_
                refine ts_iadd hx hb dX2_cardsOf_48 (fun z48 hz48 => ?_)
                refine mm_ld0 cx hK hw (31 + 165 * (4 * pq + w.toNat) + (k - 1).toNat) (by omega) dX2_cardsOf_49 (fun z49 hz49 => ?_)
                have hz49b := l3 (k - 1).toNat (by omega)
                have hkk := hv0.2.2.2.2.2.2.2.2.2.2.1 pq w.toNat _ (mem_getD (show (k - 1).toNat < (S.2 pq w.toNat).length by omega))
                refine lv_iload hx hb dX2_cardsOf_50 (lv_at hl 3 rfl) ?_
                refine ts_icmp_ne (tgt := 59) hx hb (by omega) dX2_cardsOf_52 (by decide) (fun c52 => ?_) (fun c52 => ?_)
                · skip
                  refine ts_iconst hx hb dX2_cardsOf_59 ?_
                  refine ts_iadd hx hb dX2_cardsOf_60 (fun z60 hz60 => ?_)
                  refine lv_istore (lv' := [(5, .int (iN z60)), (0, .ref (ad 0)), (1, .int (iN x)), (3, .int (iN y2)), (4, .int (iN kind)), (6, .int (iN w)), (7, .int (iN k))]) hx hb dX2_cardsOf_61 hl (by decide) rfl (fun ls hl => ?_)
                  have hst := lsum_take (fun x => if kind = 10 ∨ x = kind then 1 else 0) (S.2 pq w.toNat) (k - 1).toNat (by omega)
                  obtain ⟨z63, hz63⟩ : ∃ z : Int, z = k + 1 := ⟨_, rfl⟩
                  refine lv_iinc (v := iN z63) (lv' := [(7, .int (iN z63)), (5, .int (iN z60)), (0, .ref (ad 0)), (1, .int (iN x)), (3, .int (iN y2)), (4, .int (iN kind)), (6, .int (iN w))]) hx hb dX2_cardsOf_63 hl (k := 6) rfl (by rw [hz63]; exact iN_add _ _) (by decide) rfl (fun ls hl => ?_)
                  have hq2n : z60 = n + lsum (fun x => if kind = 10 ∨ x = kind then 1 else 0) ((S.2 pq w.toNat).take (z63 - 1).toNat) := by
                    rw [show (z63 - 1).toNat = (k - 1).toNat + 1 by omega, hst]
                    (try dsimp only)
                    first | (rw [if_pos (by omega)]; omega) | (rw [if_neg (by omega)]; omega)
                  refine lv_goto (tgt := 15) hx hb dX2_cardsOf_66 (by decide) ?_
                  exact ih15 (z60) (z63) (by omega) (by omega) (hq2n) _ (lv_sub hl [2, 3, 4, 5, 1, 6, 0] rfl)
                · skip
                  refine ts_iconst hx hb dX2_cardsOf_55 ?_
                  refine lv_goto (tgt := 60) hx hb dX2_cardsOf_56 (by decide) ?_
                  refine ts_iadd hx hb dX2_cardsOf_60 (fun z60 hz60 => ?_)
                  refine lv_istore (lv' := [(5, .int (iN z60)), (0, .ref (ad 0)), (1, .int (iN x)), (3, .int (iN y2)), (4, .int (iN kind)), (6, .int (iN w)), (7, .int (iN k))]) hx hb dX2_cardsOf_61 hl (by decide) rfl (fun ls hl => ?_)
                  have hst := lsum_take (fun x => if kind = 10 ∨ x = kind then 1 else 0) (S.2 pq w.toNat) (k - 1).toNat (by omega)
                  obtain ⟨z63, hz63⟩ : ∃ z : Int, z = k + 1 := ⟨_, rfl⟩
                  refine lv_iinc (v := iN z63) (lv' := [(7, .int (iN z63)), (5, .int (iN z60)), (0, .ref (ad 0)), (1, .int (iN x)), (3, .int (iN y2)), (4, .int (iN kind)), (6, .int (iN w))]) hx hb dX2_cardsOf_63 hl (k := 6) rfl (by rw [hz63]; exact iN_add _ _) (by decide) rfl (fun ls hl => ?_)
                  have hq2n : z60 = n + lsum (fun x => if kind = 10 ∨ x = kind then 1 else 0) ((S.2 pq w.toNat).take (z63 - 1).toNat) := by
                    rw [show (z63 - 1).toNat = (k - 1).toNat + 1 by omega, hst]
                    (try dsimp only)
                    first | (rw [if_pos (by omega)]; omega) | (rw [if_neg (by omega)]; omega)
                  refine lv_goto (tgt := 15) hx hb dX2_cardsOf_66 (by decide) ?_
                  exact ih15 (z60) (z63) (by omega) (by omega) (hq2n) _ (lv_sub hl [2, 3, 4, 5, 1, 6, 0] rfl)
        exact cut15 _ (n) (1) (Nat.lt_succ_self _) (by omega) (by rw [show ((1 : Int) - 1).toNat = 0 by omega, List.take_zero]; show n = n + 0; omega) _ (lv_sub hl [1, 2, 3, 4, 5, 6, 0] rfl)
  exact cut6 _ (0) (y1) (Nat.lt_succ_self _) (by omega) (by rw [show (y1 - (a : Int)).toNat = 0 by omega]; rfl) _ (lv_sub hl [2, 3, 5, 6, 1, 0] rfl)
set_option maxHeartbeats 4000000 in
set_option maxRecDepth 100000 in
theorem c_X2_pointsBy (l : Launch) (x : Int) (pq : Nat) (h : x = (pq : Int) ∧ pq < 4) (g : GS) (S : StT) (hx0 : RM g S) (hv0 : VS S) : mmRi l yX2_pointsBy (wU yX2_pointsBy cX2_pointsBy 4 (some .int)) ({ frames := 3, cells := 0, slots := 0, locals := 70 } : Room) [.int (iN x)] g (fun z => z = ptA S.2 pq + 100) := by
  refine mmRi_of (by decide) (Nat.le_of_ble_eq_true rfl) ?_
  intro p e s m args below meth c D cI tb ad A ls cx hr hlocks hK hA hw hl
  have hx := cx.1
  have hb := cx.2.1
  have hl : lv_has ls 4 [(0, .ref (ad 0)), (1, .int (iN x))] := hl
  have h3b := cqA_b hv0 3 h.2 (a := 0) (n := 4) (by omega)
  have h4b := cqA_b hv0 4 h.2 (a := 0) (n := 4) (by omega)
  have h5b := cqA_b hv0 5 h.2 (a := 0) (n := 4) (by omega)
  refine ts_bipush hx hb dX2_pointsBy_0 (by decide) ?_
  refine lv_istore_n (lv' := [(2, .int (iN 100)), (0, .ref (ad 0)), (1, .int (iN x))]) hx hb dX2_pointsBy_2 rfl hl (by decide) rfl (fun ls hl => ?_)
  refine ts_iconst hx hb dX2_pointsBy_3 ?_
  refine lv_istore_n (lv' := [(3, .int (iN 3)), (2, .int (iN 100)), (0, .ref (ad 0)), (1, .int (iN x))]) hx hb dX2_pointsBy_4 rfl hl (by decide) rfl (fun ls hl => ?_)
  have cut5 : ∀ (fu : Nat) (n : Int) (i : Int) (hmu : (6 - i).toNat < fu) (hi : 3 ≤ i ∧ i ≤ 6) (hq : (i = 3 ∧ n = 100) ∨ (i = 4 ∧ n = 100 + cqA 3 S.2 pq 0 4) ∨ (i = 5 ∧ n = 100 + cqA 3 S.2 pq 0 4 + 6 * cqA 4 S.2 pq 0 4) ∨ (i = 6 ∧ n = 100 + cqA 3 S.2 pq 0 4 + 6 * cqA 4 S.2 pq 0 4 - cqA 5 S.2 pq 0 4)) (ls : Array Slot) (hl : lv_has ls 4 [(0, .ref (ad 0)), (1, .int (iN x)), (2, .int (iN n)), (3, .int (iN i))]), W p l e ({ frames := 3, cells := 0, slots := 0, locals := 70 } : Room) s m args below meth c s.heap [] 0 0 (roQ below args s (fun z => z = ptA S.2 pq + 100)) (F0 m 5 ls []) := by
    intro fu
    induction fu with
    | zero => intro n i hmu; exact absurd hmu (Nat.not_lt_zero _)
    | succ fu ih5 =>
      intro n i hmu hi hq ls hl
      refine lv_iload_n hx hb dX2_pointsBy_5 rfl (lv_at hl 3 rfl) ?_
      refine ts_bipush hx hb dX2_pointsBy_6 (by decide) ?_
      refine ts_icmp_ge (tgt := 33) hx hb (by omega) dX2_pointsBy_8 (by decide) (fun c8 => ?_) (fun c8 => ?_)
      · skip
        refine lv_iload_n hx hb dX2_pointsBy_33 rfl (lv_at hl 2 rfl) ?_
        exact ro_ret cx hr hlocks (by rw [pt_cqA hv0 pq]; omega) dX2_pointsBy_34
      · skip
        refine lv_iload_n hx hb dX2_pointsBy_11 rfl (lv_at hl 2 rfl) ?_
        refine lv_iload_n hx hb dX2_pointsBy_12 rfl (lv_at hl 3 rfl) ?_
        refine ps_call (rest := [.int (iN n)]) cx hl (c_X2_pointsOf l i i.toNat (by omega)) tg_RX2_132 ⟨rfl, rfl⟩ 1 rfl (by decide +kernel) ⟨Nat.le_of_ble_eq_true rfl, Nat.le_of_ble_eq_true rfl⟩ ⟨Nat.zero_le _, Nat.zero_le _⟩ (Nat.le_of_ble_eq_true rfl) dX2_pointsBy_13 (rfl) (fun z13 hz13 => ?_)
        refine lv_aload_n hx hb dX2_pointsBy_16 rfl (lv_at hl 0 rfl) ?_
        refine lv_iload_n hx hb dX2_pointsBy_17 rfl (lv_at hl 1 rfl) ?_
        refine ts_iconst hx hb dX2_pointsBy_18 ?_
        refine ts_iconst hx hb dX2_pointsBy_19 ?_
        refine lv_iload_n hx hb dX2_pointsBy_20 rfl (lv_at hl 3 rfl) ?_
        refine mm_callr (rest := [.int (iN z13), .int (iN n)]) cx hK hA hw hl (c_X2_cardsOf l x 0 3 pq 0 3 (by omega) i g S hx0 hv0 (by omega)) tg_RX2_128 ⟨rfl, rfl⟩ 4 rfl (by decide +kernel) ⟨Nat.le_of_ble_eq_true rfl, Nat.le_of_ble_eq_true rfl⟩ ⟨Nat.zero_le _, Nat.zero_le _⟩ (Nat.le_of_ble_eq_true rfl) dX2_pointsBy_21 (rfl) (fun z21 hz21 => ?_)
        refine ts_imul hx hb dX2_pointsBy_24 (fun z24 hz24 => ?_)
        refine ts_iadd hx hb dX2_pointsBy_25 (fun z25 hz25 => ?_)
        refine lv_istore_n (lv' := [(2, .int (iN z25)), (0, .ref (ad 0)), (1, .int (iN x)), (3, .int (iN i))]) hx hb dX2_pointsBy_26 rfl hl (by decide) rfl (fun ls hl => ?_)
        obtain ⟨z27, hz27⟩ : ∃ z : Int, z = i + 1 := ⟨_, rfl⟩
        refine lv_iinc (v := iN z27) (lv' := [(3, .int (iN z27)), (2, .int (iN z25)), (0, .ref (ad 0)), (1, .int (iN x))]) hx hb dX2_pointsBy_27 hl (k := 3) rfl (by rw [hz27]; exact iN_add _ _) (by decide) rfl (fun ls hl => ?_)
        have hqn : (z27 = 3 ∧ z25 = 100) ∨ (z27 = 4 ∧ z25 = 100 + cqA 3 S.2 pq 0 4) ∨ (z27 = 5 ∧ z25 = 100 + cqA 3 S.2 pq 0 4 + 6 * cqA 4 S.2 pq 0 4) ∨ (z27 = 6 ∧ z25 = 100 + cqA 3 S.2 pq 0 4 + 6 * cqA 4 S.2 pq 0 4 - cqA 5 S.2 pq 0 4) := by
          have hz21b : z21 = cqA i S.2 pq 0 4 := hz21
          rcases hq with ⟨rfl, hq⟩ | ⟨rfl, hq⟩ | ⟨rfl, hq⟩ | ⟨rfl, hq⟩
          · have t : z13 = 1 := hz13.trans rfl
            rw [t] at hz24
            omega
          · have t : z13 = 6 := hz13.trans rfl
            rw [t] at hz24
            omega
          · have t : z13 = -1 := hz13.trans rfl
            rw [t] at hz24
            omega
          · omega
        refine lv_goto (tgt := 5) hx hb dX2_pointsBy_30 (by decide) ?_
        exact ih5 (z25) (z27) (by omega) (by omega) (hqn) _ (lv_sub hl [2, 3, 1, 0] rfl)
  exact cut5 _ (100) (3) (Nat.lt_succ_self _) (by omega) (by omega) _ (lv_sub hl [2, 3, 1, 0] rfl)
set_option maxHeartbeats 4000000 in
set_option maxRecDepth 100000 in
theorem c_X2_leader (l : Launch) (g : GS) (S : StT) (hx0 : RM g S) (hv0 : VS S) : mmRi l yX2_leader (wU yX2_leader cX2_leader 3 (some .int)) ({ frames := 4, cells := 0, slots := 0, locals := 93 } : Room) [] g (fun z => z = (leadN S.2 (S.1 0 - 1).toNat : Nat)) := by
  refine mmRi_of (by decide) (Nat.le_of_ble_eq_true rfl) ?_
  intro p e s m args below meth c D cI tb ad A ls cx hr hlocks hK hA hw hl
  have hx := cx.1
  have hb := cx.2.1
  have hl : lv_has ls 3 [(0, .ref (ad 0))] := hl
  have hpl := VS_pl hv0
  have s0 := hx0.1 0 (by omega)
  have s1 := hx0.1 1 (by omega)
  have s2 := hx0.1 2 (by omega)
  have s3 := hx0.1 3 (by omega)
  have s4 := hx0.1 4 (by omega)
  have s5 := hx0.1 5 (by omega)
  have s6 := hx0.1 6 (by omega)
  have s8 := hx0.1 8 (by omega)
  have hvb := VS_nums hv0
  obtain ⟨hh1, hh2, hh3⟩ := hx0.2 (pl S) 1 hpl.1 (by omega)
  have hhl : (S.2 (pl S) 1).length = (hand S).length := rfl
  refine ts_iconst hx hb dX2_leader_0 ?_
  refine lv_istore_n (lv' := [(1, .int (iN 0)), (0, .ref (ad 0))]) hx hb dX2_leader_1 rfl hl (by decide) rfl (fun ls hl => ?_)
  refine ts_iconst hx hb dX2_leader_2 ?_
  refine lv_istore_n (lv' := [(2, .int (iN 1)), (1, .int (iN 0)), (0, .ref (ad 0))]) hx hb dX2_leader_3 rfl hl (by decide) rfl (fun ls hl => ?_)
  have cut4 : ∀ (fu : Nat) (n : Int) (i : Int) (hmu : (5 - i).toNat < fu) (hi : 1 ≤ i ∧ i ≤ S.1 0) (hq : n = (leadN S.2 (i - 1).toNat : Nat)) (hq2 : 0 ≤ n ∧ n < i) (ls : Array Slot) (hl : lv_has ls 3 [(0, .ref (ad 0)), (1, .int (iN n)), (2, .int (iN i))]), W p l e ({ frames := 4, cells := 0, slots := 0, locals := 93 } : Room) s m args below meth c s.heap [] 0 0 (roQ below args s (fun z => z = (leadN S.2 (S.1 0 - 1).toNat : Nat))) (F0 m 4 ls []) := by
    intro fu
    induction fu with
    | zero => intro n i hmu; exact absurd hmu (Nat.not_lt_zero _)
    | succ fu ih4 =>
      intro n i hmu hi hq hq2 ls hl
      refine lv_iload_n hx hb dX2_leader_4 rfl (lv_at hl 2 rfl) ?_
      refine lv_aload_n hx hb dX2_leader_5 rfl (lv_at hl 0 rfl) ?_
      refine mm_get0 cx hK hw tl_RX2_7 dX2_leader_6 ?_
      refine ts_iconst hx hb dX2_leader_9 ?_
      refine mm_ld0 cx hK hw (0) (by omega) dX2_leader_10 (fun z10 hz10 => ?_)
      refine ts_icmp_ge (tgt := 39) hx hb (by omega) dX2_leader_11 (by decide) (fun c11 => ?_) (fun c11 => ?_)
      · skip
        refine lv_iload_n hx hb dX2_leader_39 rfl (lv_at hl 1 rfl) ?_
        exact ro_ret cx hr hlocks (by rw [hq]; congr 2; omega) dX2_leader_40
      · skip
        have hs2 : leadN S.2 ((i - 1).toNat + 1) = if ptA S.2 (leadN S.2 (i - 1).toNat) < ptA S.2 ((i - 1).toNat + 1) then (i - 1).toNat + 1 else leadN S.2 (i - 1).toNat := rfl
        rw [show leadN S.2 (i - 1).toNat = n.toNat by omega, show (i - 1).toNat + 1 = i.toNat by omega] at hs2
        refine lv_aload_n hx hb dX2_leader_14 rfl (lv_at hl 0 rfl) ?_
        refine lv_iload_n hx hb dX2_leader_15 rfl (lv_at hl 2 rfl) ?_
        refine mm_callr (rest := []) cx hK hA hw hl (c_X2_pointsBy l i i.toNat (by omega) g S hx0 hv0) tg_RX2_135 ⟨rfl, rfl⟩ 1 rfl (by decide +kernel) ⟨Nat.le_of_ble_eq_true rfl, Nat.le_of_ble_eq_true rfl⟩ ⟨Nat.zero_le _, Nat.zero_le _⟩ (Nat.le_of_ble_eq_true rfl) dX2_leader_16 (rfl) (fun z16 hz16 => ?_)
        have hb16 := ptA_b hv0 (p := i.toNat) (by omega)
        refine lv_aload_n hx hb dX2_leader_19 rfl (lv_at hl 0 rfl) ?_
        refine lv_iload_n hx hb dX2_leader_20 rfl (lv_at hl 1 rfl) ?_
        refine mm_callr (rest := [.int (iN z16)]) cx hK hA hw hl (c_X2_pointsBy l n n.toNat (by omega) g S hx0 hv0) tg_RX2_135 ⟨rfl, rfl⟩ 1 rfl (by decide +kernel) ⟨Nat.le_of_ble_eq_true rfl, Nat.le_of_ble_eq_true rfl⟩ ⟨Nat.zero_le _, Nat.zero_le _⟩ (Nat.le_of_ble_eq_true rfl) dX2_leader_21 (rfl) (fun z21 hz21 => ?_)
        have hb21 := ptA_b hv0 (p := n.toNat) (by omega)
        refine ts_icmp_le (tgt := 31) hx hb (by omega) dX2_leader_24 (by decide) (fun c24 => ?_) (fun c24 => ?_)
        · skip
          refine lv_iload_n hx hb dX2_leader_31 rfl (lv_at hl 1 rfl) ?_
          refine lv_istore_n (lv' := [(1, .int (iN n)), (0, .ref (ad 0)), (2, .int (iN i))]) hx hb dX2_leader_32 rfl hl (by decide) rfl (fun ls hl => ?_)
          obtain ⟨z33, hz33⟩ : ∃ z : Int, z = i + 1 := ⟨_, rfl⟩
          refine lv_iinc (v := iN z33) (lv' := [(2, .int (iN z33)), (1, .int (iN n)), (0, .ref (ad 0))]) hx hb dX2_leader_33 hl (k := 2) rfl (by rw [hz33]; exact iN_add _ _) (by decide) rfl (fun ls hl => ?_)
          have hsn : n = (leadN S.2 (z33 - 1).toNat : Nat) := by
            rw [show (z33 - 1).toNat = i.toNat by omega, hs2]
            first | (rw [if_pos (by omega)]; omega) | (rw [if_neg (by omega)]; omega)
          refine lv_goto (tgt := 4) hx hb dX2_leader_36 (by decide) ?_
          exact ih4 (n) (z33) (by omega) (by omega) (hsn) (by omega) _ (lv_sub hl [2, 1, 0] rfl)
        · skip
          refine lv_iload_n hx hb dX2_leader_27 rfl (lv_at hl 2 rfl) ?_
          refine lv_goto (tgt := 32) hx hb dX2_leader_28 (by decide) ?_
          refine lv_istore_n (lv' := [(1, .int (iN i)), (0, .ref (ad 0)), (2, .int (iN i))]) hx hb dX2_leader_32 rfl hl (by decide) rfl (fun ls hl => ?_)
          obtain ⟨z33, hz33⟩ : ∃ z : Int, z = i + 1 := ⟨_, rfl⟩
          refine lv_iinc (v := iN z33) (lv' := [(2, .int (iN z33)), (1, .int (iN i)), (0, .ref (ad 0))]) hx hb dX2_leader_33 hl (k := 2) rfl (by rw [hz33]; exact iN_add _ _) (by decide) rfl (fun ls hl => ?_)
          have hsn : i = (leadN S.2 (z33 - 1).toNat : Nat) := by
            rw [show (z33 - 1).toNat = i.toNat by omega, hs2]
            first | (rw [if_pos (by omega)]; omega) | (rw [if_neg (by omega)]; omega)
          refine lv_goto (tgt := 4) hx hb dX2_leader_36 (by decide) ?_
          exact ih4 (i) (z33) (by omega) (by omega) (hsn) (by omega) _ (lv_sub hl [2, 1, 0] rfl)
  exact cut4 _ (0) (1) (Nat.lt_succ_self _) (by omega) (by rfl) (by omega) _ (lv_sub hl [2, 1, 0] rfl)
set_option maxHeartbeats 4000000 in
set_option maxRecDepth 100000 in
theorem c_X2_sum (l : Launch) (x : Int) (a : Nat) (h : x = (a : Int) ∧ a ≤ 20 ∧ 10 ≤ a) (g : GS) (S : StT) (hx0 : RM g S) (hv0 : VS S) : mmRi l yX2_sum (wU yX2_sum cX2_sum 4 (some .int)) ({ frames := 0, cells := 0, slots := 0, locals := 0 } : Room) [.int (iN x)] g (fun z => z = sumN (fun k => S.1 (a + k)) 10) := by
  refine mmRi_of (by decide) (Nat.le_of_ble_eq_true rfl) ?_
  intro p e s m args below meth c D cI tb ad A ls cx hr hlocks hK hA hw hl
  have hx := cx.1
  have hb := cx.2.1
  have hl : lv_has ls 4 [(0, .ref (ad 0)), (1, .int (iN x))] := hl
  refine ts_iconst hx hb dX2_sum_0 ?_
  refine lv_istore_n (lv' := [(2, .int (iN 0)), (0, .ref (ad 0)), (1, .int (iN x))]) hx hb dX2_sum_1 rfl hl (by decide) rfl (fun ls hl => ?_)
  refine ts_iconst hx hb dX2_sum_2 ?_
  refine lv_istore_n (lv' := [(3, .int (iN 0)), (2, .int (iN 0)), (0, .ref (ad 0)), (1, .int (iN x))]) hx hb dX2_sum_3 rfl hl (by decide) rfl (fun ls hl => ?_)
  have cut4 : ∀ (fu : Nat) (n : Int) (i : Int) (hmu : (10 - i).toNat < fu) (hi : 0 ≤ i ∧ i ≤ 10) (hq : n = sumN (fun k => S.1 (a + k)) i.toNat) (ls : Array Slot) (hl : lv_has ls 4 [(0, .ref (ad 0)), (1, .int (iN x)), (2, .int (iN n)), (3, .int (iN i))]), W p l e ({ frames := 0, cells := 0, slots := 0, locals := 0 } : Room) s m args below meth c s.heap [] 0 0 (roQ below args s (fun z => z = sumN (fun k => S.1 (a + k)) 10)) (F0 m 4 ls []) := by
    intro fu
    induction fu with
    | zero => intro n i hmu; exact absurd hmu (Nat.not_lt_zero _)
    | succ fu ih4 =>
      intro n i hmu hi hq ls hl
      refine lv_iload_n hx hb dX2_sum_4 rfl (lv_at hl 3 rfl) ?_
      refine ts_bipush hx hb dX2_sum_5 (by decide) ?_
      refine ts_icmp_ge (tgt := 27) hx hb (by omega) dX2_sum_7 (by decide) (fun c7 => ?_) (fun c7 => ?_)
      · skip
        refine lv_iload_n hx hb dX2_sum_27 rfl (lv_at hl 2 rfl) ?_
        exact ro_ret cx hr hlocks (by rw [hq]; congr 1; omega) dX2_sum_28
      · skip
        refine lv_iload_n hx hb dX2_sum_10 rfl (lv_at hl 2 rfl) ?_
        refine lv_aload_n hx hb dX2_sum_11 rfl (lv_at hl 0 rfl) ?_
        refine mm_get0 cx hK hw tl_RX2_7 dX2_sum_12 ?_
        refine lv_iload_n hx hb dX2_sum_15 rfl (lv_at hl 1 rfl) ?_
        refine lv_iload_n hx hb dX2_sum_16 rfl (lv_at hl 3 rfl) ?_
        refine ts_iadd hx hb dX2_sum_17 (fun z17 hz17 => ?_)
        refine mm_ld0 cx hK hw (a + i.toNat) (by omega) dX2_sum_18 (fun z18 hz18 => ?_)
        refine ts_iadd hx hb dX2_sum_19 (fun z19 hz19 => ?_)
        refine lv_istore_n (lv' := [(2, .int (iN z19)), (0, .ref (ad 0)), (1, .int (iN x)), (3, .int (iN i))]) hx hb dX2_sum_20 rfl hl (by decide) rfl (fun ls hl => ?_)
        obtain ⟨z21, hz21⟩ : ∃ z : Int, z = i + 1 := ⟨_, rfl⟩
        refine lv_iinc (v := iN z21) (lv' := [(3, .int (iN z21)), (2, .int (iN z19)), (0, .ref (ad 0)), (1, .int (iN x))]) hx hb dX2_sum_21 hl (k := 3) rfl (by rw [hz21]; exact iN_add _ _) (by decide) rfl (fun ls hl => ?_)
        have hs := sumN_s (f := fun k => S.1 (a + k)) (a := z21.toNat) (b := i.toNat) (by omega)
        have hsa := hx0.1 (a + i.toNat) (by omega)
        have hsn : z19 = sumN (fun k => S.1 (a + k)) z21.toNat := by rw [hs, ← hq]; (try dsimp only); omega
        refine lv_goto (tgt := 4) hx hb dX2_sum_24 (by decide) ?_
        exact ih4 (z19) (z21) (by omega) (by omega) (hsn) _ (lv_sub hl [2, 3, 1, 0] rfl)
  exact cut4 _ (0) (0) (Nat.lt_succ_self _) (by omega) (by rfl) _ (lv_sub hl [2, 3, 1, 0] rfl)
set_option maxHeartbeats 4000000 in
set_option maxRecDepth 100000 in
theorem c_X2_isPlayer (l : Launch) (v : Int) (g : GS) (S : StT) (hx0 : RM g S) (hv0 : VS S) (hkb : (-2147483648 ≤ v ∧ v ≤ 2147483647)) : mmRi l yX2_isPlayer (wU yX2_isPlayer cX2_isPlayer 2 (some .boolean)) ({ frames := 1, cells := 0, slots := 0, locals := 22 } : Room) [.int (iN v)] g (fun z => (z = 1 ∧ 0 ≤ v ∧ v < S.1 0) ∨ (z = 0 ∧ ¬ (0 ≤ v ∧ v < S.1 0))) := by
  refine mmRi_of (by decide) (Nat.le_of_ble_eq_true rfl) ?_
  intro p e s m args below meth c D cI tb ad A ls cx hr hlocks hK hA hw hl
  have hx := cx.1
  have hb := cx.2.1
  have hl : lv_has ls 2 [(0, .ref (ad 0)), (1, .int (iN v))] := hl
  have hpl := VS_pl hv0
  have s0 := hx0.1 0 (by omega)
  have s1 := hx0.1 1 (by omega)
  have s2 := hx0.1 2 (by omega)
  have s3 := hx0.1 3 (by omega)
  have s4 := hx0.1 4 (by omega)
  have s5 := hx0.1 5 (by omega)
  have s6 := hx0.1 6 (by omega)
  have s8 := hx0.1 8 (by omega)
  have hvb := VS_nums hv0
  obtain ⟨hh1, hh2, hh3⟩ := hx0.2 (pl S) 1 hpl.1 (by omega)
  have hhl : (S.2 (pl S) 1).length = (hand S).length := rfl
  refine lv_iload_n hx hb dX2_isPlayer_0 rfl (lv_at hl 1 rfl) ?_
  refine ts_iconst hx hb dX2_isPlayer_1 ?_
  refine lv_aload_n hx hb dX2_isPlayer_2 rfl (lv_at hl 0 rfl) ?_
  refine mm_get0 cx hK hw tl_RX2_7 dX2_isPlayer_3 ?_
  refine ts_iconst hx hb dX2_isPlayer_6 ?_
  refine mm_ld0 cx hK hw (0) (by omega) dX2_isPlayer_7 (fun z7 hz7 => ?_)
  refine ts_iconst hx hb dX2_isPlayer_8 ?_
  refine ts_isub hx hb dX2_isPlayer_9 (fun z9 hz9 => ?_)
  refine ps_call (rest := []) cx hl (c_X2_in l v 0 z9 (by omega)) tg_RX2_48 ⟨rfl, rfl⟩ 3 rfl (by decide +kernel) ⟨Nat.le_of_ble_eq_true rfl, Nat.le_of_ble_eq_true rfl⟩ ⟨Nat.zero_le _, Nat.zero_le _⟩ (Nat.le_of_ble_eq_true rfl) dX2_isPlayer_10 (rfl) (fun z10 hz10 => ?_)
  exact ro_retz cx hr hlocks (by omega) (by omega) dX2_isPlayer_13
set_option maxHeartbeats 4000000 in
set_option maxRecDepth 100000 in
theorem c_X2_putAside (l : Launch) (g : GS) : mmMv l yX2_putAside (wU yX2_putAside cX2_putAside 2 none) ({ frames := 0, cells := 0, slots := 0, locals := 0 } : Room) [] g (fun g1 => (∀ j : Nat, j < 2670 → g1 1 j = g 0 j) ∧ g1 0 = g 0 ∧ MO g1 g) := by
  refine mmMv_of (by decide) (Nat.le_of_ble_eq_true rfl) ?_
  intro p e s m args below meth c D cI tb ad A ls cx hr hlocks hK hA hw hl
  have hx := cx.1
  have hb := cx.2.1
  have hl : lv_has ls 2 [(0, .ref (ad 0))] := hl
  refine ts_iconst hx hb dX2_putAside_0 ?_
  refine lv_istore_n (lv' := [(1, .int (iN 0)), (0, .ref (ad 0))]) hx hb dX2_putAside_1 rfl hl (by decide) rfl (fun ls hl => ?_)
  have cut2 : ∀ (fu : Nat) (i : Int) (ga : GS) (hmu : (2670 - i).toNat < fu) (hi : 0 ≤ i ∧ i ≤ 2670) (ha : ∀ j : Nat, (j : Int) < i → ga 1 j = g 0 j) (h0 : ga 0 = g 0) (hm : MO ga g) (H : Heap) (locs : List Loc) (hw : mmB D A s cI ad ga H locs) (ls : Array Slot) (hl : lv_has ls 2 [(0, .ref (ad 0)), (1, .int (iN i))]), W p l e ({ frames := 0, cells := 0, slots := 0, locals := 0 } : Room) s m args below meth c H locs 0 0 (mmQv D cI ad A below args s (fun g1 => (∀ j : Nat, j < 2670 → g1 1 j = g 0 j) ∧ g1 0 = g 0 ∧ MO g1 g)) (F0 m 2 ls []) := by
    intro fu
    induction fu with
    | zero => intro i ga hmu; exact absurd hmu (Nat.not_lt_zero _)
    | succ fu ih2 =>
      intro i ga hmu hi ha h0 hm H locs hw ls hl
      refine lv_iload_n hx hb dX2_putAside_2 rfl (lv_at hl 1 rfl) ?_
      refine ts_sipush hx hb dX2_putAside_3 (by decide) ?_
      refine ts_icmp_ge (tgt := 27) hx hb (by omega) dX2_putAside_6 (by decide) (fun c6 => ?_) (fun c6 => ?_)
      · skip
        exact mm_vret cx hr hlocks hw (⟨fun j hj => ha j (by omega), h0, hm⟩) dX2_putAside_27
      · skip
        refine lv_aload_n hx hb dX2_putAside_9 rfl (lv_at hl 0 rfl) ?_
        refine mm_get1 cx hK hw tl_RX2_13 dX2_putAside_10 ?_
        refine lv_iload_n hx hb dX2_putAside_13 rfl (lv_at hl 1 rfl) ?_
        refine lv_aload_n hx hb dX2_putAside_14 rfl (lv_at hl 0 rfl) ?_
        refine mm_get0 cx hK hw tl_RX2_7 dX2_putAside_15 ?_
        refine lv_iload_n hx hb dX2_putAside_18 rfl (lv_at hl 1 rfl) ?_
        refine mm_ld0 cx hK hw (i.toNat) (by omega) dX2_putAside_19 (fun z19 hz19 => ?_)
        refine mm_st1 cx hK hw (i.toNat) (by omega) dX2_putAside_20 (fun g20 H locs hg20 hw => ?_)
        obtain ⟨z21, hz21⟩ : ∃ z : Int, z = i + 1 := ⟨_, rfl⟩
        refine lv_iinc (v := iN z21) (lv' := [(1, .int (iN z21)), (0, .ref (ad 0))]) hx hb dX2_putAside_21 hl (k := 1) rfl (by rw [hz21]; exact iN_add _ _) (by decide) rfl (fun ls hl => ?_)
        have han : ∀ j : Nat, (j : Int) < z21 → g20 1 j = g 0 j := by
          intro j hj
          rw [hg20, u2_r]
          by_cases e : j = i.toNat
          · rw [if_pos e, hz19, h0, e]
          · rw [if_neg e]; exact ha j (by omega)
        refine lv_goto (tgt := 2) hx hb dX2_putAside_24 (by decide) ?_
        exact ih2 (z21) (g20) (by omega) (by omega) (han) (by rw [hg20, u2_row _ (by decide)]; exact h0) (⟨by rw [hg20, u2_row _ (by decide)]; exact hm.1, by rw [hg20, u2_row _ (by decide)]; exact hm.2.1, by rw [hg20, u2_row _ (by decide)]; exact hm.2.2⟩) _ _ hw _ (lv_sub hl [1, 0] rfl)
  exact cut2 _ (0) (g) (Nat.lt_succ_self _) (by omega) (fun j hj => by omega) (rfl) (⟨rfl, rfl, rfl⟩) _ _ hw _ (lv_sub hl [1, 0] rfl)
set_option maxHeartbeats 4000000 in
set_option maxRecDepth 100000 in
theorem c_X2_putBack (l : Launch) (g : GS) : mmMv l yX2_putBack (wU yX2_putBack cX2_putBack 2 none) ({ frames := 0, cells := 0, slots := 0, locals := 0 } : Room) [] g (fun g1 => (∀ j : Nat, j < 2670 → g1 0 j = g 1 j) ∧ g1 1 = g 1 ∧ MO g1 g) := by
  refine mmMv_of (by decide) (Nat.le_of_ble_eq_true rfl) ?_
  intro p e s m args below meth c D cI tb ad A ls cx hr hlocks hK hA hw hl
  have hx := cx.1
  have hb := cx.2.1
  have hl : lv_has ls 2 [(0, .ref (ad 0))] := hl
  refine ts_iconst hx hb dX2_putBack_0 ?_
  refine lv_istore_n (lv' := [(1, .int (iN 0)), (0, .ref (ad 0))]) hx hb dX2_putBack_1 rfl hl (by decide) rfl (fun ls hl => ?_)
  have cut2 : ∀ (fu : Nat) (i : Int) (ga : GS) (hmu : (2670 - i).toNat < fu) (hi : 0 ≤ i ∧ i ≤ 2670) (ha : ∀ j : Nat, (j : Int) < i → ga 0 j = g 1 j) (h0 : ga 1 = g 1) (hm : MO ga g) (H : Heap) (locs : List Loc) (hw : mmB D A s cI ad ga H locs) (ls : Array Slot) (hl : lv_has ls 2 [(0, .ref (ad 0)), (1, .int (iN i))]), W p l e ({ frames := 0, cells := 0, slots := 0, locals := 0 } : Room) s m args below meth c H locs 0 0 (mmQv D cI ad A below args s (fun g1 => (∀ j : Nat, j < 2670 → g1 0 j = g 1 j) ∧ g1 1 = g 1 ∧ MO g1 g)) (F0 m 2 ls []) := by
    intro fu
    induction fu with
    | zero => intro i ga hmu; exact absurd hmu (Nat.not_lt_zero _)
    | succ fu ih2 =>
      intro i ga hmu hi ha h0 hm H locs hw ls hl
      refine lv_iload_n hx hb dX2_putBack_2 rfl (lv_at hl 1 rfl) ?_
      refine ts_sipush hx hb dX2_putBack_3 (by decide) ?_
      refine ts_icmp_ge (tgt := 27) hx hb (by omega) dX2_putBack_6 (by decide) (fun c6 => ?_) (fun c6 => ?_)
      · skip
        exact mm_vret cx hr hlocks hw (⟨fun j hj => ha j (by omega), h0, hm⟩) dX2_putBack_27
      · skip
        refine lv_aload_n hx hb dX2_putBack_9 rfl (lv_at hl 0 rfl) ?_
        refine mm_get0 cx hK hw tl_RX2_7 dX2_putBack_10 ?_
        refine lv_iload_n hx hb dX2_putBack_13 rfl (lv_at hl 1 rfl) ?_
        refine lv_aload_n hx hb dX2_putBack_14 rfl (lv_at hl 0 rfl) ?_
        refine mm_get1 cx hK hw tl_RX2_13 dX2_putBack_15 ?_
        refine lv_iload_n hx hb dX2_putBack_18 rfl (lv_at hl 1 rfl) ?_
        refine mm_ld1 cx hK hw (i.toNat) (by omega) dX2_putBack_19 (fun z19 hz19 => ?_)
        refine mm_st0 cx hK hw (i.toNat) (by omega) dX2_putBack_20 (fun g20 H locs hg20 hw => ?_)
        obtain ⟨z21, hz21⟩ : ∃ z : Int, z = i + 1 := ⟨_, rfl⟩
        refine lv_iinc (v := iN z21) (lv' := [(1, .int (iN z21)), (0, .ref (ad 0))]) hx hb dX2_putBack_21 hl (k := 1) rfl (by rw [hz21]; exact iN_add _ _) (by decide) rfl (fun ls hl => ?_)
        have han : ∀ j : Nat, (j : Int) < z21 → g20 0 j = g 1 j := by
          intro j hj
          rw [hg20, u2_r]
          by_cases e : j = i.toNat
          · rw [if_pos e, hz19, h0, e]
          · rw [if_neg e]; exact ha j (by omega)
        refine lv_goto (tgt := 2) hx hb dX2_putBack_24 (by decide) ?_
        exact ih2 (z21) (g20) (by omega) (by omega) (han) (by rw [hg20, u2_row _ (by decide)]; exact h0) (⟨by rw [hg20, u2_row _ (by decide)]; exact hm.1, by rw [hg20, u2_row _ (by decide)]; exact hm.2.1, by rw [hg20, u2_row _ (by decide)]; exact hm.2.2⟩) _ _ hw _ (lv_sub hl [1, 0] rfl)
  exact cut2 _ (0) (g) (Nat.lt_succ_self _) (by omega) (fun j hj => by omega) (rfl) (⟨rfl, rfl, rfl⟩) _ _ hw _ (lv_sub hl [1, 0] rfl)
