/-! cards that are moved: what becomes of the picture -/
theorem getD_erase (l : List Int) (k j : Nat) : (l.eraseIdx k).getD j 0 = if j < k then l.getD j 0 else l.getD (j + 1) 0 := by
  simp only [List.getD_eq_getElem?_getD, List.getElem?_eraseIdx]
  split <;> rfl
theorem getD_app (l m : List Int) (j : Nat) : (l ++ m).getD j 0 = if j < l.length then l.getD j 0 else m.getD (j - l.length) 0 := by
  simp only [List.getD_eq_getElem?_getD, List.getElem?_append]
  split <;> rfl
theorem getD_snoc (l : List Int) (x : Int) (j : Nat) (h : j ≤ l.length) : (l ++ [x]).getD j 0 = if j < l.length then l.getD j 0 else x := by
  rw [getD_app]
  split
  · rfl
  · rw [show j - l.length = 0 by omega]
    rfl
theorem len_erase {l : List Int} {k : Nat} (h : k < l.length) : (l.eraseIdx k).length = l.length - 1 := by
  rw [List.length_eraseIdx, if_pos h]
def mvX (LX : Nat → List Int) (r k r2 : Nat) : Nat → List Int := fun q => if q = r then (LX r).eraseIdx k else if q = r2 then LX r2 ++ [(LX r).getD k 0] else LX q
theorem PX_move {g g1 : GS} {LX : Nat → List Int} (h : PX g LX) {r k r2 : Nat} (hr : r < r2 ∧ r2 < 16) (hk : k < (LX r).length) (h1 : ∀ j : Nat, g1 1 j = if r + 1 ≤ j ∧ j ≤ r2 then g 1 j - 1 else g 1 j) (h0 : ∀ j : Nat, g1 0 j = if (g 1 r).toNat + k ≤ j ∧ (j : Int) < g 1 (r2 + 1) - 1 then g 0 (j + 1) else if (j : Int) = g 1 (r2 + 1) - 1 then g 0 ((g 1 r).toNat + k) else g 0 j) : PX g1 (mvX LX r k r2) := by
  have hm := PX_M h
  have hb := MX_b hm
  have hlr := h.2.1 r (by omega)
  have hl2 := h.2.1 r2 (by omega)
  have hb1 := hb r (by omega)
  have hb2 := hb (r + 1) (by omega)
  have hb3 := hb r2 (by omega)
  have hb4 := hb (r2 + 1) (by omega)
  have hm1 := MX_le hm (a := r + 1) (b := r2) (by omega) (by omega)
  have hle := len_erase hk
  refine ⟨by rw [h1, if_neg (by omega)]; exact h.1, fun q hq => ?_, fun q hq k' hk' => ?_, by rw [h1, if_neg (by omega)]; exact h.2.2.2⟩
  · have hlq := h.2.1 q hq
    rw [h1, h1]
    unfold mvX
    by_cases e1 : q = r
    · subst e1
      rw [if_pos rfl, if_pos (by omega), if_neg (by omega), hle]
      omega
    · rw [if_neg e1]
      by_cases e2 : q = r2
      · subst e2
        rw [if_pos rfl, if_neg (by omega), if_pos (by omega), List.length_append, List.length_singleton]
        omega
      · rw [if_neg e2]
        by_cases e3 : r < q ∧ q < r2
        · rw [if_pos (by omega), if_pos (by omega)]; omega
        · rw [if_neg (by omega), if_neg (by omega)]; omega
  · have hlq := h.2.1 q hq
    have hcq := h.2.2.1 q hq
    have hbq := hb q (by omega)
    have hbq2 := hb (q + 1) (by omega)
    rw [h0, h1]
    unfold mvX at hk' ⊢
    by_cases e1 : q = r
    · subst e1
      rw [if_pos rfl] at hk' ⊢
      rw [hle] at hk'
      rw [getD_erase, if_neg (show ¬ (q + 1 ≤ q ∧ q ≤ r2) by omega)]
      by_cases e4 : k' < k
      · rw [if_pos e4, if_neg (by omega), if_neg (by omega)]
        exact hcq k' (by omega)
      · rw [if_neg e4, if_pos (by omega)]
        have := hcq (k' + 1) (by omega)
        rw [← this]
        congr 1
    · rw [if_neg e1] at hk' ⊢
      by_cases e2 : q = r2
      · subst e2
        rw [if_pos rfl] at hk' ⊢
        rw [List.length_append, List.length_singleton] at hk'
        rw [if_pos (show r + 1 ≤ q ∧ q ≤ q by omega), getD_snoc _ _ _ (by omega)]
        by_cases e4 : k' < (LX q).length
        · rw [if_pos e4, if_pos (by omega)]
          rw [← hcq k' e4]
          congr 1
          omega
        · rw [if_neg e4, if_neg (by omega), if_pos (by omega)]
          exact h.2.2.1 r (by omega) k hk
      · rw [if_neg e2] at hk' ⊢
        by_cases e3 : r < q ∧ q < r2
        · have hm2 := MX_le hm (a := r + 1) (b := q) (by omega) (by omega)
          have hm3 := MX_le hm (a := q + 1) (b := r2 + 1) (by omega) (by omega)
          rw [if_pos (show r + 1 ≤ q ∧ q ≤ r2 by omega), if_pos (by omega)]
          rw [← hcq k' hk']
          congr 1
          omega
        · rw [if_neg (show ¬ (r + 1 ≤ q ∧ q ≤ r2) by omega)]
          by_cases e5 : q < r
          · have hm2 := MX_le hm (a := q + 1) (b := r) (by omega) (by omega)
            rw [if_neg (by omega), if_neg (by omega)]
            exact hcq k' hk'
          · have hm2 := MX_le hm (a := r2 + 1) (b := q) (by omega) (by omega)
            rw [if_neg (by omega), if_neg (by omega)]
            exact hcq k' hk'
def ptX (LX : Nat → List Int) (r : Nat) (x : Int) : Nat → List Int := fun q => if q = r then LX r ++ [x] else LX q
theorem PX_put {g g1 : GS} {LX : Nat → List Int} (h : PX g LX) {r : Nat} {x : Int} (hr : r < 16) (h16 : g 1 16 < 164) (h1 : ∀ j : Nat, g1 1 j = if r + 1 ≤ j ∧ j ≤ 16 then g 1 j + 1 else g 1 j) (h0 : ∀ j : Nat, g1 0 j = if g 1 (r + 1) < j ∧ (j : Int) ≤ g 1 16 then g 0 (j - 1) else if (j : Int) = g 1 (r + 1) then x else g 0 j) : PX g1 (ptX LX r x) := by
  have hm := PX_M h
  have hb := MX_b hm
  have hlr := h.2.1 r (by omega)
  have hb1 := hb r (by omega)
  have hb2 := hb (r + 1) (by omega)
  refine ⟨by rw [h1, if_neg (by omega)]; exact h.1, fun q hq => ?_, fun q hq k' hk' => ?_, by rw [h1, if_pos (by omega)]; omega⟩
  · have hlq := h.2.1 q hq
    rw [h1, h1]
    unfold ptX
    by_cases e1 : q = r
    · subst e1
      rw [if_pos rfl, if_pos (by omega), if_neg (by omega), List.length_append, List.length_singleton]
      omega
    · rw [if_neg e1]
      by_cases e3 : r < q
      · rw [if_pos (by omega), if_pos (by omega)]; omega
      · rw [if_neg (by omega), if_neg (by omega)]; omega
  · have hlq := h.2.1 q hq
    have hcq := h.2.2.1 q hq
    have hbq := hb q (by omega)
    have hbq2 := hb (q + 1) (by omega)
    have hm4 := MX_le hm (a := q + 1) (b := 16) (by omega) (by omega)
    rw [h0, h1]
    unfold ptX at hk' ⊢
    by_cases e1 : q = r
    · subst e1
      rw [if_pos rfl] at hk' ⊢
      rw [List.length_append, List.length_singleton] at hk'
      rw [getD_snoc _ _ _ (by omega), if_neg (show ¬ (q + 1 ≤ q ∧ q ≤ 16) by omega)]
      by_cases e4 : k' < (LX q).length
      · rw [if_pos e4, if_neg (by omega), if_neg (by omega)]
        exact hcq k' e4
      · rw [if_neg e4, if_neg (by omega), if_pos (by omega)]
    · rw [if_neg e1] at hk' ⊢
      by_cases e3 : r < q
      · have hm2 := MX_le hm (a := r + 1) (b := q) (by omega) (by omega)
        rw [if_pos (show r + 1 ≤ q ∧ q ≤ 16 by omega), if_pos (by omega)]
        rw [← hcq k' hk']
        congr 1
        omega
      · have hm2 := MX_le hm (a := q + 1) (b := r) (by omega) (by omega)
        rw [if_neg (show ¬ (r + 1 ≤ q ∧ q ≤ 16) by omega), if_neg (by omega), if_neg (by omega)]
        exact hcq k' hk'
def dlX (LX : Nat → List Int) (r k : Nat) : Nat → List Int := fun q => if q = r then (LX r).eraseIdx k else LX q
theorem PX_del {g g1 : GS} {LX : Nat → List Int} (h : PX g LX) {r k : Nat} (hr : r < 16) (hk : k < (LX r).length) (h1 : ∀ j : Nat, g1 1 j = if r + 1 ≤ j ∧ j ≤ 16 then g 1 j - 1 else g 1 j) (h0 : ∀ j : Nat, (j : Int) < g 1 16 - 1 → g1 0 j = if (g 1 r).toNat + k ≤ j ∧ (j : Int) < g 1 16 - 1 then g 0 (j + 1) else g 0 j) : PX g1 (dlX LX r k) := by
  have hm := PX_M h
  have hb := MX_b hm
  have hlr := h.2.1 r (by omega)
  have hb1 := hb r (by omega)
  have hb2 := hb (r + 1) (by omega)
  have hle := len_erase hk
  have h164 := h.2.2.2
  have hl1 : ∀ q : Nat, q < 16 → g1 1 (q + 1) = g1 1 q + ((dlX LX r k q).length : Int) := by
    intro q hq
    have hlq := h.2.1 q hq
    rw [h1, h1]
    unfold dlX
    by_cases e1 : q = r
    · subst e1
      rw [if_pos rfl, if_pos (by omega), if_neg (by omega), hle]
      omega
    · rw [if_neg e1]
      by_cases e3 : r < q
      · rw [if_pos (by omega), if_pos (by omega)]; omega
      · rw [if_neg (by omega), if_neg (by omega)]; omega
  refine ⟨by rw [h1, if_neg (by omega)]; exact h.1, hl1, fun q hq k' hk' => ?_, by rw [h1, if_pos (by omega)]; omega⟩
  · have hlq := h.2.1 q hq
    have hcq := h.2.2.1 q hq
    have hbq := hb q (by omega)
    have hbq2 := hb (q + 1) (by omega)
    have hm4 := MX_le hm (a := q + 1) (b := 16) (by omega) (by omega)
    have hlt : (((g1 1 q).toNat + k' : Nat) : Int) < g 1 16 - 1 := by
      have hl := hl1 q hq
      have hq1 := h1 q
      have hq2 := h1 (q + 1)
      have hm5 := MX_le hm (a := r + 1) (b := 16) (by omega) (by omega)
      by_cases e3 : r ≤ q
      · rw [if_pos (by omega)] at hq2
        by_cases e4 : r = q
        · rw [if_neg (by omega)] at hq1
          omega
        · have hm6 := MX_le hm (a := r + 1) (b := q) (by omega) (by omega)
          rw [if_pos (by omega)] at hq1
          omega
      · have hm2 := MX_le hm (a := q + 1) (b := r) (by omega) (by omega)
        rw [if_neg (by omega)] at hq1 hq2
        omega
    rw [h0 _ hlt, h1]
    unfold dlX at hk' ⊢
    by_cases e1 : q = r
    · subst e1
      rw [if_pos rfl] at hk' ⊢
      rw [hle] at hk'
      rw [getD_erase, if_neg (show ¬ (q + 1 ≤ q ∧ q ≤ 16) by omega)]
      by_cases e4 : k' < k
      · rw [if_pos e4, if_neg (by omega)]
        exact hcq k' (by omega)
      · rw [if_neg e4, if_pos (by omega)]
        rw [← hcq (k' + 1) (by omega)]
        congr 1
    · rw [if_neg e1] at hk' ⊢
      by_cases e3 : r < q
      · have hm2 := MX_le hm (a := r + 1) (b := q) (by omega) (by omega)
        rw [if_pos (show r + 1 ≤ q ∧ q ≤ 16 by omega), if_pos (by omega)]
        rw [← hcq k' hk']
        congr 1
        omega
      · have hm2 := MX_le hm (a := q + 1) (b := r) (by omega) (by omega)
        rw [if_neg (show ¬ (r + 1 ≤ q ∧ q ≤ 16) by omega), if_neg (by omega)]
        exact hcq k' hk'
/-- a border moves: two parts one behind the other are cut anew -/
theorem PX_cut {g g1 : GS} {LX LY : Nat → List Int} (h : PX g LX) {r : Nat} (hr : r + 1 < 16) (hq : ∀ q : Nat, q ≠ r → q ≠ r + 1 → LY q = LX q) (ha : LY r ++ LY (r + 1) = LX r ++ LX (r + 1)) (h1 : ∀ j : Nat, g1 1 j = if j = r + 1 then g 1 r + ((LY r).length : Int) else g 1 j) (h0 : ∀ j : Nat, g1 0 j = g 0 j) : PX g1 LY := by
  have hb := MX_b (PX_M h)
  have hlr := h.2.1 r (by omega)
  have hl2 := h.2.1 (r + 1) (by omega)
  have hb1 := hb r (by omega)
  have hb2 := hb (r + 1) (by omega)
  have hlen := congrArg List.length ha
  rw [List.length_append, List.length_append] at hlen
  have key : ∀ j : Nat, j < (LX r ++ LX (r + 1)).length → g 0 ((g 1 r).toNat + j) = (LX r ++ LX (r + 1)).getD j 0 := by
    intro j hj
    rw [List.length_append] at hj
    rw [getD_app]
    by_cases e : j < (LX r).length
    · rw [if_pos e]; exact h.2.2.1 r (by omega) j e
    · rw [if_neg e, ← h.2.2.1 (r + 1) (by omega) (j - (LX r).length) (by omega)]
      congr 1
      omega
  refine ⟨by rw [h1, if_neg (by omega)]; exact h.1, fun q hq2 => ?_, fun q hq2 k hk => ?_, by rw [h1, if_neg (by omega)]; exact h.2.2.2⟩
  · have hlq := h.2.1 q hq2
    rw [h1, h1]
    by_cases e1 : q = r
    · subst e1
      rw [if_pos rfl, if_neg (by omega)]
    · by_cases e2 : q = r + 1
      · subst e2
        rw [if_neg (by omega), if_pos rfl]
        omega
      · rw [if_neg (by omega), if_neg e2, hq q e1 e2]
        exact hlq
  · rw [h0, h1]
    by_cases e1 : q = r
    · subst e1
      rw [if_neg (by omega), key k (by rw [← ha, List.length_append]; omega), ← ha, getD_app, if_pos hk]
    · by_cases e2 : q = r + 1
      · subst e2
        rw [if_pos rfl, show (g 1 r + ((LY r).length : Int)).toNat + k = (g 1 r).toNat + ((LY r).length + k) by omega, key _ (by rw [← ha, List.length_append]; omega), ← ha, getD_app, if_neg (by omega)]
        congr 1
        omega
      · rw [if_neg e2]
        rw [hq q e1 e2] at hk ⊢
        exact h.2.2.1 q hq2 k hk
