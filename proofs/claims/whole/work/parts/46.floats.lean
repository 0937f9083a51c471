/-! the floats of wealth -/
def FN (v : UInt32) (c : Nat) (q : Int) : Prop := FP.Core.val32 v = .fin false c q ∧ (8388608 ≤ c ∧ c < 16777216) ∧ -60 ≤ q ∧ q ≤ 20
theorem b32_n : FP.Core.b32.qmin = -149 ∧ FP.Core.b32.qmax = 104 ∧ FP.Core.b32.tails = 8388608 ∧ (2 : Nat) ^ FP.Core.b32.p = 16777216 := by decide +kernel
theorem fn_fits {c : Nat} {q : Int} (hc : 8388608 ≤ c ∧ c < 16777216) (hq : -61 ≤ q ∧ q ≤ 21) : FP.Core.fits FP.Core.b32 (.fin false c q) := by
  obtain ⟨e1, e2, e3, e4⟩ := b32_n
  show c < (2 : Nat) ^ FP.Core.b32.p ∧ FP.Core.b32.qmin ≤ q ∧ q ≤ FP.Core.b32.qmax ∧ (q = FP.Core.b32.qmin ∨ FP.Core.b32.tails ≤ c)
  rw [e4, e1, e2, e3]
  exact ⟨hc.2, by omega, by omega, Or.inr hc.1⟩
theorem v_two : FP.Core.val32 FP.fconst2 = .fin false 8388608 (-22) := by decide +kernel
theorem v_one : FP.Core.val32 FP.fconst1 = .fin false 8388608 (-23) := by decide +kernel
theorem v_half : FP.Core.val32 1056964608 = .fin false 8388608 (-24) := by decide +kernel
theorem v_big : FP.Core.val32 1258291200 = .fin false 8388608 0 := by decide +kernel
theorem v_zero : FP.Core.val32 FP.fconst0 = .fin false 0 (-149) := by decide +kernel
theorem fn_nn {v : UInt32} (h : FP.Core.val32 v ≠ .nan) : vf_n32 v := by
  have h1 := (FP.Core.ne_nan32 v).mp h
  unfold vf_n32
  rw [UInt32.le_iff_toNat_le, UInt32.toNat_and, show (0x7fffffff : UInt32).toNat = 2 ^ 31 - 1 from rfl, Nat.and_two_pow_sub_one_eq_mod]
  exact h1
theorem fn_n {v : UInt32} {c : Nat} {q : Int} (h : FN v c q) : vf_n32 v := fn_nn (by rw [h.1]; intro e; cases e)
theorem ex_mul {c : Nat} {q r : Int} (hc : 8388608 ≤ c ∧ c < 16777216) (hq : -61 ≤ q + r + 23 ∧ q + r + 23 ≤ 21) : FP.Core.round FP.Core.b32 (FP.Core.exactProduct (.fin false c q) (.fin false 8388608 r)) = .fin false c (q + r + 23) := by
  show FP.Core.roundRatio FP.Core.b32 false (c * 8388608) 1 (q + r) = _
  refine FP.Core.roundRatio_exact FP.Core.good_b32 (by decide) (fn_fits hc hq) ?_
  rw [show (q + r - (q + r + 23)).toNat = 0 by omega, show (q + r + 23 - (q + r)).toNat = 23 by omega, Nat.mul_one, Nat.mul_one]
theorem fn_mul {v w : UInt32} {c : Nat} {q r : Int} (h : FN v c q) (hw : FP.Core.val32 w = .fin false 8388608 r) (hq : -60 ≤ q + r + 23 ∧ q + r + 23 ≤ 20) : FN (FP.fmul v w) c (q + r + 23) := by
  refine ⟨?_, h.2.1, hq⟩
  show FP.Core.val32 (FP.Core.fmul v w) = _
  rw [FP.Core.val32_fmul, h.1, hw]
  exact ex_mul h.2.1 (by omega)
theorem fn_div2 {v : UInt32} {c : Nat} {q : Int} (h : FN v c q) (hq : -59 ≤ q) : FN (FP.fdiv v FP.fconst2) c (q - 1) := by
  refine ⟨?_, h.2.1, by omega, by have := h.2.2.2; omega⟩
  show FP.Core.val32 (FP.Core.fdiv v FP.fconst2) = _
  rw [FP.Core.val32_fdiv, h.1, v_two]
  show FP.Core.roundRatio FP.Core.b32 false c 8388608 (q - -22) = _
  refine FP.Core.roundRatio_exact FP.Core.good_b32 (by decide) (fn_fits h.2.1 (by have := h.2.2; omega)) ?_
  rw [show (q - -22 - (q - 1)).toNat = 23 by omega, show (q - 1 - (q - -22)).toNat = 0 by omega, Nat.pow_zero, Nat.mul_one]
theorem fn_inj {v w : UInt32} {c : Nat} {q : Int} (h1 : FN v c q) (h2 : FN w c q) : v = w := FP.Core.val32_inj (by rw [h1.1]; intro e; cases e) (h1.1.trans h2.1.symm)
theorem cmp_lt {a b : Int} (h : a < b) : compare a b = .lt := by
  show compareOfLessAndEq a b = .lt
  unfold compareOfLessAndEq
  rw [if_pos h]
theorem cmp_ge {a b : Int} (h : b ≤ a) : compare a b = .gt ∨ compare a b = .eq := by
  show compareOfLessAndEq a b = .gt ∨ compareOfLessAndEq a b = .eq
  unfold compareOfLessAndEq
  rw [if_neg (by omega)]
  split
  · exact Or.inr rfl
  · exact Or.inl rfl
theorem fn_lt {v w : UInt32} {c : Nat} {q r : Int} (h : FN v c q) (hw : FP.Core.val32 w = .fin false 8388608 r) (hq : q < r) : FP.fcmp v w = some .lt := by
  show FP.Core.order (FP.Core.val32 v) (FP.Core.val32 w) = _
  rw [h.1, hw]
  show some (compare ((c * 2 ^ (q - min q r).toNat : Nat) : Int) ((8388608 * 2 ^ (r - min q r).toNat : Nat) : Int)) = _
  have h2 : 2 ^ 1 ≤ 2 ^ (r - min q r).toNat := Nat.pow_le_pow_right (by decide) (by omega)
  rw [show (q - min q r).toNat = 0 by omega, Nat.pow_zero, Nat.mul_one]
  have h3 := h.2.1
  rw [cmp_lt (by omega)]
theorem fn_ge {v w : UInt32} {c : Nat} {q r : Int} (h : FN v c q) (hw : FP.Core.val32 w = .fin false 8388608 r) (hq : r ≤ q) : FP.fcmp v w = some .gt ∨ FP.fcmp v w = some .eq := by
  have h1 : FP.fcmp v w = some (compare ((c * 2 ^ (q - min q r).toNat : Nat) : Int) ((8388608 * 2 ^ (r - min q r).toNat : Nat) : Int)) := by
    show FP.Core.order (FP.Core.val32 v) (FP.Core.val32 w) = _
    rw [h.1, hw]
    rfl
  have h2 : 1 ≤ 2 ^ (q - min q r).toNat := Nat.one_le_two_pow
  have h3 := h.2.1
  have h4 : c * 1 ≤ c * 2 ^ (q - min q r).toNat := Nat.mul_le_mul_left c h2
  rw [show (r - min q r).toNat = 0 by omega, Nat.pow_zero, Nat.mul_one] at h1
  rcases cmp_ge (a := ((c * 2 ^ (q - min q r).toNat : Nat) : Int)) (b := ((8388608 : Nat) : Int)) (by omega) with e | e
  · exact Or.inl (by rw [h1, e])
  · exact Or.inr (by rw [h1, e])
theorem fn_pos {v : UInt32} {c : Nat} {q : Int} (h : FN v c q) : FP.fcmp v FP.fconst0 = some .gt := by
  have h1 : FP.fcmp v FP.fconst0 = some (compare ((c * 2 ^ (q - min q (-149)).toNat : Nat) : Int) ((0 * 2 ^ (-149 - min q (-149)).toNat : Nat) : Int)) := by
    show FP.Core.order (FP.Core.val32 v) (FP.Core.val32 FP.fconst0) = _
    rw [h.1, v_zero]
    rfl
  have h3 := h.2.1
  have h4 : 0 < c * 2 ^ (q - min q (-149)).toNat := Nat.mul_pos (by omega) (Nat.two_pow_pos _)
  have h5 : ∀ a b : Int, b < a → compare a b = .gt := fun a b q => by
    rcases cmp_ge (a := a) (b := b) (by omega) with e | e
    · exact e
    · have e2 : compareOfLessAndEq a b = .eq := e
      unfold compareOfLessAndEq at e2
      rw [if_neg (by omega), if_neg (by omega)] at e2
      cases e2
  rw [h1, h5 _ _ (by rw [Nat.zero_mul]; omega)]
theorem fn_sub {v : UInt32} {c t : Nat} (h : FN v c (-23)) (ht : c = 8388608 + t) : FP.Core.val32 (FP.fsub v FP.fconst1) = FP.Core.round FP.Core.b32 (.fin false t (-23)) := by
  show FP.Core.val32 (FP.Core.fsub v FP.fconst1) = _
  rw [FP.Core.val32_fsub, h.1, v_one]
  have hV : FP.Core.sumUnits false c (-23) true 8388608 (-23) (min (-23) (-23)) = (t : Int) := by
    show ((c * 2 ^ 0 : Nat) : Int) + -((8388608 * 2 ^ 0 : Nat) : Int) = (t : Int)
    omega
  show FP.Core.round FP.Core.b32 (.fin (FP.Core.sumSign false true (FP.Core.sumUnits false c (-23) true 8388608 (-23) (min (-23) (-23)))) (FP.Core.sumUnits false c (-23) true 8388608 (-23) (min (-23) (-23))).natAbs (min (-23) (-23))) = _
  rw [hV]
  have hs : FP.Core.sumSign false true (t : Int) = false := by
    unfold FP.Core.sumSign
    split
    · rfl
    · exact decide_eq_false (by omega)
  rw [hs, Int.natAbs_natCast]
  rfl
theorem sc_up : ∀ (k t : Nat), 0 < t → t < 2 ^ 23 → 2 ^ (23 - k) ≤ t → k ≤ 23 → ∃ j : Nat, j ≤ 23 ∧ 8388608 ≤ t * 2 ^ j ∧ t * 2 ^ j < 16777216
  | 0, t, _, h, h1, _ => absurd h (by omega)
  | k + 1, t, h0, h, h1, hk => by
    by_cases h2 : 2 ^ (23 - k) ≤ t
    · exact sc_up k t h0 h h2 (by omega)
    · refine ⟨k + 1, hk, ?_, ?_⟩
      · have := Nat.mul_le_mul_right (2 ^ (k + 1)) h1
        rw [← Nat.pow_add, show 23 - (k + 1) + (k + 1) = 23 by omega] at this
        exact this
      · have := Nat.mul_lt_mul_of_pos_right (Nat.lt_of_not_le h2) (Nat.two_pow_pos (k + 1))
        rw [← Nat.pow_add, show 23 - k + (k + 1) = 24 by omega] at this
        exact this
theorem fn_fin {v : UInt32} {c t : Nat} (h : FN v c (-23)) (ht : c = 8388608 + t) : vf_n32 (FP.fsub v FP.fconst1) ∧ vf_n32 (FP.fmul (FP.fsub v FP.fconst1) 1258291200) ∧ FP.f2i (FP.fmul (FP.fsub v FP.fconst1) 1258291200) = iN (t : Int) := by
  have hw := fn_sub h ht
  have hc := h.2.1
  have h0 : 0 ≤ t := Nat.zero_le t
  by_cases hz : t = 0
  · have hw2 : FP.Core.val32 (FP.fsub v FP.fconst1) = .fin false 0 FP.Core.b32.qmin := by
      rw [hw, hz]
      rfl
    have hm : FP.Core.val32 (FP.fmul (FP.fsub v FP.fconst1) 1258291200) = .fin false 0 FP.Core.b32.qmin := by
      show FP.Core.val32 (FP.Core.fmul (FP.fsub v FP.fconst1) 1258291200) = _
      rw [FP.Core.val32_fmul, hw2, v_big]
      rfl
    refine ⟨fn_nn (by rw [hw2]; intro e; cases e), fn_nn (by rw [hm]; intro e; cases e), ?_⟩
    show Int32.ofInt (FP.Core.toInt (-2 ^ 31) (2 ^ 31 - 1) (FP.Core.val32 (FP.fmul (FP.fsub v FP.fconst1) 1258291200))) = _
    rw [hm, hz]
    decide +kernel
  · obtain ⟨j, hj, h1, h2⟩ := sc_up 23 t (by omega) (by show t < 8388608; omega) (by show 1 ≤ t; omega) (by omega)
    have hw2 : FP.Core.val32 (FP.fsub v FP.fconst1) = .fin false (t * 2 ^ j) (-23 - (j : Int)) := by
      rw [hw]
      show FP.Core.roundRatio FP.Core.b32 false t 1 (-23) = _
      refine FP.Core.roundRatio_exact FP.Core.good_b32 (by decide) (fn_fits ⟨h1, h2⟩ (by omega)) ?_
      rw [show (-23 - (-23 - (j : Int))).toNat = j by omega, show (-23 - (j : Int) - -23).toNat = 0 by omega, Nat.pow_zero, Nat.mul_one, Nat.mul_one]
    have hm : FP.Core.val32 (FP.fmul (FP.fsub v FP.fconst1) 1258291200) = .fin false (t * 2 ^ j) (-23 - (j : Int) + 0 + 23) := by
      show FP.Core.val32 (FP.Core.fmul (FP.fsub v FP.fconst1) 1258291200) = _
      rw [FP.Core.val32_fmul, hw2, v_big]
      exact ex_mul ⟨h1, h2⟩ (by omega)
    refine ⟨fn_nn (by rw [hw2]; intro e; cases e), fn_nn (by rw [hm]; intro e; cases e), ?_⟩
    show Int32.ofInt (FP.Core.toInt (-2 ^ 31) (2 ^ 31 - 1) (FP.Core.val32 (FP.fmul (FP.fsub v FP.fconst1) 1258291200))) = _
    rw [hm]
    have hT : FP.Core.truncate false (t * 2 ^ j) (-23 - (j : Int) + 0 + 23) = (t : Int) := by
      show ((t * 2 ^ j * 2 ^ (-23 - (j : Int) + 0 + 23).toNat / 2 ^ (-(-23 - (j : Int) + 0 + 23)).toNat : Nat) : Int) = _
      rw [show (-23 - (j : Int) + 0 + 23).toNat = 0 by omega, show (-(-23 - (j : Int) + 0 + 23)).toNat = j by omega, Nat.pow_zero, Nat.mul_one, Nat.mul_div_cancel _ (Nat.two_pow_pos j)]
    show Int32.ofInt (max (-2 ^ 31) (min (2 ^ 31 - 1) (FP.Core.truncate false (t * 2 ^ j) (-23 - (j : Int) + 0 + 23)))) = Int32.ofInt (t : Int)
    rw [hT]
    congr 1
    omega
theorem fn_div {x y : UInt32} {ca cb : Nat} {qa qb : Int} (hx : FN x ca qa) (hy : FN y cb qb) (hq : -30 ≤ qa - qb ∧ qa - qb ≤ 30) : ∃ (c : Nat) (q : Int), FN (FP.fdiv x y) c q ∧ qa - qb - 24 ≤ q ∧ q ≤ qa - qb - 22 := by
  have h1 := hx.2.1
  have h2 := hy.2.1
  obtain ⟨e1, e2, e3, e4⟩ := b32_n
  obtain ⟨e, he⟩ : ∃ e, e = qa - qb := ⟨_, rfl⟩
  have hv : FP.Core.val32 (FP.fdiv x y) = FP.Core.roundRatio FP.Core.b32 false ca cb e := by
    show FP.Core.val32 (FP.Core.fdiv x y) = _
    rw [FP.Core.val32_fdiv, hx.1, hy.1]
    show (if cb = 0 then _ else FP.Core.roundRatio FP.Core.b32 (false != false) ca cb (qa - qb)) = _
    rw [if_neg (by omega), he]
    rfl
  have b1 : FP.Core.Below ca cb 1 := by
    show ca * 2 ^ 0 < cb * 2 ^ 1
    omega
  have b2 : ¬ FP.Core.Below ca cb (-1) := by
    show ¬ ca * 2 ^ 1 < cb * 2 ^ 0
    omega
  have hs := FP.Core.leading_spec (A := ca) (B := cb) (by omega) (by omega)
  have l1 := FP.Core.lt_of_below hs.1 b1
  have l2 := FP.Core.lt_of_below b2 hs.2
  obtain ⟨Q, hQ⟩ : ∃ Q, Q = FP.Core.quantum FP.Core.b32 ca cb e := ⟨_, rfl⟩
  have hQ2 : e - 24 ≤ Q ∧ Q ≤ e - 23 := by
    have h3 : Q = max FP.Core.b32.qmin (FP.Core.leading ca cb + e - ((24 : Int) - 1)) := hQ
    rw [e1] at h3
    omega
  obtain ⟨N, hN⟩ : ∃ N, N = FP.Core.nearest (FP.Core.unitsNum ca e Q) (FP.Core.unitsDen cb e Q) := ⟨_, rfl⟩
  have hr : FP.Core.roundRatio FP.Core.b32 false ca cb e = FP.Core.settle FP.Core.b32 false N Q := by
    unfold FP.Core.roundRatio
    rw [if_neg (by omega), ← hQ, hN]
    rfl
  have hfit := FP.Core.roundRatio_fits FP.Core.good_b32 false ca (B := cb) (by omega) e
  rw [hr] at hfit hv
  unfold FP.Core.settle at hfit hv
  rw [e4] at hfit hv
  by_cases hlt : N < 16777216
  · rw [if_pos hlt] at hfit hv
    unfold FP.Core.bound at hfit hv
    rw [e2, if_pos (by omega)] at hfit hv
    have h5 : Q = FP.Core.b32.qmin ∨ FP.Core.b32.tails ≤ N := hfit.2.2.2
    rw [e1, e3] at h5
    exact ⟨N, Q, ⟨hv, ⟨by omega, hlt⟩, by omega, by omega⟩, by omega, by omega⟩
  · rw [if_neg hlt] at hv
    unfold FP.Core.bound at hv
    rw [e2, if_pos (by omega), e3] at hv
    exact ⟨8388608, Q + 1, ⟨hv, ⟨by omega, by omega⟩, by omega, by omega⟩, by omega, by omega⟩
def i2fOk (a : Nat) : Bool := match FP.Core.val32 (FP.i2f (iN (a : Int))) with
  | .fin s c q => !s && decide ((8388608 ≤ c ∧ c < 16777216) ∧ -23 ≤ q ∧ q ≤ -15)
  | _ => false
theorem i2f_all : ((List.range 493).all fun a => a == 0 || i2fOk a) = true := by decide +kernel
theorem i2f_fn {a : Nat} (h : 0 < a ∧ a < 493) : ∃ (c : Nat) (q : Int), FN (FP.i2f (iN (a : Int))) c q ∧ -23 ≤ q ∧ q ≤ -15 := by
  have h1 := List.all_eq_true.mp i2f_all a (List.mem_range.mpr h.2)
  have h2 : i2fOk a = true := by
    cases hh : i2fOk a
    · rw [hh, Bool.or_false] at h1
      have := beq_iff_eq.mp h1
      omega
    · rfl
  unfold i2fOk at h2
  split at h2
  · rename_i s c q hv
    have h3 := Bool.and_eq_true_iff.mp h2
    have h4 := of_decide_eq_true h3.2
    have h5 : s = false := by
      cases s
      · rfl
      · exact absurd h3.1 (by decide)
    subst h5
    exact ⟨c, q, ⟨hv, h4.1, by omega, by omega⟩, h4.2⟩
  · exact absurd h2 (by decide)
/-- the quotient of coins and cards -/
theorem wealth_fn {a b : Nat} (ha : 0 < a ∧ a < 493) (hb : 0 < b ∧ b < 493) : ∃ (c : Nat) (q : Int), FN (FP.fdiv (FP.i2f (iN (a : Int))) (FP.i2f (iN (b : Int)))) c q ∧ -32 ≤ q ∧ q ≤ -14 := by
  obtain ⟨ca, qa, h1, h2⟩ := i2f_fn ha
  obtain ⟨cb, qb, h3, h4⟩ := i2f_fn hb
  obtain ⟨c, q, h5, h6⟩ := fn_div h1 h3 (by omega)
  exact ⟨c, q, h5, by omega, by omega⟩
theorem wealth_0 {b : Nat} (hb : 0 < b ∧ b < 493) : FP.Core.val32 (FP.fdiv (FP.i2f (iN ((0 : Nat) : Int))) (FP.i2f (iN (b : Int)))) = .fin false 0 (-149) := by
  obtain ⟨cb, qb, h3, h4⟩ := i2f_fn hb
  have h0 : FP.Core.val32 (FP.i2f (iN ((0 : Nat) : Int))) = .fin false 0 (-149) := by decide +kernel
  have h2 := h3.2.1
  show FP.Core.val32 (FP.Core.fdiv _ _) = _
  rw [FP.Core.val32_fdiv, h0, h3.1]
  show (if cb = 0 then _ else FP.Core.roundRatio FP.Core.b32 (false != false) 0 cb (-149 - qb)) = _
  rw [if_neg (by omega)]
  show FP.Core.Datum.fin (false != false) 0 FP.Core.b32.qmin = _
  rw [b32_n.1]
  rfl
/-- the bits of a quotient -/
def bitsD (v : UInt32) : Int := match FP.Core.val32 v with
  | .fin _ c q => if c = 0 then 0 else (q + 150) * 8388608 + ((c : Int) - 8388608)
  | _ => 0
def wealthR (S : StT) (p : Int) : Int := if ¬ isP S p then -1000001 else if cqA 10 S.2 p.toNat 0 4 = 0 then -1000004 else bitsD (FP.fdiv (FP.i2f (iN (sumN (fun k => tv 1 k * cqA k S.2 p.toNat 0 4) 10))) (FP.i2f (iN (cqA 10 S.2 p.toNat 0 4))))
