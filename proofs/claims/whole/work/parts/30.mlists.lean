/-! the model's picture: 30 numbers, and sixteen lists of at most 164, each behind its length -/
def SM (m : GS) (sc : SCT) : Prop := ∀ i : Nat, i < 30 → m 0 i = sc i
def QM (m : GS) (L : LLT) : Prop := ∀ p w : Nat, p < 4 → w < 4 → m 0 (30 + 165 * (4 * p + w)) = ((L p w).length : Int) ∧ (L p w).length ≤ 164 ∧ ∀ k : Nat, k < (L p w).length → m 0 (31 + 165 * (4 * p + w) + k) = (L p w).getD k 0
def RM (m : GS) (S : StT) : Prop := SM m S.1 ∧ QM m S.2
/-- all but the lists stays -/
def MR (m1 m : GS) : Prop := (∀ i : Nat, i < 30 → m1 0 i = m 0 i) ∧ m1 1 = m 1 ∧ m1 2 = m 2 ∧ m1 3 = m 3 ∧ m1 4 = m 4
theorem MR_rf (m : GS) : MR m m := ⟨fun _ _ => rfl, rfl, rfl, rfl, rfl⟩
theorem MR_tr {a b c : GS} (h1 : MR a b) (h2 : MR b c) : MR a c := ⟨fun i hi => (h1.1 i hi).trans (h2.1 i hi), h1.2.1.trans h2.2.1, h1.2.2.1.trans h2.2.2.1, h1.2.2.2.1.trans h2.2.2.2.1, h1.2.2.2.2.trans h2.2.2.2.2⟩
theorem QM_congr {m : GS} {L L2 : LLT} (h : QM m L) (e : ∀ p w, p < 4 → w < 4 → L p w = L2 p w) : QM m L2 := fun p w hp hw => by rw [← e p w hp hw]; exact h p w hp hw
theorem QM_put {m m1 : GS} {L : LLT} (h : QM m L) {p w : Nat} {x : Int} (hp : p < 4) (hw : w < 4) (hl : (L p w).length < 164) (h1 : ∀ j : Nat, m1 0 j = if j = 31 + 165 * (4 * p + w) + (L p w).length then x else if j = 30 + 165 * (4 * p + w) then ((L p w).length : Int) + 1 else m 0 j) : QM m1 (ul L p w (L p w ++ [x])) := by
  intro p' w' hp' hw'
  obtain ⟨a1, a2, a3⟩ := h p' w' hp' hw'
  by_cases e : p' = p ∧ w' = w
  · obtain ⟨rfl, rfl⟩ := e
    rw [ul_s, List.length_append, List.length_singleton]
    refine ⟨?_, by omega, fun k hk => ?_⟩
    · rw [h1, if_neg (by omega), if_pos rfl]; omega
    · rw [h1, getD_snoc _ _ _ (by omega)]
      by_cases hk2 : k < (L p' w').length
      · rw [if_neg (by omega), if_neg (by omega), if_pos hk2]; exact a3 k hk2
      · rw [if_pos (by omega), if_neg hk2]
  · have e2 : ul L p w (L p w ++ [x]) p' w' = L p' w' := if_neg e
    rw [e2]
    refine ⟨?_, a2, fun k hk => ?_⟩
    · rw [h1, if_neg (by omega), if_neg (by omega)]; exact a1
    · rw [h1, if_neg (by omega), if_neg (by omega)]; exact a3 k hk
theorem QM_take {m m1 : GS} {L : LLT} (h : QM m L) {p w i : Nat} (hp : p < 4) (hw : w < 4) (hi : i < (L p w).length) (h1 : ∀ j : Nat, m1 0 j = if j = 30 + 165 * (4 * p + w) then ((L p w).length : Int) - 1 else if 31 + 165 * (4 * p + w) + i ≤ j ∧ j ≤ 30 + 165 * (4 * p + w) + ((L p w).length - 1) then m 0 (j + 1) else m 0 j) : QM m1 (ul L p w ((L p w).eraseIdx i)) := by
  intro p' w' hp' hw'
  obtain ⟨a1, a2, a3⟩ := h p' w' hp' hw'
  obtain ⟨-, b2, -⟩ := h p w hp hw
  by_cases e : p' = p ∧ w' = w
  · obtain ⟨rfl, rfl⟩ := e
    rw [ul_s, len_erase hi]
    refine ⟨?_, by omega, fun k hk => ?_⟩
    · rw [h1, if_pos rfl]; omega
    · rw [h1, if_neg (by omega), getD_erase]
      by_cases hk2 : k < i
      · rw [if_pos hk2, if_neg (by omega)]; exact a3 k (by omega)
      · rw [if_neg hk2, if_pos (by omega), ← a3 (k + 1) (by omega)]
        congr 1
  · have e2 : ul L p w ((L p w).eraseIdx i) p' w' = L p' w' := if_neg e
    rw [e2]
    refine ⟨?_, a2, fun k hk => ?_⟩
    · rw [h1, if_neg (by omega), if_neg (by omega)]; exact a1
    · rw [h1, if_neg (by omega), if_neg (by omega)]; exact a3 k hk
theorem QM_zero {m m1 : GS} {L : LLT} (h : QM m L) {p w : Nat} (hp : p < 4) (hw : w < 4) (h1 : ∀ j : Nat, m1 0 j = if j = 30 + 165 * (4 * p + w) then 0 else m 0 j) : QM m1 (ul L p w []) := by
  intro p' w' hp' hw'
  obtain ⟨a1, a2, a3⟩ := h p' w' hp' hw'
  obtain ⟨-, b2, -⟩ := h p w hp hw
  by_cases e : p' = p ∧ w' = w
  · obtain ⟨rfl, rfl⟩ := e
    rw [ul_s]
    exact ⟨by rw [h1, if_pos rfl]; rfl, Nat.zero_le _, fun k hk => by simp at hk⟩
  · have e2 : ul L p w [] p' w' = L p' w' := if_neg e
    rw [e2]
    refine ⟨?_, a2, fun k hk => ?_⟩
    · rw [h1, if_neg (by omega)]; exact a1
    · rw [h1, if_neg (by omega)]; exact a3 k hk
theorem lenS_two (L : LLT) {p w w' : Nat} (hp : p < 4) (hw : w < 4) (hw' : w' < 4) (hne : w ≠ w') : ((L p w).length : Int) + ((L p w').length : Int) ≤ lenS L := by
  have h1 := lenS_ul L [] hp hw
  have h2 := lenS_len (ul L p w []) hp hw'
  rw [ul_w _ _ (Ne.symm hne)] at h2
  simp only [List.length_nil] at h1
  omega
theorem ul_ul (L : LLT) (p w : Nat) (x y : List Int) : ul (ul L p w x) p w y = ul L p w y := by
  funext p' w'
  unfold ul
  split <;> rfl
