/-! what holds of every state -/
theorem u2_4 (g : GS) (k : Nat) (v : Int) (j : Nat) : u2 g 4 k v 4 j = if j = k then v else g 4 j := by
  unfold u2
  by_cases h : j = k
  · rw [if_pos h, if_pos ⟨rfl, h⟩]
  · rw [if_neg h, if_neg fun q => h q.2]
theorem u2_r (g : GS) (a k : Nat) (v : Int) (j : Nat) : u2 g a k v a j = if j = k then v else g a j := by
  unfold u2
  by_cases h : j = k
  · rw [if_pos h, if_pos ⟨rfl, h⟩]
  · rw [if_neg h, if_neg fun q => h q.2]
theorem sumN_term {f : Nat → Int} : ∀ {n k : Nat}, (∀ i, i < n → 0 ≤ f i) → k < n → f k ≤ sumN f n
  | 0, k, _, hk => by omega
  | n + 1, k, h, hk => by
    have h1 := sumN_nonneg (f := f) (n := n) (fun i hi => h i (by omega))
    have h2 := h n (by omega)
    show f k ≤ sumN f n + f n
    by_cases e : k = n
    · subst e; omega
    · have := sumN_term (f := f) (n := n) (k := k) (fun i hi => h i (by omega)) (by omega)
      omega
def lenS (L : LLT) : Int := sumN (fun q => ((L (q / 4) (q % 4)).length : Int)) 16
def VS (S : StT) : Prop := (2 ≤ S.1 0 ∧ S.1 0 ≤ 4) ∧ (0 ≤ S.1 1 ∧ S.1 1 < S.1 0) ∧ (0 ≤ S.1 6 ∧ S.1 6 ≤ 9) ∧ (0 ≤ S.1 9 ∧ S.1 9 ≤ 9) ∧ (S.1 8 = 0 ∨ S.1 8 = 1) ∧ (∀ k : Nat, k < 20 → 0 ≤ S.1 (10 + k)) ∧ (0 ≤ S.1 2 ∧ S.1 2 ≤ 3 * ((S.2 (pl S) 2).length : Int)) ∧ (0 ≤ S.1 3 ∧ S.1 3 ≤ 1 + ((S.2 (pl S) 2).length : Int)) ∧ (0 ≤ S.1 4 ∧ S.1 4 ≤ 1 + ((S.2 (pl S) 2).length : Int)) ∧ (0 ≤ S.1 5 ∧ S.1 5 ≤ ((S.2 (pl S) 2).length : Int)) ∧ (∀ p w : Nat, ∀ x ∈ S.2 p w, 0 ≤ x ∧ x ≤ 9) ∧ (∀ p w : Nat, ¬ ((p : Int) < S.1 0 ∧ w < 4) → S.2 p w = []) ∧ sumN (fun k => S.1 (10 + k)) 20 + lenS S.2 = 164
theorem lenS_nonneg (L : LLT) : 0 ≤ lenS L := sumN_nonneg fun i _ => by omega
theorem lenS_len (L : LLT) {p w : Nat} (hp : p < 4) (hw : w < 4) : ((L p w).length : Int) ≤ lenS L := by
  have h := sumN_term (f := fun q => ((L (q / 4) (q % 4)).length : Int)) (n := 16) (k := 4 * p + w) (fun i _ => by omega) (by omega)
  simp only [show (4 * p + w) / 4 = p by omega, show (4 * p + w) % 4 = w by omega] at h
  exact h
theorem PX_tot {g : GS} {L : LLT} (h : PX g (lx L)) : g 1 16 = lenS L := by
  have e : ∀ r : Nat, r < 16 → g 1 (r + 1) = g 1 r + ((lx L r).length : Int) := h.2.1
  have h0 := h.1
  have e0 : g 1 1 = g 1 0 + ((L 0 0).length : Int) := e 0 (by omega)
  have e1 : g 1 2 = g 1 1 + ((L 0 3).length : Int) := e 1 (by omega)
  have e2 : g 1 3 = g 1 2 + ((L 0 1).length : Int) := e 2 (by omega)
  have e3 : g 1 4 = g 1 3 + ((L 0 2).length : Int) := e 3 (by omega)
  have e4 : g 1 5 = g 1 4 + ((L 1 0).length : Int) := e 4 (by omega)
  have e5 : g 1 6 = g 1 5 + ((L 1 3).length : Int) := e 5 (by omega)
  have e6 : g 1 7 = g 1 6 + ((L 1 1).length : Int) := e 6 (by omega)
  have e7 : g 1 8 = g 1 7 + ((L 1 2).length : Int) := e 7 (by omega)
  have e8 : g 1 9 = g 1 8 + ((L 2 0).length : Int) := e 8 (by omega)
  have e9 : g 1 10 = g 1 9 + ((L 2 3).length : Int) := e 9 (by omega)
  have e10 : g 1 11 = g 1 10 + ((L 2 1).length : Int) := e 10 (by omega)
  have e11 : g 1 12 = g 1 11 + ((L 2 2).length : Int) := e 11 (by omega)
  have e12 : g 1 13 = g 1 12 + ((L 3 0).length : Int) := e 12 (by omega)
  have e13 : g 1 14 = g 1 13 + ((L 3 3).length : Int) := e 13 (by omega)
  have e14 : g 1 15 = g 1 14 + ((L 3 1).length : Int) := e 14 (by omega)
  have e15 : g 1 16 = g 1 15 + ((L 3 2).length : Int) := e 15 (by omega)
  have eL : lenS L = 0 + ((L 0 0).length : Int) + ((L 0 1).length : Int) + ((L 0 2).length : Int) + ((L 0 3).length : Int) + ((L 1 0).length : Int) + ((L 1 1).length : Int) + ((L 1 2).length : Int) + ((L 1 3).length : Int) + ((L 2 0).length : Int) + ((L 2 1).length : Int) + ((L 2 2).length : Int) + ((L 2 3).length : Int) + ((L 3 0).length : Int) + ((L 3 1).length : Int) + ((L 3 2).length : Int) + ((L 3 3).length : Int) := rfl
  omega
theorem VS_pos {S : StT} (h : VS S) : 0 ≤ sumN (fun k => S.1 (10 + k)) 20 := sumN_nonneg fun k hk => h.2.2.2.2.2.1 k hk
theorem VS_pile {S : StT} (h : VS S) (k : Nat) (hk : k < 20) : 0 ≤ S.1 (10 + k) ∧ S.1 (10 + k) + lenS S.2 ≤ 164 := by
  have h1 := h.2.2.2.2.2.1
  have h2 := sumN_term (f := fun k => S.1 (10 + k)) (n := 20) (k := k) (fun i hi => h1 i hi) hk
  have h3 := h.2.2.2.2.2.2.2.2.2.2.2.2
  exact ⟨h1 k hk, by omega⟩
theorem VS_pl {S : StT} (h : VS S) : pl S < 4 ∧ ((pl S : Nat) : Int) = S.1 1 := by
  have h1 := h.1
  have h2 := h.2.1
  unfold pl
  omega
theorem VS_len {S : StT} (h : VS S) {p w : Nat} (hp : p < 4) (hw : w < 4) : ((S.2 p w).length : Int) ≤ 164 := by
  have h1 := lenS_len S.2 hp hw
  have h2 := VS_pos h
  have h3 := h.2.2.2.2.2.2.2.2.2.2.2.2
  omega
theorem VS_NX {g : GS} {S : StT} (hx : RX g S) (h : VS S) : NX g := by
  obtain ⟨⟨r0, r1, r2, r3, r4, r5, r6, r9, r7, r8, rp, rq⟩, -⟩ := hx
  have hl := VS_len h (p := pl S) (w := 2) (VS_pl h).1 (by omega)
  have hl0 := lenS_nonneg S.2
  have hp := VS_pile h
  obtain ⟨v0, v1, v6, v9, v8, vp, v2, v3, v4, v5, -, -, -⟩ := h
  refine ⟨by omega, by omega, by omega, by omega, by omega, by omega, by omega, by omega, by omega, fun k hk => ?_, fun k hk => ?_⟩
  · rw [rp k hk]
    have := hp k (by omega)
    omega
  · rw [rq k hk]
    have := hp (10 + k) (by omega)
    rw [show 10 + (10 + k) = 20 + k by omega] at this
    omega
theorem VS_kinds {S : StT} (h : VS S) : kindsOk (lx S.2) := fun r hr k hk => by
  have h1 := h.2.2.2.2.2.2.2.2.2.2.1 (r / 4) (wx (r % 4))
  have h2 : (lx S.2 r).getD k 0 ∈ S.2 (r / 4) (wx (r % 4)) := by
    rw [List.getD_eq_getElem?_getD, List.getElem?_eq_getElem hk]
    exact List.getElem_mem hk
  exact h1 _ h2
theorem VS_hand {S : StT} (h : VS S) {k : Nat} (hk : k < (hand S).length) : 0 ≤ (hand S).getD k 0 ∧ (hand S).getD k 0 ≤ 9 := by
  refine h.2.2.2.2.2.2.2.2.2.2.1 (pl S) 1 _ ?_
  rw [List.getD_eq_getElem?_getD, List.getElem?_eq_getElem hk]
  exact List.getElem_mem hk
/-! the answers of the moves, and what they leave -/
def buyO (S : StT) (k : Int) : Int × StT := if ¬ (0 ≤ k ∧ k ≤ 9) then (-1000001, S) else if why S.1 k.toNat ≠ 0 then (-1000002, S) else (S.1 (10 + k.toNat) - 1, buyA S k.toNat)
def playO (S : StT) (i : Int) : Int × StT := if ¬ (0 ≤ i ∧ i < (hand S).length) then (-1000001, S) else if S.1 8 = 1 ∨ (3 ≤ (hand S).getD i.toNat 0 ∧ (hand S).getD i.toNat 0 ≤ 5) ∨ (6 ≤ (hand S).getD i.toNat 0 ∧ S.1 4 ≤ 0) then (-1000002, S) else ((hand S).getD i.toNat 0, playA S i.toNat)
def scrO (S : StT) (i : Int) : Int × StT := if ¬ (0 ≤ i ∧ i < (hand S).length) then (-1000001, S) else if S.1 8 = 1 ∨ S.1 5 ≤ 0 then (-1000002, S) else ((hand S).getD i.toNat 0, scrA S i.toNat)
def endO (S : StT) : Int × StT := if S.1 8 = 1 then (-1000002, S) else ((endA S).1 1, endA S)
def begO (S : StT) (np : Int) : Int × StT := if ¬ (2 ≤ np ∧ np ≤ 4) then (-1000001, S) else (60 - 7 * np, begA S np)
theorem VS_hidx {g : GS} {S : StT} (hx : RX g S) (h : VS S) : (hand S = lx S.2 (4 * pl S + 2)) ∧ g 4 5 = ((pl S : Nat) : Int) ∧ g 1 (4 * pl S + 2 + 1) = g 1 (4 * pl S + 2) + ((hand S).length : Int) ∧ (∀ k : Nat, k < (hand S).length → g 0 ((g 1 (4 * pl S + 2)).toNat + k) = (hand S).getD k 0) := by
  have h1 := VS_pl h
  have e : hand S = lx S.2 (4 * pl S + 2) := (lx_at S.2 (pl S) 2 (by omega)).symm
  refine ⟨e, by rw [hx.1.2.1]; exact h1.2.symm, ?_, ?_⟩
  · rw [e]; exact hx.2.2.1 _ (by omega)
  · rw [e]; exact hx.2.2.2.1 _ (by omega)
