/-! the whole state: now; the history (how many, which); the text (how long, which) -/
abbrev TT : Type := StT × ((Nat × (Nat → StT)) × (Nat × (Nat → Int)))
def VT (T : TT) : Prop := VS T.1 ∧ T.2.1.1 ≤ 4 ∧ (∀ b : Nat, b < T.2.1.1 → VS (T.2.1.2 b)) ∧ T.2.2.1 ≤ 60 ∧ (∀ j : Nat, j < T.2.2.1 → 32 ≤ T.2.2.2 j ∧ T.2.2.2 j ≤ 126)
def pushN (n : Nat) : Nat := if n = 4 then 4 else n + 1
def pushH (n : Nat) (Hs : Nat → StT) (S : StT) : Nat → StT := fun b => if n = 4 then (if b = 3 then S else Hs (b + 1)) else (if b = n then S else Hs b)
/-- a change, or an error, which changes nothing -/
def stepT (T : TT) (O : Int × StT) : TT := if O.1 < 0 then T else (O.2, (pushN T.2.1.1, pushH T.2.1.1 T.2.1.2 T.1), T.2.2)
def setO (S : StT) (what v : Int) : Int × StT := if what ≠ 0 ∨ ¬ (0 ≤ v ∧ v ≤ 9) then (-1000001, S) else (S.1 9, (uf S.1 9 v, S.2))
def alikeO (S : StT) (t : Int) : Int × StT := if ¬ (1 ≤ t ∧ t ≤ 20) then (-1000001, S) else if S.1 8 = 1 then (-1000002, S) else goesA t.toNat S
def undoT (T : TT) : Int × TT := if T.2.1.1 = 0 then (-1000002, T) else ((T.2.1.1 : Int) - 1, (T.2.1.2 (T.2.1.1 - 1), (T.2.1.1 - 1, T.2.1.2), T.2.2))
def typeT (T : TT) (ch : Int) : Int × TT := if ¬ (32 ≤ ch ∧ ch ≤ 126) then (-1000001, T) else if T.2.2.1 = 60 then (-1000003, T) else ((T.2.2.1 : Int) + 1, (T.1, T.2.1, (T.2.2.1 + 1, uf T.2.2.2 T.2.2.1 ch)))
def clearT (T : TT) : Int × TT := ((T.2.2.1 : Int), (T.1, T.2.1, (0, T.2.2.2)))
theorem VT_step {T : TT} (h : VT T) {O : Int × StT} (hO : ¬ O.1 < 0 → VS O.2) : VT (stepT T O) := by
  unfold stepT
  by_cases hn : O.1 < 0
  · rw [if_pos hn]; exact h
  · rw [if_neg hn]
    refine ⟨hO hn, ?_, fun b hb => ?_, h.2.2.2.1, h.2.2.2.2⟩
    · show pushN T.2.1.1 ≤ 4
      have := h.2.1
      unfold pushN
      split <;> omega
    · show VS (pushH T.2.1.1 T.2.1.2 T.1 b)
      have hb2 : b < pushN T.2.1.1 := hb
      have h4 := h.2.1
      unfold pushN at hb2
      unfold pushH
      split
      · rename_i e
        rw [if_pos e] at hb2
        split
        · exact h.1
        · exact h.2.2.1 (b + 1) (by omega)
      · rename_i e
        rw [if_neg e] at hb2
        split
        · exact h.1
        · exact h.2.2.1 b (by omega)
theorem VT_undo {T : TT} (h : VT T) : VT (undoT T).2 := by
  unfold undoT
  split
  · exact h
  · exact ⟨h.2.2.1 _ (by omega), by show T.2.1.1 - 1 ≤ 4; have := h.2.1; omega, fun b hb => h.2.2.1 b (by have : b < T.2.1.1 - 1 := hb; omega), h.2.2.2.1, h.2.2.2.2⟩
theorem VT_type {T : TT} (h : VT T) (ch : Int) : VT (typeT T ch).2 := by
  have h60 := h.2.2.2.1
  unfold typeT
  split
  · exact h
  · split
    · exact h
    · refine ⟨h.1, h.2.1, h.2.2.1, by show T.2.2.1 + 1 ≤ 60; omega, fun j hj => ?_⟩
      show 32 ≤ uf T.2.2.2 T.2.2.1 ch j ∧ uf T.2.2.2 T.2.2.1 ch j ≤ 126
      have hj2 : j < T.2.2.1 + 1 := hj
      by_cases e : j = T.2.2.1
      · rw [e, uf_s]; omega
      · rw [uf_n _ _ e]; exact h.2.2.2.2 j (by omega)
theorem VT_clear {T : TT} (h : VT T) : VT (clearT T).2 := ⟨h.1, h.2.1, h.2.2.1, by show 0 ≤ 60; omega, fun j hj => by have : j < 0 := hj; omega⟩
theorem VS_set {S : StT} (h : VS S) {v : Int} (hv : 0 ≤ v ∧ v ≤ 9) : VS (uf S.1 9 v, S.2) := by
  obtain ⟨v0, v1, v6, v9, v8, vp, v2, v3, v4, v5, va, vo, vt⟩ := h
  have e : ∀ j : Nat, j ≠ 9 → uf S.1 9 v j = S.1 j := fun j hj => uf_n _ _ hj
  have hp : pl (uf S.1 9 v, S.2) = pl S := by unfold pl; show (uf S.1 9 v 1).toNat = _; rw [e 1 (by decide)]
  have hf : (fun k => uf S.1 9 v (10 + k)) = fun k => S.1 (10 + k) := by funext k; exact e _ (by omega)
  refine ⟨by show 2 ≤ uf S.1 9 v 0 ∧ uf S.1 9 v 0 ≤ 4; rw [e 0 (by decide)]; exact v0, by show 0 ≤ uf S.1 9 v 1 ∧ uf S.1 9 v 1 < uf S.1 9 v 0; rw [e 1 (by decide), e 0 (by decide)]; exact v1, by show 0 ≤ uf S.1 9 v 6 ∧ uf S.1 9 v 6 ≤ 9; rw [e 6 (by decide)]; exact v6, by show 0 ≤ uf S.1 9 v 9 ∧ uf S.1 9 v 9 ≤ 9; rw [uf_s]; exact hv, by show uf S.1 9 v 8 = 0 ∨ uf S.1 9 v 8 = 1; rw [e 8 (by decide)]; exact v8, fun k hk => by show 0 ≤ uf S.1 9 v (10 + k); rw [e _ (by omega)]; exact vp k hk, ?_, ?_, ?_, ?_, va, ?_, ?_⟩
  · rw [hp]; show 0 ≤ uf S.1 9 v 2 ∧ uf S.1 9 v 2 ≤ _; rw [e 2 (by decide)]; exact v2
  · rw [hp]; show 0 ≤ uf S.1 9 v 3 ∧ uf S.1 9 v 3 ≤ _; rw [e 3 (by decide)]; exact v3
  · rw [hp]; show 0 ≤ uf S.1 9 v 4 ∧ uf S.1 9 v 4 ≤ _; rw [e 4 (by decide)]; exact v4
  · rw [hp]; show 0 ≤ uf S.1 9 v 5 ∧ uf S.1 9 v 5 ≤ _; rw [e 5 (by decide)]; exact v5
  · intro p w; show ¬ ((p : Int) < uf S.1 9 v 0 ∧ w < 4) → _; rw [e 0 (by decide)]; exact vo p w
  · show sumN (fun k => uf S.1 9 v (10 + k)) 20 + lenS S.2 = 164
    rw [hf]; exact vt
/-- every move's state keeps what holds -/
theorem VS_ops {S : StT} (h : VS S) : (∀ i, VS (playO S i).2) ∧ (∀ k, VS (buyO S k).2) ∧ (∀ i, VS (scrO S i).2) ∧ VS (endO S).2 ∧ (∀ np, VS (begO S np).2) ∧ (∀ t, VS (alikeO S t).2) ∧ (∀ w v, VS (setO S w v).2) := by
  refine ⟨fun i => ?_, fun k => ?_, fun i => ?_, ?_, fun np => ?_, fun t => ?_, fun w v => ?_⟩
  · unfold playO
    split
    · exact h
    · rename_i h1
      split
      · exact h
      · rename_i h2
        exact (VS_play h (i := i.toNat) (by omega) (by omega)).1
  · unfold buyO
    split
    · exact h
    · rename_i h1
      split
      · exact h
      · rename_i h2
        exact VS_buy h (by omega) (by omega)
  · unfold scrO
    split
    · exact h
    · rename_i h1
      split
      · exact h
      · rename_i h2
        exact VS_scr h (i := i.toNat) (by omega) (by omega)
  · unfold endO
    split
    · exact h
    · exact VS_end h
  · unfold begO
    split
    · exact h
    · rename_i h1
      exact VS_beg h (by omega)
  · unfold alikeO
    split
    · exact h
    · split
      · exact h
      · exact (VS_goes _ S h).1
  · unfold setO
    split
    · exact h
    · rename_i h1
      exact VS_set h (by omega)
/-! the model's whole picture -/
def blk (g : GS) (b : Nat) : GS := fun _ j => g 2 (2670 * b + j)
def FM (g : GS) (T : TT) : Prop := RM g T.1 ∧ g 4 3 = (T.2.1.1 : Int) ∧ (∀ b : Nat, b < T.2.1.1 → RM (blk g b) (T.2.1.2 b)) ∧ g 4 5 = (T.2.2.1 : Int) ∧ (∀ j : Nat, j < T.2.2.1 → g 3 j = T.2.2.2 j)
def KN (g1 g : GS) (n : Nat) : Prop := g1 0 = g 0 ∧ g1 1 = g 1 ∧ g1 3 = g 3 ∧ (∀ j : Nat, g1 4 j = if j = 3 then (pushN n : Int) else g 4 j) ∧ (∀ b k : Nat, b + 1 < pushN n → k < 2670 → g1 2 (2670 * b + k) = g 2 (2670 * (b + (if n = 4 then 1 else 0)) + k)) ∧ (∀ k : Nat, k < 2670 → g1 2 (2670 * (pushN n - 1) + k) = g 0 k)
theorem FM_step {g g1 g2 : GS} {T : TT} {O : Int × StT} (hf : FM g T) (h4 : T.2.1.1 ≤ 4) (hk : KN g1 g T.2.1.1) (hO : ¬ O.1 < 0) (hr : RM g2 O.2) (he : ME g2 g1) : FM g2 (stepT T O) := by
  unfold stepT
  rw [if_neg hO]
  obtain ⟨k0, k1, k3, k4, kb, kn⟩ := hk
  obtain ⟨f1, f2, f3, f4, f5⟩ := hf
  have e4 : ∀ j, g2 4 j = g1 4 j := fun j => congrFun he.2.2.2 j
  have e3 : ∀ j, g2 3 j = g1 3 j := fun j => congrFun he.2.2.1 j
  have e2 : ∀ j, g2 2 j = g1 2 j := fun j => congrFun he.2.1 j
  refine ⟨hr, ?_, fun b hb => ?_, ?_, fun j hj => ?_⟩
  · rw [e4, k4, if_pos rfl]
  · show RM (blk g2 b) (pushH T.2.1.1 T.2.1.2 T.1 b)
    have hb2 : b < pushN T.2.1.1 := hb
    by_cases hl : b + 1 = pushN T.2.1.1
    · have e : pushH T.2.1.1 T.2.1.2 T.1 b = T.1 := by
        unfold pushH
        unfold pushN at hl
        split at hl
        · rename_i q; rw [if_pos q, if_pos (by omega)]
        · rename_i q; rw [if_neg q, if_pos (by omega)]
      rw [e]
      refine RM_of f1 (fun j hj => ?_)
      show g2 2 (2670 * b + j) = g 0 j
      rw [e2, show b = pushN T.2.1.1 - 1 by omega]
      exact kn j hj
    · have hr2 : RM (blk g (b + (if T.2.1.1 = 4 then 1 else 0))) (T.2.1.2 (b + (if T.2.1.1 = 4 then 1 else 0))) := f3 _ (by unfold pushN at hb2 hl; split at hb2 <;> split <;> simp_all <;> omega)
      have e : pushH T.2.1.1 T.2.1.2 T.1 b = T.2.1.2 (b + (if T.2.1.1 = 4 then 1 else 0)) := by
        unfold pushH
        unfold pushN at hl hb2
        by_cases q : T.2.1.1 = 4
        · rw [if_pos q] at hl hb2 ⊢; rw [if_neg (by omega), if_pos q]
        · rw [if_neg q] at hl hb2 ⊢; rw [if_neg (by omega), if_neg q]; rfl
      rw [e]
      refine RM_of hr2 (fun j hj => ?_)
      show g2 2 (2670 * b + j) = g 2 (2670 * (b + (if T.2.1.1 = 4 then 1 else 0)) + j)
      rw [e2]
      exact kb b j (by omega) hj
  · rw [e4, k4, if_neg (by decide)]; exact f4
  · rw [e3, k3]; exact f5 j hj
theorem FM_err {g : GS} {T : TT} {O : Int × StT} (hf : FM g T) (hO : O.1 < 0) : FM g (stepT T O) := by
  unfold stepT
  rw [if_pos hO]
  exact hf
theorem FM_keep {g g1 : GS} {T : TT} (hf : FM g T) (h0 : RM g1 T.1) (h2 : g1 2 = g 2) (h3 : g1 3 = g 3) (h4 : g1 4 3 = g 4 3 ∧ g1 4 5 = g 4 5) : FM g1 T := by
  obtain ⟨f1, f2, f3, f4, f5⟩ := hf
  refine ⟨h0, by rw [h4.1]; exact f2, fun b hb => RM_of (f3 b hb) (fun j _ => by show g1 2 _ = g 2 _; rw [h2]), by rw [h4.2]; exact f4, fun j hj => by rw [h3]; exact f5 j hj⟩
