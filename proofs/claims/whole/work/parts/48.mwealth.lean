theorem wo_cq : ∀ (l : List Int), (∀ x ∈ l, 0 ≤ x ∧ x ≤ 9) → sumN (fun k => tv 1 k * cq k l) 10 = lsum (fun x => tv 1 x.toNat) l ∧ 0 ≤ lsum (fun x => tv 1 x.toNat) l ∧ lsum (fun x => tv 1 x.toNat) l ≤ 3 * cq 10 l ∧ cq 10 l = l.length
  | [], _ => ⟨by decide +kernel, Int.le_refl _, by decide, rfl⟩
  | a :: t, h => by
    have h1 := wo_cq t (fun x hx => h x (List.mem_cons_of_mem _ hx))
    have h2 := h a List.mem_cons_self
    have e : ∀ k : Fin 10, tv 1 k.1 = 1 * (if (k.1 : Int) = 0 then 1 else 0) + 2 * (if (k.1 : Int) = 1 then 1 else 0) + 3 * (if (k.1 : Int) = 2 then 1 else 0) + (if (k.1 : Int) = 7 then 1 else 0) ∧ 0 ≤ tv 1 k.1 ∧ tv 1 k.1 ≤ 3 := by decide +kernel
    have e2 := e ⟨a.toNat, by omega⟩
    simp only [show ((a.toNat : Nat) : Int) = a by omega] at e2
    have u : ∀ f : Nat → Int, sumN (fun k => tv 1 k * f k) 10 = f 0 + 2 * f 1 + 3 * f 2 + f 7 := fun f => by
      show 0 + 1 * f 0 + 2 * f 1 + 3 * f 2 + 0 * f 3 + 0 * f 4 + 0 * f 5 + 0 * f 6 + 1 * f 7 + 0 * f 8 + 0 * f 9 = _
      omega
    have w : ∀ k : Int, cq k (a :: t) = (if k = 10 ∨ a = k then 1 else 0) + cq k t := fun _ => rfl
    have h3 := h1.1
    rw [u (fun k => cq k t)] at h3
    have w0 := w 0
    have w1 := w 1
    have w2 := w 2
    have w7 := w 7
    have w10 := w 10
    rw [if_pos (Or.inl rfl)] at w10
    have hs : lsum (fun x => tv 1 x.toNat) (a :: t) = tv 1 a.toNat + lsum (fun x => tv 1 x.toNat) t := rfl
    refine ⟨?_, ?_, ?_, ?_⟩
    · rw [u (fun k => cq k (a :: t))]
      show cq 0 (a :: t) + 2 * cq 1 (a :: t) + 3 * cq 2 (a :: t) + cq 7 (a :: t) = _
      rw [w0, w1, w2, w7, hs, e2.1]
      have h4 : cq 0 t + 2 * cq 1 t + 3 * cq 2 t + cq 7 t = lsum (fun x => tv 1 x.toNat) t := h3
      (repeat' split) <;> omega
    · rw [hs]; omega
    · rw [hs, w10]; omega
    · rw [w10, h1.2.2.2, List.length_cons]; omega
