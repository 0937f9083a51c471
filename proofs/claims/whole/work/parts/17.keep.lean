/-! every move keeps what holds of every state -/
def allK (L : LLT) : Prop := ∀ p w : Nat, ∀ x ∈ L p w, 0 ≤ x ∧ x ≤ 9
def outE (np : Int) (L : LLT) : Prop := ∀ p w : Nat, ¬ ((p : Int) < np ∧ w < 4) → L p w = []
theorem allK_ul {L : LLT} {p w : Nat} {x : List Int} (h : allK L) (hx : ∀ y ∈ x, 0 ≤ y ∧ y ≤ 9) : allK (ul L p w x) := by
  intro p' w' y hy
  unfold ul at hy
  split at hy
  · exact hx y hy
  · exact h p' w' y hy
theorem outE_ul {np : Int} {L : LLT} {p w : Nat} {x : List Int} (h : outE np L) (hp : (p : Int) < np) (hw : w < 4) : outE np (ul L p w x) := by
  intro p' w' hn
  unfold ul
  rw [if_neg]
  · exact h p' w' hn
  · rintro ⟨rfl, rfl⟩
    exact hn ⟨hp, hw⟩
theorem mem_getD {l : List Int} {k : Nat} (h : k < l.length) : l.getD k 0 ∈ l := by
  rw [List.getD_eq_getElem?_getD, List.getElem?_eq_getElem h]
  exact List.getElem_mem h
theorem allK_mv {L : LLT} {p w k w' : Nat} (h : allK L) (hk : k < (L p w).length) : allK (mvL L p w k w') := by
  unfold mvL
  refine allK_ul (allK_ul h (fun y hy => h p w y (List.mem_of_mem_eraseIdx hy))) (fun y hy => ?_)
  rcases List.mem_append.mp hy with q | q
  · exact h p w' y q
  · rw [List.mem_singleton.mp q]
    exact h p w _ (mem_getD hk)
theorem outE_mv {np : Int} {L : LLT} {p w k w' : Nat} (h : outE np L) (hp : (p : Int) < np) (hw : w < 4) (hw' : w' < 4) : outE np (mvL L p w k w') := outE_ul (outE_ul h hp hw) hp hw'
theorem allK_flip {L : LLT} {p : Nat} (h : allK L) : allK (flipL L p) := by
  unfold flipL
  split
  · exact allK_ul (allK_ul h (h p 3)) (fun y hy => by cases hy)
  · exact h
theorem outE_flip {np : Int} {L : LLT} {p : Nat} (h : outE np L) (hp : (p : Int) < np) : outE np (flipL L p) := by
  unfold flipL
  split
  · exact outE_ul (outE_ul h hp (by omega)) hp (by omega)
  · exact h
theorem allK_dr {p : Nat} : ∀ (n : Nat) (L : LLT), allK L → allK (dr n L p)
  | 0, _, h => h
  | n + 1, L, h => by
    refine allK_dr n (dr1 L p) ?_
    unfold dr1
    split
    · exact allK_flip h
    · rename_i hq
      exact allK_mv (allK_flip h) (List.length_pos_iff.mpr hq)
theorem outE_dr {np : Int} {p : Nat} (hp : (p : Int) < np) : ∀ (n : Nat) (L : LLT), outE np L → outE np (dr n L p)
  | 0, _, h => h
  | n + 1, L, h => by
    refine outE_dr hp n (dr1 L p) ?_
    unfold dr1
    split
    · exact outE_flip h hp
    · exact outE_mv (outE_flip h hp) hp (by omega) (by omega)
theorem dr_2 {p : Nat} (p' : Nat) : ∀ (n : Nat) (L : LLT), dr n L p p' 2 = L p' 2
  | 0, _ => rfl
  | n + 1, L => by
    show dr n (dr1 L p) p p' 2 = L p' 2
    rw [dr_2 p' n]
    have e : flipL L p p' 2 = L p' 2 := by
      unfold flipL
      split
      · rw [ul_w _ _ (by decide), ul_w _ _ (by decide)]
      · rfl
    unfold dr1
    split
    · exact e
    · unfold mvL
      rw [ul_w _ _ (by decide), ul_w _ _ (by decide)]
      exact e
theorem cuN_keep {a np : Int} (hnp : 2 ≤ np ∧ np ≤ 4) (c0 : Int × LLT) (hc0 : 0 ≤ c0.1) (hk : allK c0.2) (ho : outE np c0.2) : ∀ n : Nat, 0 ≤ (cuN a np n c0).1 ∧ lenS (cuN a np n c0).2 + (cuN a np n c0).1 = lenS c0.2 + c0.1 ∧ allK (cuN a np n c0).2 ∧ outE np (cuN a np n c0).2 ∧ (∀ p' : Nat, (cuN a np n c0).2 p' 2 = c0.2 p' 2)
  | 0 => ⟨hc0, rfl, hk, ho, fun _ => rfl⟩
  | n + 1 => by
    obtain ⟨h1, h2, h3, h4, h5⟩ := cuN_keep hnp c0 hc0 hk ho n
    have hm := (mod_next (x := a + ((n : Int) + 1)) hnp).1
    have e : cuN a np (n + 1) c0 = cu1 (cuN a np n c0) ((a + ((n : Int) + 1)) % np).toNat := rfl
    rw [e]
    obtain ⟨c, hc⟩ : ∃ c, c = cuN a np n c0 := ⟨_, rfl⟩
    rw [← hc] at h1 h2 h3 h4 h5 ⊢
    obtain ⟨q, hq⟩ : ∃ q, q = ((a + ((n : Int) + 1)) % np).toNat := ⟨_, rfl⟩
    rw [← hq]
    have hq4 : q < 4 ∧ (q : Int) < np := by omega
    by_cases hp : 0 < c.1
    · have e2 : cu1 c q = (c.1 - 1, ul c.2 q 3 (c.2 q 3 ++ [5])) := if_pos hp
      rw [e2]
      refine ⟨by show 0 ≤ c.1 - 1; omega, ?_, allK_ul h3 (fun y hy => ?_), outE_ul h4 hq4.2 (by omega), fun p' => by show ul c.2 q 3 (c.2 q 3 ++ [5]) p' 2 = _; rw [ul_w _ _ (by decide)]; exact h5 p'⟩
      · show lenS (ul c.2 q 3 (c.2 q 3 ++ [5])) + (c.1 - 1) = _
        rw [lenS_ul _ _ hq4.1 (by omega), List.length_append, List.length_singleton]
        omega
      · rcases List.mem_append.mp hy with z | z
        · exact h3 q 3 y z
        · rw [List.mem_singleton.mp z]; decide
    · have e2 : cu1 c q = c := if_neg hp
      rw [e2]
      exact ⟨h1, h2, h3, h4, h5⟩
theorem tv_tab (k : Nat) (hk : k < 10) : (0 ≤ tv 0 k) ∧ (0 ≤ tv 1 k ∧ tv 1 k ≤ 3) ∧ (0 ≤ tv 2 k ∧ tv 2 k ≤ 2) ∧ (0 ≤ tv 3 k ∧ tv 3 k ≤ 1) ∧ (0 ≤ tv 4 k ∧ tv 4 k ≤ 1) ∧ (0 ≤ tv 6 k ∧ tv 6 k ≤ 1) ∧ (k < 6 → tv 4 k = 0) := by
  have : ∀ k : Fin 10, (0 ≤ tv 0 k.1) ∧ (0 ≤ tv 1 k.1 ∧ tv 1 k.1 ≤ 3) ∧ (0 ≤ tv 2 k.1 ∧ tv 2 k.1 ≤ 2) ∧ (0 ≤ tv 3 k.1 ∧ tv 3 k.1 ≤ 1) ∧ (0 ≤ tv 4 k.1 ∧ tv 4 k.1 ≤ 1) ∧ (0 ≤ tv 6 k.1 ∧ tv 6 k.1 ≤ 1) ∧ (k.1 < 6 → tv 4 k.1 = 0) := by decide +kernel
  exact this ⟨k, hk⟩
theorem VS_buy {S : StT} (h : VS S) {k : Nat} (hk : k < 10) (hw : why S.1 k = 0) : VS (buyA S k) := by
  have hw1 := why_0 hw
  have hvp := VS_pile h k (by omega)
  have hpl := VS_pl h
  have ht := tv_tab k hk
  obtain ⟨v0, v1, v6, v9, v8, vp, v2, v3, v4, v5, va, vo, vt⟩ := h
  have e : ∀ j : Nat, j ≠ 2 → j ≠ 3 → j ≠ 10 + k → (buyA S k).1 j = S.1 j := fun j h1 h2 h3 => by
    show buS S.1 k j = S.1 j
    unfold buS
    rw [uf_n _ _ h3, uf_n _ _ h2, uf_n _ _ h1]
  have e2 : (buyA S k).1 2 = S.1 2 - tv 0 k := by
    show buS S.1 k 2 = _
    unfold buS
    rw [uf_n _ _ (by omega), uf_n _ _ (by omega), uf_s]
  have e3 : (buyA S k).1 3 = S.1 3 - 1 := by
    show buS S.1 k 3 = _
    unfold buS
    rw [uf_n _ _ (by omega), uf_s]
  have ek : (buyA S k).1 (10 + k) = S.1 (10 + k) - 1 := uf_s _ _ _
  have hpe : pl (buyA S k) = pl S := by unfold pl; rw [e 1 (by omega) (by omega) (by omega)]
  have l2 : (buyA S k).2 (pl S) 2 = S.2 (pl S) 2 := ul_w _ _ (by decide)
  have hfun : (fun j => (buyA S k).1 (10 + j)) = uf (fun j => S.1 (10 + j)) k (S.1 (10 + k) - 1) := by
    funext j
    by_cases hj : j = k
    · subst hj; rw [uf_s]; exact ek
    · rw [uf_n _ _ hj]; exact e _ (by omega) (by omega) (by omega)
  have hp0 := hpl.2
  refine ⟨?_, ?_, ?_, ?_, ?_, fun j hj => ?_, ?_, ?_, ?_, ?_, allK_ul va (fun y hy => ?_), ?_, ?_⟩
  · rw [e 0 (by omega) (by omega) (by omega)]; exact v0
  · rw [e 1 (by omega) (by omega) (by omega), e 0 (by omega) (by omega) (by omega)]; exact v1
  · rw [e 6 (by omega) (by omega) (by omega)]; exact v6
  · rw [e 9 (by omega) (by omega) (by omega)]; exact v9
  · rw [e 8 (by omega) (by omega) (by omega)]; exact v8
  · by_cases hjk : j = k
    · subst hjk; rw [ek]; omega
    · rw [e _ (by omega) (by omega) (by omega)]; exact vp j hj
  · rw [e2, hpe, l2]; omega
  · rw [e3, hpe, l2]; omega
  · rw [e 4 (by omega) (by omega) (by omega), hpe, l2]; exact v4
  · rw [e 5 (by omega) (by omega) (by omega), hpe, l2]; exact v5
  · rcases List.mem_append.mp hy with z | z
    · exact va _ _ y z
    · rw [List.mem_singleton.mp z]; omega
  · rw [e 0 (by omega) (by omega) (by omega)]
    exact outE_ul vo (by omega) (by omega)
  · rw [hfun, sumN_uf, if_pos (by omega)]
    show _ + lenS (ul S.2 (pl S) 3 (S.2 (pl S) 3 ++ [(k : Int)])) = 164
    rw [lenS_ul _ _ (by omega) (by omega), List.length_append, List.length_singleton]
    omega
theorem VS_scr {S : StT} (h : VS S) {i : Nat} (hi : i < (hand S).length) (h5 : 0 < S.1 5) : VS (scrA S i) := by
  have hpl := VS_pl h
  have hhd := VS_hand h hi
  obtain ⟨v0, v1, v6, v9, v8, vp, v2, v3, v4, v5, va, vo, vt⟩ := h
  generalize hkk : ((hand S).getD i 0).toNat = k at *
  have hk : k < 10 := by omega
  have eA : (scrA S i).1 = uf (uf S.1 5 (S.1 5 - 1)) (20 + k) (S.1 (20 + k) + 1) := by
    show uf (uf S.1 5 (S.1 5 - 1)) (20 + ((hand S).getD i 0).toNat) (S.1 (20 + ((hand S).getD i 0).toNat) + 1) = _
    rw [hkk]
  have e : ∀ j : Nat, j ≠ 5 → j ≠ 20 + k → (scrA S i).1 j = S.1 j := fun j h1 h3 => by rw [eA, uf_n _ _ h3, uf_n _ _ h1]
  have e5 : (scrA S i).1 5 = S.1 5 - 1 := by rw [eA, uf_n _ _ (by omega), uf_s]
  have ek : (scrA S i).1 (20 + k) = S.1 (20 + k) + 1 := by rw [eA, uf_s]
  have hpe : pl (scrA S i) = pl S := by unfold pl; rw [e 1 (by omega) (by omega)]
  have l2 : (scrA S i).2 (pl S) 2 = S.2 (pl S) 2 := ul_w _ _ (by decide)
  have hfun : (fun j => (scrA S i).1 (10 + j)) = uf (fun j => S.1 (10 + j)) (10 + k) (S.1 (20 + k) + 1) := by
    funext j
    by_cases hj : j = 10 + k
    · subst hj; rw [uf_s, show 10 + (10 + k) = 20 + k by omega]; exact ek
    · rw [uf_n _ _ hj]; exact e _ (by omega) (by omega)
  have hp0 := hpl.2
  have vk := vp (10 + k) (by omega)
  rw [show 10 + (10 + k) = 20 + k by omega] at vk
  refine ⟨?_, ?_, ?_, ?_, ?_, fun j hj => ?_, ?_, ?_, ?_, ?_, allK_ul va (fun y hy => va _ _ y (List.mem_of_mem_eraseIdx hy)), ?_, ?_⟩
  · rw [e 0 (by omega) (by omega)]; exact v0
  · rw [e 1 (by omega) (by omega), e 0 (by omega) (by omega)]; exact v1
  · rw [e 6 (by omega) (by omega)]; exact v6
  · rw [e 9 (by omega) (by omega)]; exact v9
  · rw [e 8 (by omega) (by omega)]; exact v8
  · by_cases hjk : j = 10 + k
    · subst hjk; rw [show 10 + (10 + k) = 20 + k by omega, ek]; omega
    · rw [e _ (by omega) (by omega)]; exact vp j hj
  · rw [e 2 (by omega) (by omega), hpe, l2]; exact v2
  · rw [e 3 (by omega) (by omega), hpe, l2]; exact v3
  · rw [e 4 (by omega) (by omega), hpe, l2]; exact v4
  · rw [e5, hpe, l2]; omega
  · rw [e 0 (by omega) (by omega)]
    exact outE_ul vo (by omega) (by omega)
  · rw [hfun, sumN_uf, if_pos (by omega)]
    show _ + lenS (ul S.2 (pl S) 1 ((hand S).eraseIdx i)) = 164
    rw [lenS_ul _ _ (by omega) (by omega), len_erase hi]
    show _ + (_ + ((((hand S).length - 1 : Nat) : Int) - ((hand S).length : Int))) = 164
    rw [show 10 + (10 + k) = 20 + k by omega]
    omega
theorem VS_play {S : StT} (h : VS S) {i : Nat} (hi : i < (hand S).length) (hok : (hand S).getD i 0 ≤ 2 ∨ (6 ≤ (hand S).getD i 0 ∧ 0 < S.1 4)) : VS (playA S i) ∧ ((playA S i).2 (pl S) 2).length = (S.2 (pl S) 2).length + 1 ∧ pl (playA S i) = pl S := by
  have hpl := VS_pl h
  have hhd := VS_hand h hi
  have hvp5 := VS_pile h 5 (by omega)
  obtain ⟨v0, v1, v6, v9, v8, vp, v2, v3, v4, v5, va, vo, vt⟩ := h
  generalize hkk : ((hand S).getD i 0).toNat = k at *
  have hk : k < 10 := by omega
  have ht := tv_tab k hk
  obtain ⟨C, hC⟩ : ∃ C, C = plC S i k := ⟨_, rfl⟩
  have eA : playA S i = (plS S.1 k C.1, C.2) := by
    unfold playA
    rw [hkk, hC]
  obtain ⟨Ld, hLd⟩ : ∃ Ld, Ld = dr (tv 2 k).toNat (mvL S.2 (pl S) 1 i 2) (pl S) := ⟨_, rfl⟩
  have hp0 := hpl.2
  have k1 : allK Ld := by rw [hLd]; exact allK_dr _ _ (allK_mv va hi)
  have k2 : outE (S.1 0) Ld := by rw [hLd]; exact outE_dr (by omega) _ _ (outE_mv vo (by omega) (by omega) (by omega))
  have k3 : lenS Ld = lenS S.2 := by rw [hLd, lenS_dr hpl.1, lenS_mvL _ hpl.1 (by omega) (by omega) (by decide) hi]
  have k4 : (Ld (pl S) 2).length = (S.2 (pl S) 2).length + 1 := by
    rw [hLd, dr_2]
    unfold mvL
    rw [ul_s, List.length_append, List.length_singleton]
  have hCk : 0 ≤ C.1 ∧ lenS C.2 + C.1 = lenS Ld + S.1 15 ∧ allK C.2 ∧ outE (S.1 0) C.2 ∧ (∀ p' : Nat, C.2 p' 2 = Ld p' 2) := by
    have := cuN_keep (a := S.1 1) v0 (S.1 15, Ld) hvp5.1 k1 k2 (S.1 0 - 1).toNat
    rw [hC]
    unfold plC
    rw [← hLd]
    split
    · exact this
    · exact ⟨hvp5.1, rfl, k1, k2, fun _ => rfl⟩
  have hhi : ∀ j : Nat, 6 ≤ j → (playA S i).1 j = if j = 15 then C.1 else S.1 j := fun j hj => by rw [eA]; exact plS_hi _ _ _ hj
  have f0 : (playA S i).1 0 = S.1 0 := by rw [eA]; rfl
  have f1 : (playA S i).1 1 = S.1 1 := by rw [eA]; rfl
  have f2 : (playA S i).1 2 = S.1 2 + tv 1 k := by rw [eA]; rfl
  have f3 : (playA S i).1 3 = S.1 3 + tv 3 k := by rw [eA]; rfl
  have f4 : (playA S i).1 4 = S.1 4 - (if 6 ≤ k then 1 else 0) + tv 4 k := by rw [eA]; rfl
  have f5 : (playA S i).1 5 = S.1 5 + tv 6 k := by rw [eA]; rfl
  have hpe : pl (playA S i) = pl S := by unfold pl; rw [f1]
  have l2 : ((playA S i).2 (pl S) 2).length = (S.2 (pl S) 2).length + 1 := by rw [eA]; show (C.2 (pl S) 2).length = _; rw [hCk.2.2.2.2]; exact k4
  have hfun : (fun j => (playA S i).1 (10 + j)) = uf (fun j => S.1 (10 + j)) 5 C.1 := by
    funext j
    rw [hhi _ (by omega)]
    by_cases hj : j = 5
    · subst hj; rw [uf_s, if_pos rfl]
    · rw [uf_n _ _ hj, if_neg (by omega)]
  refine ⟨⟨by rw [f0]; exact v0, by rw [f0, f1]; exact v1, by rw [hhi 6 (by omega)]; exact v6, by rw [hhi 9 (by omega)]; exact v9, by rw [hhi 8 (by omega)]; exact v8, fun j hj => ?_, ?_, ?_, ?_, ?_, ?_, ?_, ?_⟩, l2, hpe⟩
  · rw [hhi _ (by omega)]
    split
    · exact hCk.1
    · exact vp j hj
  · rw [f2, hpe, l2]; omega
  · rw [f3, hpe, l2]; omega
  · rw [f4, hpe, l2]; split <;> omega
  · rw [f5, hpe, l2]; omega
  · rw [eA]; exact hCk.2.2.1
  · rw [f0, eA]; exact hCk.2.2.2.1
  · rw [hfun, sumN_uf, if_pos (by omega), eA]
    show _ + lenS C.2 = 164
    have : S.1 (10 + 5) = S.1 15 := rfl
    omega
theorem VS_end {S : StT} (h : VS S) : VS (endA S) := by
  have hpl := VS_pl h
  obtain ⟨v0, v1, v6, v9, v8, vp, v2, v3, v4, v5, va, vo, vt⟩ := h
  have hp0 := hpl.2
  have hm := mod_next (x := S.1 1 + 1) v0
  have k1 : allK (enL S.2 (pl S)) := by
    unfold enL
    refine allK_ul (allK_ul (allK_ul va (fun y hy => ?_)) (fun y hy => by cases hy)) (fun y hy => by cases hy)
    rcases List.mem_append.mp hy with q | q
    · rcases List.mem_append.mp q with q | q
      · exact va _ _ y q
      · exact va _ _ y q
    · exact va _ _ y q
  have k2 : outE (S.1 0) (enL S.2 (pl S)) := outE_ul (outE_ul (outE_ul vo (by omega) (by omega)) (by omega) (by omega)) (by omega) (by omega)
  have k3 : lenS (enL S.2 (pl S)) = lenS S.2 := by
    unfold enL
    rw [lenS_ul _ _ hpl.1 (by omega), lenS_ul _ _ hpl.1 (by omega), lenS_ul _ _ hpl.1 (by omega), ul_w _ _ (by decide), ul_w _ _ (by decide), ul_w _ _ (by decide), List.length_append, List.length_append]
    simp only [List.length_nil]
    omega
  have hhi : ∀ j : Nat, 9 ≤ j → (endA S).1 j = S.1 j := fun j hj => enS_hi _ hj
  have f0 : (endA S).1 0 = S.1 0 := rfl
  have f1 : (endA S).1 1 = (S.1 1 + 1) % S.1 0 := rfl
  have f6 : (endA S).1 6 = (S.1 6 + S.1 9) % 10 := rfl
  have f8 : (endA S).1 8 = if S.1 14 = 0 ∨ 3 ≤ emp S.1 then 1 else 0 := rfl
  refine ⟨v0, by rw [f0, f1]; exact hm.1, by rw [f6]; omega, by rw [hhi 9 (by omega)]; exact v9, by rw [f8]; split <;> omega, fun j hj => by rw [hhi _ (by omega)]; exact vp j hj, ⟨Int.le_refl _, by show (0 : Int) ≤ _; omega⟩, ⟨by show (0 : Int) ≤ 1; omega, by show (1 : Int) ≤ _; omega⟩, ⟨by show (0 : Int) ≤ 1; omega, by show (1 : Int) ≤ _; omega⟩, ⟨Int.le_refl _, by show (0 : Int) ≤ _; omega⟩, allK_dr _ _ k1, outE_dr (by omega) _ _ k2, ?_⟩
  have hfun : (fun j => (endA S).1 (10 + j)) = fun j => S.1 (10 + j) := by
    funext j
    exact hhi _ (by omega)
  rw [hfun]
  show _ + lenS (dr 5 (enL S.2 (pl S)) (pl S)) = 164
  rw [lenS_dr hpl.1, k3]
  exact vt
theorem VS_beg {S : StT} (h : VS S) {np : Int} (hnp : 2 ≤ np ∧ np ≤ 4) : VS (begA S np) := by
  have v9 := h.2.2.2.1
  have hk : allK (beL np) := by
    intro p w y hy
    unfold beL at hy
    split at hy
    · split at hy
      · simp only [List.mem_cons, List.not_mem_nil, or_false] at hy; omega
      · split at hy
        · simp only [List.mem_cons, List.not_mem_nil, or_false] at hy; omega
        · cases hy
    · cases hy
  have ho : outE np (beL np) := by
    intro p w hn
    unfold beL
    by_cases h1 : (p : Int) < np
    · rw [if_pos h1, if_neg (by omega), if_neg (by omega)]
    · rw [if_neg h1]
  have hc : np = 2 ∨ np = 3 ∨ np = 4 := by omega
  have hp : ∀ j : Nat, j < 20 → 0 ≤ (begA S np).1 (10 + j) := by
    intro j hj
    show 0 ≤ beS S.1 np (10 + j)
    unfold beS
    rw [if_neg (by omega), if_neg (by omega), if_neg (by omega), if_neg (by omega)]
    split
    · omega
    · split
      · omega
      · split
        · rename_i h3 h4 h5
          have : ∀ k : Fin 10, 0 ≤ tv 8 k.1 := by decide +kernel
          have := this ⟨10 + j - 10, by omega⟩
          exact this
        · omega
  refine ⟨hnp, ⟨Int.le_refl _, by show (0 : Int) < np; omega⟩, ⟨Int.le_refl _, by show (0 : Int) ≤ 9; omega⟩, v9, Or.inl rfl, hp, ⟨Int.le_refl _, by show (0 : Int) ≤ _; omega⟩, ⟨by show (0 : Int) ≤ 1; omega, by show (1 : Int) ≤ _; omega⟩, ⟨by show (0 : Int) ≤ 1; omega, by show (1 : Int) ≤ _; omega⟩, ⟨Int.le_refl _, by show (0 : Int) ≤ _; omega⟩, hk, ho, ?_⟩
  rcases hc with rfl | rfl | rfl <;> rfl
