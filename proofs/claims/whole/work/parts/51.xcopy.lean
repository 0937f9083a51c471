/-! ===== copyFrom: two Games ===== -/
def cpW (cI : ClassId) (a1 : Nat → Nat) (g1 : GS) (a0 : Nat → Nat) (g0 : GS) : va_W := gmW cI a1 g1 ++ gmW cI a0 g0
def cpB (D : va_G) (A : Nat → Prop) (s : State) (cI : ClassId) (a1 : Nat → Nat) (g1 : GS) (a0 : Nat → Nat) (g0 : GS) (H : Heap) (locs : List Loc) : Prop := va_P D vwCl (cpW cI a1 g1 a0 g0) H ∧ va_D A (cpW cI a1 g1 a0 g0) ∧ va_S A s.heap H locs
def cpR (g1 g0 : GS) (r n : Nat) : GS := fun a j => if a = r ∧ j < n then g0 r j else g1 a j
theorem cpR_f (g1 g0 : GS) (r n : Nat) : va_cpy (fun j => iN (g0 r j)) (fun j => iN (g1 r j)) 0 0 n = fun j => iN (cpR g1 g0 r n r j) := by
  funext j
  unfold va_cpy cpR
  by_cases hj : j < n
  · rw [if_pos ⟨Nat.zero_le j, by omega⟩, if_pos ⟨rfl, hj⟩, Nat.zero_add, Nat.sub_zero]
  · rw [if_neg (fun q => hj (by omega)), if_neg (fun q => hj q.2)]
theorem cpR_s (g1 g0 : GS) (r n j : Nat) (h : j < n) : cpR g1 g0 r n r j = g0 r j := if_pos ⟨rfl, h⟩
theorem cpR_a (g1 g0 : GS) (r n a j : Nat) (h : a ≠ r) : cpR g1 g0 r n a j = g1 a j := if_neg fun q => h q.1
/-- a copy: what lies within the rows -/
def CE (g1 g0 : GS) : Prop := (∀ j : Nat, j < 164 → g1 0 j = g0 0 j) ∧ (∀ j : Nat, j < 17 → g1 1 j = g0 1 j) ∧ (∀ j : Nat, j < 10 → g1 2 j = g0 2 j) ∧ (∀ j : Nat, j < 10 → g1 3 j = g0 3 j) ∧ (∀ j : Nat, 4 ≤ j → j < 14 → g1 4 j = g0 4 j)
theorem RX_CE {g1 g0 : GS} {S : StT} (h : RX g0 S) (hc : CE g1 g0) : RX g1 S := by
  obtain ⟨⟨r0, r1, r2, r3, r4, r5, r6, r9, r7, r8, rp, rq⟩, hp⟩ := h
  obtain ⟨c0, c1, c2, c3, c4⟩ := hc
  have hm := PX_M hp
  obtain ⟨p0, p1, p2, p3⟩ := hp
  have f : ∀ (j : Nat) (x : Int), 4 ≤ j → j < 14 → g0 4 j = x → g1 4 j = x := fun j x h1 h2 h3 => (c4 j h1 h2).trans h3
  refine ⟨⟨f 4 _ (by decide) (by decide) r0, f 5 _ (by decide) (by decide) r1, f 6 _ (by decide) (by decide) r2, f 7 _ (by decide) (by decide) r3, f 8 _ (by decide) (by decide) r4, f 9 _ (by decide) (by decide) r5, f 10 _ (by decide) (by decide) r6, f 11 _ (by decide) (by decide) r9, f 12 _ (by decide) (by decide) r7, f 13 _ (by decide) (by decide) r8, fun k hk => (c2 k hk).trans (rp k hk), fun k hk => (c3 k hk).trans (rq k hk)⟩, (c1 0 (by decide)).trans p0, fun r hr => ?_, fun r hr k hk => ?_, by rw [c1 16 (by decide)]; exact p3⟩
  · rw [c1 (r + 1) (by omega), c1 r (by omega)]; exact p1 r hr
  · have h1 := p1 r hr
    have h2 := MX_b hm r (by omega)
    have h3 := MX_b hm (r + 1) (by omega)
    rw [c1 r (by omega), c0 _ (by omega)]
    exact p2 r hr k hk
section CPR
variable {p : Program} {l : Launch} {e : Env} {R : Room} {s : State} {m : MethodId} {args : Array Value} {below : List Frame} {meth : Method} {c : Code} {H : Heap} {locs : List Loc} {cells slots : Nat} {Q : State → Prop}
variable {cc : ByteArray} {pc nL : Nat} {ls : Array Slot} {rest : List Value} {D : va_G} {A : Nat → Prop} {cI : ClassId} {a1 a0 : Nat → Nat} {g1 g0 : GS} {own : String} {i : Nat}
theorem cp_s0 (cx : CallFix p m c cc nL s args wsL_law own) (hK : va_K D vwCl [(cI, .int)] s) (hw : cpB D A s cI a1 g1 a0 g0 H locs) (hl : Cond.fieldLink own i "TurningShop$Game" "cards" "[I" ∈ wsL_law) (hdg : decode cc pc = .ok (.getfield i, 3)) (kk : W p l e R s m args below meth c H locs cells slots Q (F0 m (pc + 3) ls (.ref (a0 1) :: rest))) : W p l e R s m args below meth c H locs cells slots Q (F0 m pc ls (.ref (a0 0) :: rest)) := va_get (D := D) (ci := 0) (C := RX0) (T := TX0) (N := 14) cx.1 cx.2.1 cx.2.2.2.2 inlX0 cx.2.2.2.1 hK hw.1 5 (fs := gmF a0 g0) rfl rfl 0 (by decide) (cx.2.2.2.2 _ hl) (fun _ h9 => h9) rfl hdg kk
theorem cp_d0 (cx : CallFix p m c cc nL s args wsL_law own) (hK : va_K D vwCl [(cI, .int)] s) (hw : cpB D A s cI a1 g1 a0 g0 H locs) (hl : Cond.fieldLink own i "TurningShop$Game" "cards" "[I" ∈ wsL_law) (hdg : decode cc pc = .ok (.getfield i, 3)) (kk : W p l e R s m args below meth c H locs cells slots Q (F0 m (pc + 3) ls (.ref (a1 1) :: rest))) : W p l e R s m args below meth c H locs cells slots Q (F0 m pc ls (.ref (a1 0) :: rest)) := va_get (D := D) (ci := 0) (C := RX0) (T := TX0) (N := 14) cx.1 cx.2.1 cx.2.2.2.2 inlX0 cx.2.2.2.1 hK hw.1 0 (fs := gmF a1 g1) rfl rfl 0 (by decide) (cx.2.2.2.2 _ hl) (fun _ h9 => h9) rfl hdg kk
theorem cp_cpy0 (cx : CallFix p m c cc nL s args wsL_law own) (hK : va_K D vwCl [(cI, .int)] s) (hw : cpB D A s cI a1 g1 a0 g0 H locs) {lv : List (Nat × Value)} (hl : lv_has ls nL lv) (ht : tcW own i) (hR : 1 ≤ R.frames ∧ (rest.map fun v => v.category).sum + 18 ≤ R.locals) (hdg : decode cc pc = .ok (.invokestatic i, 3)) (kk : ∀ (g2 : GS) (H1 : Heap) (locs1 : List Loc), g2 = cpR g1 g0 0 164 → cpB D A s cI a1 g2 a0 g0 H1 locs1 → W p l e R s m args below meth c H1 locs1 cells slots Q (F0 m (pc + 3) ls rest)) : W p l e R s m args below meth c H locs cells slots Q (F0 m pc ls (.int (iN 164) :: .int (iN 0) :: .ref (a1 1) :: .int (iN 0) :: .ref (a0 1) :: rest)) := by
  have z1 : ∀ {z : Int} {k : Nat}, z = (k : Int) → k ≤ 164 → ¬ iN z < 0 ∧ (iN z).toNatClampNeg = k := fun h1 h2 => ⟨by rw [← iN_z, iN_lt (by omega) (by omega)]; omega, iN_k (n := 165) h1 (by omega) (by omega)⟩
  have s1 := z1 (z := 0) (k := 0) rfl (by omega)
  have s3 := z1 (z := 164) (k := 164) rfl (by omega)
  refine va_copyi (D := D) cx.1 cx.2.1 (cx.2.2.1.trans hl.1.symm) cx.2.2.2.1 (cx.2.2.2.2 _ ht.1) (cx.2.2.2.2 _ ht.2.1) (cx.2.2.2.2 _ ht.2.2.1) (cx.2.2.2.2 _ ht.2.2.2) hK hw.1 hw.2.1 hw.2.2 6 1 0 0 (c0 := cI) (c1 := cI) (n0 := 164) (n1 := 164) (f := fun j => iN (g0 0 j)) (g := fun j => iN (g1 0 j)) (ty := .int) rfl rfl rfl rfl rfl s1.1 s1.1 s3.1 (by rw [s1.2, s3.2]; omega) (by rw [s1.2, s3.2]; omega) (fun _ _ => rfl) hR.1 hR.2 hdg (fun H1 locs1 hP hD hS => kk _ H1 locs1 rfl ?_)
  rw [s1.2, s3.2, cpR_f] at hP hD
  exact ⟨hP, hD, hS⟩
theorem cp_s1 (cx : CallFix p m c cc nL s args wsL_law own) (hK : va_K D vwCl [(cI, .int)] s) (hw : cpB D A s cI a1 g1 a0 g0 H locs) (hl : Cond.fieldLink own i "TurningShop$Game" "starts" "[I" ∈ wsL_law) (hdg : decode cc pc = .ok (.getfield i, 3)) (kk : W p l e R s m args below meth c H locs cells slots Q (F0 m (pc + 3) ls (.ref (a0 2) :: rest))) : W p l e R s m args below meth c H locs cells slots Q (F0 m pc ls (.ref (a0 0) :: rest)) := va_get (D := D) (ci := 0) (C := RX0) (T := TX0) (N := 14) cx.1 cx.2.1 cx.2.2.2.2 inlX0 cx.2.2.2.1 hK hw.1 5 (fs := gmF a0 g0) rfl rfl 1 (by decide) (cx.2.2.2.2 _ hl) (fun _ h9 => h9) rfl hdg kk
theorem cp_d1 (cx : CallFix p m c cc nL s args wsL_law own) (hK : va_K D vwCl [(cI, .int)] s) (hw : cpB D A s cI a1 g1 a0 g0 H locs) (hl : Cond.fieldLink own i "TurningShop$Game" "starts" "[I" ∈ wsL_law) (hdg : decode cc pc = .ok (.getfield i, 3)) (kk : W p l e R s m args below meth c H locs cells slots Q (F0 m (pc + 3) ls (.ref (a1 2) :: rest))) : W p l e R s m args below meth c H locs cells slots Q (F0 m pc ls (.ref (a1 0) :: rest)) := va_get (D := D) (ci := 0) (C := RX0) (T := TX0) (N := 14) cx.1 cx.2.1 cx.2.2.2.2 inlX0 cx.2.2.2.1 hK hw.1 0 (fs := gmF a1 g1) rfl rfl 1 (by decide) (cx.2.2.2.2 _ hl) (fun _ h9 => h9) rfl hdg kk
theorem cp_cpy1 (cx : CallFix p m c cc nL s args wsL_law own) (hK : va_K D vwCl [(cI, .int)] s) (hw : cpB D A s cI a1 g1 a0 g0 H locs) {lv : List (Nat × Value)} (hl : lv_has ls nL lv) (ht : tcW own i) (hR : 1 ≤ R.frames ∧ (rest.map fun v => v.category).sum + 18 ≤ R.locals) (hdg : decode cc pc = .ok (.invokestatic i, 3)) (kk : ∀ (g2 : GS) (H1 : Heap) (locs1 : List Loc), g2 = cpR g1 g0 1 17 → cpB D A s cI a1 g2 a0 g0 H1 locs1 → W p l e R s m args below meth c H1 locs1 cells slots Q (F0 m (pc + 3) ls rest)) : W p l e R s m args below meth c H locs cells slots Q (F0 m pc ls (.int (iN 17) :: .int (iN 0) :: .ref (a1 2) :: .int (iN 0) :: .ref (a0 2) :: rest)) := by
  have z1 : ∀ {z : Int} {k : Nat}, z = (k : Int) → k ≤ 164 → ¬ iN z < 0 ∧ (iN z).toNatClampNeg = k := fun h1 h2 => ⟨by rw [← iN_z, iN_lt (by omega) (by omega)]; omega, iN_k (n := 165) h1 (by omega) (by omega)⟩
  have s1 := z1 (z := 0) (k := 0) rfl (by omega)
  have s3 := z1 (z := 17) (k := 17) rfl (by omega)
  refine va_copyi (D := D) cx.1 cx.2.1 (cx.2.2.1.trans hl.1.symm) cx.2.2.2.1 (cx.2.2.2.2 _ ht.1) (cx.2.2.2.2 _ ht.2.1) (cx.2.2.2.2 _ ht.2.2.1) (cx.2.2.2.2 _ ht.2.2.2) hK hw.1 hw.2.1 hw.2.2 7 2 0 0 (c0 := cI) (c1 := cI) (n0 := 17) (n1 := 17) (f := fun j => iN (g0 1 j)) (g := fun j => iN (g1 1 j)) (ty := .int) rfl rfl rfl rfl rfl s1.1 s1.1 s3.1 (by rw [s1.2, s3.2]; omega) (by rw [s1.2, s3.2]; omega) (fun _ _ => rfl) hR.1 hR.2 hdg (fun H1 locs1 hP hD hS => kk _ H1 locs1 rfl ?_)
  rw [s1.2, s3.2, cpR_f] at hP hD
  exact ⟨hP, hD, hS⟩
theorem cp_s2 (cx : CallFix p m c cc nL s args wsL_law own) (hK : va_K D vwCl [(cI, .int)] s) (hw : cpB D A s cI a1 g1 a0 g0 H locs) (hl : Cond.fieldLink own i "TurningShop$Game" "piles" "[I" ∈ wsL_law) (hdg : decode cc pc = .ok (.getfield i, 3)) (kk : W p l e R s m args below meth c H locs cells slots Q (F0 m (pc + 3) ls (.ref (a0 3) :: rest))) : W p l e R s m args below meth c H locs cells slots Q (F0 m pc ls (.ref (a0 0) :: rest)) := va_get (D := D) (ci := 0) (C := RX0) (T := TX0) (N := 14) cx.1 cx.2.1 cx.2.2.2.2 inlX0 cx.2.2.2.1 hK hw.1 5 (fs := gmF a0 g0) rfl rfl 2 (by decide) (cx.2.2.2.2 _ hl) (fun _ h9 => h9) rfl hdg kk
theorem cp_d2 (cx : CallFix p m c cc nL s args wsL_law own) (hK : va_K D vwCl [(cI, .int)] s) (hw : cpB D A s cI a1 g1 a0 g0 H locs) (hl : Cond.fieldLink own i "TurningShop$Game" "piles" "[I" ∈ wsL_law) (hdg : decode cc pc = .ok (.getfield i, 3)) (kk : W p l e R s m args below meth c H locs cells slots Q (F0 m (pc + 3) ls (.ref (a1 3) :: rest))) : W p l e R s m args below meth c H locs cells slots Q (F0 m pc ls (.ref (a1 0) :: rest)) := va_get (D := D) (ci := 0) (C := RX0) (T := TX0) (N := 14) cx.1 cx.2.1 cx.2.2.2.2 inlX0 cx.2.2.2.1 hK hw.1 0 (fs := gmF a1 g1) rfl rfl 2 (by decide) (cx.2.2.2.2 _ hl) (fun _ h9 => h9) rfl hdg kk
theorem cp_cpy2 (cx : CallFix p m c cc nL s args wsL_law own) (hK : va_K D vwCl [(cI, .int)] s) (hw : cpB D A s cI a1 g1 a0 g0 H locs) {lv : List (Nat × Value)} (hl : lv_has ls nL lv) (ht : tcW own i) (hR : 1 ≤ R.frames ∧ (rest.map fun v => v.category).sum + 18 ≤ R.locals) (hdg : decode cc pc = .ok (.invokestatic i, 3)) (kk : ∀ (g2 : GS) (H1 : Heap) (locs1 : List Loc), g2 = cpR g1 g0 2 10 → cpB D A s cI a1 g2 a0 g0 H1 locs1 → W p l e R s m args below meth c H1 locs1 cells slots Q (F0 m (pc + 3) ls rest)) : W p l e R s m args below meth c H locs cells slots Q (F0 m pc ls (.int (iN 10) :: .int (iN 0) :: .ref (a1 3) :: .int (iN 0) :: .ref (a0 3) :: rest)) := by
  have z1 : ∀ {z : Int} {k : Nat}, z = (k : Int) → k ≤ 164 → ¬ iN z < 0 ∧ (iN z).toNatClampNeg = k := fun h1 h2 => ⟨by rw [← iN_z, iN_lt (by omega) (by omega)]; omega, iN_k (n := 165) h1 (by omega) (by omega)⟩
  have s1 := z1 (z := 0) (k := 0) rfl (by omega)
  have s3 := z1 (z := 10) (k := 10) rfl (by omega)
  refine va_copyi (D := D) cx.1 cx.2.1 (cx.2.2.1.trans hl.1.symm) cx.2.2.2.1 (cx.2.2.2.2 _ ht.1) (cx.2.2.2.2 _ ht.2.1) (cx.2.2.2.2 _ ht.2.2.1) (cx.2.2.2.2 _ ht.2.2.2) hK hw.1 hw.2.1 hw.2.2 8 3 0 0 (c0 := cI) (c1 := cI) (n0 := 10) (n1 := 10) (f := fun j => iN (g0 2 j)) (g := fun j => iN (g1 2 j)) (ty := .int) rfl rfl rfl rfl rfl s1.1 s1.1 s3.1 (by rw [s1.2, s3.2]; omega) (by rw [s1.2, s3.2]; omega) (fun _ _ => rfl) hR.1 hR.2 hdg (fun H1 locs1 hP hD hS => kk _ H1 locs1 rfl ?_)
  rw [s1.2, s3.2, cpR_f] at hP hD
  exact ⟨hP, hD, hS⟩
theorem cp_s3 (cx : CallFix p m c cc nL s args wsL_law own) (hK : va_K D vwCl [(cI, .int)] s) (hw : cpB D A s cI a1 g1 a0 g0 H locs) (hl : Cond.fieldLink own i "TurningShop$Game" "scrapped" "[I" ∈ wsL_law) (hdg : decode cc pc = .ok (.getfield i, 3)) (kk : W p l e R s m args below meth c H locs cells slots Q (F0 m (pc + 3) ls (.ref (a0 4) :: rest))) : W p l e R s m args below meth c H locs cells slots Q (F0 m pc ls (.ref (a0 0) :: rest)) := va_get (D := D) (ci := 0) (C := RX0) (T := TX0) (N := 14) cx.1 cx.2.1 cx.2.2.2.2 inlX0 cx.2.2.2.1 hK hw.1 5 (fs := gmF a0 g0) rfl rfl 3 (by decide) (cx.2.2.2.2 _ hl) (fun _ h9 => h9) rfl hdg kk
theorem cp_d3 (cx : CallFix p m c cc nL s args wsL_law own) (hK : va_K D vwCl [(cI, .int)] s) (hw : cpB D A s cI a1 g1 a0 g0 H locs) (hl : Cond.fieldLink own i "TurningShop$Game" "scrapped" "[I" ∈ wsL_law) (hdg : decode cc pc = .ok (.getfield i, 3)) (kk : W p l e R s m args below meth c H locs cells slots Q (F0 m (pc + 3) ls (.ref (a1 4) :: rest))) : W p l e R s m args below meth c H locs cells slots Q (F0 m pc ls (.ref (a1 0) :: rest)) := va_get (D := D) (ci := 0) (C := RX0) (T := TX0) (N := 14) cx.1 cx.2.1 cx.2.2.2.2 inlX0 cx.2.2.2.1 hK hw.1 0 (fs := gmF a1 g1) rfl rfl 3 (by decide) (cx.2.2.2.2 _ hl) (fun _ h9 => h9) rfl hdg kk
theorem cp_cpy3 (cx : CallFix p m c cc nL s args wsL_law own) (hK : va_K D vwCl [(cI, .int)] s) (hw : cpB D A s cI a1 g1 a0 g0 H locs) {lv : List (Nat × Value)} (hl : lv_has ls nL lv) (ht : tcW own i) (hR : 1 ≤ R.frames ∧ (rest.map fun v => v.category).sum + 18 ≤ R.locals) (hdg : decode cc pc = .ok (.invokestatic i, 3)) (kk : ∀ (g2 : GS) (H1 : Heap) (locs1 : List Loc), g2 = cpR g1 g0 3 10 → cpB D A s cI a1 g2 a0 g0 H1 locs1 → W p l e R s m args below meth c H1 locs1 cells slots Q (F0 m (pc + 3) ls rest)) : W p l e R s m args below meth c H locs cells slots Q (F0 m pc ls (.int (iN 10) :: .int (iN 0) :: .ref (a1 4) :: .int (iN 0) :: .ref (a0 4) :: rest)) := by
  have z1 : ∀ {z : Int} {k : Nat}, z = (k : Int) → k ≤ 164 → ¬ iN z < 0 ∧ (iN z).toNatClampNeg = k := fun h1 h2 => ⟨by rw [← iN_z, iN_lt (by omega) (by omega)]; omega, iN_k (n := 165) h1 (by omega) (by omega)⟩
  have s1 := z1 (z := 0) (k := 0) rfl (by omega)
  have s3 := z1 (z := 10) (k := 10) rfl (by omega)
  refine va_copyi (D := D) cx.1 cx.2.1 (cx.2.2.1.trans hl.1.symm) cx.2.2.2.1 (cx.2.2.2.2 _ ht.1) (cx.2.2.2.2 _ ht.2.1) (cx.2.2.2.2 _ ht.2.2.1) (cx.2.2.2.2 _ ht.2.2.2) hK hw.1 hw.2.1 hw.2.2 9 4 0 0 (c0 := cI) (c1 := cI) (n0 := 10) (n1 := 10) (f := fun j => iN (g0 3 j)) (g := fun j => iN (g1 3 j)) (ty := .int) rfl rfl rfl rfl rfl s1.1 s1.1 s3.1 (by rw [s1.2, s3.2]; omega) (by rw [s1.2, s3.2]; omega) (fun _ _ => rfl) hR.1 hR.2 hdg (fun H1 locs1 hP hD hS => kk _ H1 locs1 rfl ?_)
  rw [s1.2, s3.2, cpR_f] at hP hD
  exact ⟨hP, hD, hS⟩
theorem cp_g4 (cx : CallFix p m c cc nL s args wsL_law own) (hK : va_K D vwCl [(cI, .int)] s) (hw : cpB D A s cI a1 g1 a0 g0 H locs) (hl : Cond.fieldLink own i "TurningShop$Game" "players" "I" ∈ wsL_law) (hdg : decode cc pc = .ok (.getfield i, 3)) (kk : W p l e R s m args below meth c H locs cells slots Q (F0 m (pc + 3) ls (.int (iN (g0 4 4)) :: rest))) : W p l e R s m args below meth c H locs cells slots Q (F0 m pc ls (.ref (a0 0) :: rest)) := va_get (D := D) (ci := 0) (C := RX0) (T := TX0) (N := 14) cx.1 cx.2.1 cx.2.2.2.2 inlX0 cx.2.2.2.1 hK hw.1 5 (fs := gmF a0 g0) rfl rfl 4 (by decide) (cx.2.2.2.2 _ hl) (fun _ h9 => h9) rfl hdg kk
theorem cp_p4 (cx : CallFix p m c cc nL s args wsL_law own) (hK : va_K D vwCl [(cI, .int)] s) (hw : cpB D A s cI a1 g1 a0 g0 H locs) {v : Int} (hl : Cond.fieldLink own i "TurningShop$Game" "players" "I" ∈ wsL_law) (hdg : decode cc pc = .ok (.putfield i, 3)) (kk : ∀ (g2 : GS) (H1 : Heap) (locs1 : List Loc), g2 = u2 g1 4 4 v → cpB D A s cI a1 g2 a0 g0 H1 locs1 → W p l e R s m args below meth c H1 locs1 cells slots Q (F0 m (pc + 3) ls rest)) : W p l e R s m args below meth c H locs cells slots Q (F0 m pc ls (.int (iN v) :: .ref (a1 0) :: rest)) := va_put (D := D) (ci := 0) (v := .int (iN v)) (ty := .int) (C := RX0) (T := TX0) (N := 14) cx.1 cx.2.1 cx.2.2.2.2 inlX0 tyX0 tyX0_ok nmX0 cx.2.2.2.1 hK hw.1 hw.2.1 hw.2.2 0 (fs := gmF a1 g1) rfl rfl 4 (by decide) (cx.2.2.2.2 _ hl) (fun _ h9 => h9) rfl (by decide +kernel) rfl rfl (Nat.le_of_ble_eq_true rfl) hdg (fun H1 locs1 hP hD hS => kk _ H1 locs1 rfl ⟨hP, hD, hS⟩)
theorem cp_g5 (cx : CallFix p m c cc nL s args wsL_law own) (hK : va_K D vwCl [(cI, .int)] s) (hw : cpB D A s cI a1 g1 a0 g0 H locs) (hl : Cond.fieldLink own i "TurningShop$Game" "player" "I" ∈ wsL_law) (hdg : decode cc pc = .ok (.getfield i, 3)) (kk : W p l e R s m args below meth c H locs cells slots Q (F0 m (pc + 3) ls (.int (iN (g0 4 5)) :: rest))) : W p l e R s m args below meth c H locs cells slots Q (F0 m pc ls (.ref (a0 0) :: rest)) := va_get (D := D) (ci := 0) (C := RX0) (T := TX0) (N := 14) cx.1 cx.2.1 cx.2.2.2.2 inlX0 cx.2.2.2.1 hK hw.1 5 (fs := gmF a0 g0) rfl rfl 5 (by decide) (cx.2.2.2.2 _ hl) (fun _ h9 => h9) rfl hdg kk
theorem cp_p5 (cx : CallFix p m c cc nL s args wsL_law own) (hK : va_K D vwCl [(cI, .int)] s) (hw : cpB D A s cI a1 g1 a0 g0 H locs) {v : Int} (hl : Cond.fieldLink own i "TurningShop$Game" "player" "I" ∈ wsL_law) (hdg : decode cc pc = .ok (.putfield i, 3)) (kk : ∀ (g2 : GS) (H1 : Heap) (locs1 : List Loc), g2 = u2 g1 4 5 v → cpB D A s cI a1 g2 a0 g0 H1 locs1 → W p l e R s m args below meth c H1 locs1 cells slots Q (F0 m (pc + 3) ls rest)) : W p l e R s m args below meth c H locs cells slots Q (F0 m pc ls (.int (iN v) :: .ref (a1 0) :: rest)) := va_put (D := D) (ci := 0) (v := .int (iN v)) (ty := .int) (C := RX0) (T := TX0) (N := 14) cx.1 cx.2.1 cx.2.2.2.2 inlX0 tyX0 tyX0_ok nmX0 cx.2.2.2.1 hK hw.1 hw.2.1 hw.2.2 0 (fs := gmF a1 g1) rfl rfl 5 (by decide) (cx.2.2.2.2 _ hl) (fun _ h9 => h9) rfl (by decide +kernel) rfl rfl (Nat.le_of_ble_eq_true rfl) hdg (fun H1 locs1 hP hD hS => kk _ H1 locs1 rfl ⟨hP, hD, hS⟩)
theorem cp_g6 (cx : CallFix p m c cc nL s args wsL_law own) (hK : va_K D vwCl [(cI, .int)] s) (hw : cpB D A s cI a1 g1 a0 g0 H locs) (hl : Cond.fieldLink own i "TurningShop$Game" "coins" "I" ∈ wsL_law) (hdg : decode cc pc = .ok (.getfield i, 3)) (kk : W p l e R s m args below meth c H locs cells slots Q (F0 m (pc + 3) ls (.int (iN (g0 4 6)) :: rest))) : W p l e R s m args below meth c H locs cells slots Q (F0 m pc ls (.ref (a0 0) :: rest)) := va_get (D := D) (ci := 0) (C := RX0) (T := TX0) (N := 14) cx.1 cx.2.1 cx.2.2.2.2 inlX0 cx.2.2.2.1 hK hw.1 5 (fs := gmF a0 g0) rfl rfl 6 (by decide) (cx.2.2.2.2 _ hl) (fun _ h9 => h9) rfl hdg kk
theorem cp_p6 (cx : CallFix p m c cc nL s args wsL_law own) (hK : va_K D vwCl [(cI, .int)] s) (hw : cpB D A s cI a1 g1 a0 g0 H locs) {v : Int} (hl : Cond.fieldLink own i "TurningShop$Game" "coins" "I" ∈ wsL_law) (hdg : decode cc pc = .ok (.putfield i, 3)) (kk : ∀ (g2 : GS) (H1 : Heap) (locs1 : List Loc), g2 = u2 g1 4 6 v → cpB D A s cI a1 g2 a0 g0 H1 locs1 → W p l e R s m args below meth c H1 locs1 cells slots Q (F0 m (pc + 3) ls rest)) : W p l e R s m args below meth c H locs cells slots Q (F0 m pc ls (.int (iN v) :: .ref (a1 0) :: rest)) := va_put (D := D) (ci := 0) (v := .int (iN v)) (ty := .int) (C := RX0) (T := TX0) (N := 14) cx.1 cx.2.1 cx.2.2.2.2 inlX0 tyX0 tyX0_ok nmX0 cx.2.2.2.1 hK hw.1 hw.2.1 hw.2.2 0 (fs := gmF a1 g1) rfl rfl 6 (by decide) (cx.2.2.2.2 _ hl) (fun _ h9 => h9) rfl (by decide +kernel) rfl rfl (Nat.le_of_ble_eq_true rfl) hdg (fun H1 locs1 hP hD hS => kk _ H1 locs1 rfl ⟨hP, hD, hS⟩)
theorem cp_g7 (cx : CallFix p m c cc nL s args wsL_law own) (hK : va_K D vwCl [(cI, .int)] s) (hw : cpB D A s cI a1 g1 a0 g0 H locs) (hl : Cond.fieldLink own i "TurningShop$Game" "buys" "I" ∈ wsL_law) (hdg : decode cc pc = .ok (.getfield i, 3)) (kk : W p l e R s m args below meth c H locs cells slots Q (F0 m (pc + 3) ls (.int (iN (g0 4 7)) :: rest))) : W p l e R s m args below meth c H locs cells slots Q (F0 m pc ls (.ref (a0 0) :: rest)) := va_get (D := D) (ci := 0) (C := RX0) (T := TX0) (N := 14) cx.1 cx.2.1 cx.2.2.2.2 inlX0 cx.2.2.2.1 hK hw.1 5 (fs := gmF a0 g0) rfl rfl 7 (by decide) (cx.2.2.2.2 _ hl) (fun _ h9 => h9) rfl hdg kk
theorem cp_p7 (cx : CallFix p m c cc nL s args wsL_law own) (hK : va_K D vwCl [(cI, .int)] s) (hw : cpB D A s cI a1 g1 a0 g0 H locs) {v : Int} (hl : Cond.fieldLink own i "TurningShop$Game" "buys" "I" ∈ wsL_law) (hdg : decode cc pc = .ok (.putfield i, 3)) (kk : ∀ (g2 : GS) (H1 : Heap) (locs1 : List Loc), g2 = u2 g1 4 7 v → cpB D A s cI a1 g2 a0 g0 H1 locs1 → W p l e R s m args below meth c H1 locs1 cells slots Q (F0 m (pc + 3) ls rest)) : W p l e R s m args below meth c H locs cells slots Q (F0 m pc ls (.int (iN v) :: .ref (a1 0) :: rest)) := va_put (D := D) (ci := 0) (v := .int (iN v)) (ty := .int) (C := RX0) (T := TX0) (N := 14) cx.1 cx.2.1 cx.2.2.2.2 inlX0 tyX0 tyX0_ok nmX0 cx.2.2.2.1 hK hw.1 hw.2.1 hw.2.2 0 (fs := gmF a1 g1) rfl rfl 7 (by decide) (cx.2.2.2.2 _ hl) (fun _ h9 => h9) rfl (by decide +kernel) rfl rfl (Nat.le_of_ble_eq_true rfl) hdg (fun H1 locs1 hP hD hS => kk _ H1 locs1 rfl ⟨hP, hD, hS⟩)
theorem cp_g8 (cx : CallFix p m c cc nL s args wsL_law own) (hK : va_K D vwCl [(cI, .int)] s) (hw : cpB D A s cI a1 g1 a0 g0 H locs) (hl : Cond.fieldLink own i "TurningShop$Game" "actions" "I" ∈ wsL_law) (hdg : decode cc pc = .ok (.getfield i, 3)) (kk : W p l e R s m args below meth c H locs cells slots Q (F0 m (pc + 3) ls (.int (iN (g0 4 8)) :: rest))) : W p l e R s m args below meth c H locs cells slots Q (F0 m pc ls (.ref (a0 0) :: rest)) := va_get (D := D) (ci := 0) (C := RX0) (T := TX0) (N := 14) cx.1 cx.2.1 cx.2.2.2.2 inlX0 cx.2.2.2.1 hK hw.1 5 (fs := gmF a0 g0) rfl rfl 8 (by decide) (cx.2.2.2.2 _ hl) (fun _ h9 => h9) rfl hdg kk
theorem cp_p8 (cx : CallFix p m c cc nL s args wsL_law own) (hK : va_K D vwCl [(cI, .int)] s) (hw : cpB D A s cI a1 g1 a0 g0 H locs) {v : Int} (hl : Cond.fieldLink own i "TurningShop$Game" "actions" "I" ∈ wsL_law) (hdg : decode cc pc = .ok (.putfield i, 3)) (kk : ∀ (g2 : GS) (H1 : Heap) (locs1 : List Loc), g2 = u2 g1 4 8 v → cpB D A s cI a1 g2 a0 g0 H1 locs1 → W p l e R s m args below meth c H1 locs1 cells slots Q (F0 m (pc + 3) ls rest)) : W p l e R s m args below meth c H locs cells slots Q (F0 m pc ls (.int (iN v) :: .ref (a1 0) :: rest)) := va_put (D := D) (ci := 0) (v := .int (iN v)) (ty := .int) (C := RX0) (T := TX0) (N := 14) cx.1 cx.2.1 cx.2.2.2.2 inlX0 tyX0 tyX0_ok nmX0 cx.2.2.2.1 hK hw.1 hw.2.1 hw.2.2 0 (fs := gmF a1 g1) rfl rfl 8 (by decide) (cx.2.2.2.2 _ hl) (fun _ h9 => h9) rfl (by decide +kernel) rfl rfl (Nat.le_of_ble_eq_true rfl) hdg (fun H1 locs1 hP hD hS => kk _ H1 locs1 rfl ⟨hP, hD, hS⟩)
theorem cp_g9 (cx : CallFix p m c cc nL s args wsL_law own) (hK : va_K D vwCl [(cI, .int)] s) (hw : cpB D A s cI a1 g1 a0 g0 H locs) (hl : Cond.fieldLink own i "TurningShop$Game" "scraps" "I" ∈ wsL_law) (hdg : decode cc pc = .ok (.getfield i, 3)) (kk : W p l e R s m args below meth c H locs cells slots Q (F0 m (pc + 3) ls (.int (iN (g0 4 9)) :: rest))) : W p l e R s m args below meth c H locs cells slots Q (F0 m pc ls (.ref (a0 0) :: rest)) := va_get (D := D) (ci := 0) (C := RX0) (T := TX0) (N := 14) cx.1 cx.2.1 cx.2.2.2.2 inlX0 cx.2.2.2.1 hK hw.1 5 (fs := gmF a0 g0) rfl rfl 9 (by decide) (cx.2.2.2.2 _ hl) (fun _ h9 => h9) rfl hdg kk
theorem cp_p9 (cx : CallFix p m c cc nL s args wsL_law own) (hK : va_K D vwCl [(cI, .int)] s) (hw : cpB D A s cI a1 g1 a0 g0 H locs) {v : Int} (hl : Cond.fieldLink own i "TurningShop$Game" "scraps" "I" ∈ wsL_law) (hdg : decode cc pc = .ok (.putfield i, 3)) (kk : ∀ (g2 : GS) (H1 : Heap) (locs1 : List Loc), g2 = u2 g1 4 9 v → cpB D A s cI a1 g2 a0 g0 H1 locs1 → W p l e R s m args below meth c H1 locs1 cells slots Q (F0 m (pc + 3) ls rest)) : W p l e R s m args below meth c H locs cells slots Q (F0 m pc ls (.int (iN v) :: .ref (a1 0) :: rest)) := va_put (D := D) (ci := 0) (v := .int (iN v)) (ty := .int) (C := RX0) (T := TX0) (N := 14) cx.1 cx.2.1 cx.2.2.2.2 inlX0 tyX0 tyX0_ok nmX0 cx.2.2.2.1 hK hw.1 hw.2.1 hw.2.2 0 (fs := gmF a1 g1) rfl rfl 9 (by decide) (cx.2.2.2.2 _ hl) (fun _ h9 => h9) rfl (by decide +kernel) rfl rfl (Nat.le_of_ble_eq_true rfl) hdg (fun H1 locs1 hP hD hS => kk _ H1 locs1 rfl ⟨hP, hD, hS⟩)
theorem cp_g10 (cx : CallFix p m c cc nL s args wsL_law own) (hK : va_K D vwCl [(cI, .int)] s) (hw : cpB D A s cI a1 g1 a0 g0 H locs) (hl : Cond.fieldLink own i "TurningShop$Game" "rowFirst" "I" ∈ wsL_law) (hdg : decode cc pc = .ok (.getfield i, 3)) (kk : W p l e R s m args below meth c H locs cells slots Q (F0 m (pc + 3) ls (.int (iN (g0 4 10)) :: rest))) : W p l e R s m args below meth c H locs cells slots Q (F0 m pc ls (.ref (a0 0) :: rest)) := va_get (D := D) (ci := 0) (C := RX0) (T := TX0) (N := 14) cx.1 cx.2.1 cx.2.2.2.2 inlX0 cx.2.2.2.1 hK hw.1 5 (fs := gmF a0 g0) rfl rfl 10 (by decide) (cx.2.2.2.2 _ hl) (fun _ h9 => h9) rfl hdg kk
theorem cp_p10 (cx : CallFix p m c cc nL s args wsL_law own) (hK : va_K D vwCl [(cI, .int)] s) (hw : cpB D A s cI a1 g1 a0 g0 H locs) {v : Int} (hl : Cond.fieldLink own i "TurningShop$Game" "rowFirst" "I" ∈ wsL_law) (hdg : decode cc pc = .ok (.putfield i, 3)) (kk : ∀ (g2 : GS) (H1 : Heap) (locs1 : List Loc), g2 = u2 g1 4 10 v → cpB D A s cI a1 g2 a0 g0 H1 locs1 → W p l e R s m args below meth c H1 locs1 cells slots Q (F0 m (pc + 3) ls rest)) : W p l e R s m args below meth c H locs cells slots Q (F0 m pc ls (.int (iN v) :: .ref (a1 0) :: rest)) := va_put (D := D) (ci := 0) (v := .int (iN v)) (ty := .int) (C := RX0) (T := TX0) (N := 14) cx.1 cx.2.1 cx.2.2.2.2 inlX0 tyX0 tyX0_ok nmX0 cx.2.2.2.1 hK hw.1 hw.2.1 hw.2.2 0 (fs := gmF a1 g1) rfl rfl 10 (by decide) (cx.2.2.2.2 _ hl) (fun _ h9 => h9) rfl (by decide +kernel) rfl rfl (Nat.le_of_ble_eq_true rfl) hdg (fun H1 locs1 hP hD hS => kk _ H1 locs1 rfl ⟨hP, hD, hS⟩)
theorem cp_g11 (cx : CallFix p m c cc nL s args wsL_law own) (hK : va_K D vwCl [(cI, .int)] s) (hw : cpB D A s cI a1 g1 a0 g0 H locs) (hl : Cond.fieldLink own i "TurningShop$Game" "setting" "I" ∈ wsL_law) (hdg : decode cc pc = .ok (.getfield i, 3)) (kk : W p l e R s m args below meth c H locs cells slots Q (F0 m (pc + 3) ls (.int (iN (g0 4 11)) :: rest))) : W p l e R s m args below meth c H locs cells slots Q (F0 m pc ls (.ref (a0 0) :: rest)) := va_get (D := D) (ci := 0) (C := RX0) (T := TX0) (N := 14) cx.1 cx.2.1 cx.2.2.2.2 inlX0 cx.2.2.2.1 hK hw.1 5 (fs := gmF a0 g0) rfl rfl 11 (by decide) (cx.2.2.2.2 _ hl) (fun _ h9 => h9) rfl hdg kk
theorem cp_p11 (cx : CallFix p m c cc nL s args wsL_law own) (hK : va_K D vwCl [(cI, .int)] s) (hw : cpB D A s cI a1 g1 a0 g0 H locs) {v : Int} (hl : Cond.fieldLink own i "TurningShop$Game" "setting" "I" ∈ wsL_law) (hdg : decode cc pc = .ok (.putfield i, 3)) (kk : ∀ (g2 : GS) (H1 : Heap) (locs1 : List Loc), g2 = u2 g1 4 11 v → cpB D A s cI a1 g2 a0 g0 H1 locs1 → W p l e R s m args below meth c H1 locs1 cells slots Q (F0 m (pc + 3) ls rest)) : W p l e R s m args below meth c H locs cells slots Q (F0 m pc ls (.int (iN v) :: .ref (a1 0) :: rest)) := va_put (D := D) (ci := 0) (v := .int (iN v)) (ty := .int) (C := RX0) (T := TX0) (N := 14) cx.1 cx.2.1 cx.2.2.2.2 inlX0 tyX0 tyX0_ok nmX0 cx.2.2.2.1 hK hw.1 hw.2.1 hw.2.2 0 (fs := gmF a1 g1) rfl rfl 11 (by decide) (cx.2.2.2.2 _ hl) (fun _ h9 => h9) rfl (by decide +kernel) rfl rfl (Nat.le_of_ble_eq_true rfl) hdg (fun H1 locs1 hP hD hS => kk _ H1 locs1 rfl ⟨hP, hD, hS⟩)
theorem cp_g12 (cx : CallFix p m c cc nL s args wsL_law own) (hK : va_K D vwCl [(cI, .int)] s) (hw : cpB D A s cI a1 g1 a0 g0 H locs) (hl : Cond.fieldLink own i "TurningShop$Game" "endedTurns" "I" ∈ wsL_law) (hdg : decode cc pc = .ok (.getfield i, 3)) (kk : W p l e R s m args below meth c H locs cells slots Q (F0 m (pc + 3) ls (.int (iN (g0 4 12)) :: rest))) : W p l e R s m args below meth c H locs cells slots Q (F0 m pc ls (.ref (a0 0) :: rest)) := va_get (D := D) (ci := 0) (C := RX0) (T := TX0) (N := 14) cx.1 cx.2.1 cx.2.2.2.2 inlX0 cx.2.2.2.1 hK hw.1 5 (fs := gmF a0 g0) rfl rfl 12 (by decide) (cx.2.2.2.2 _ hl) (fun _ h9 => h9) rfl hdg kk
theorem cp_p12 (cx : CallFix p m c cc nL s args wsL_law own) (hK : va_K D vwCl [(cI, .int)] s) (hw : cpB D A s cI a1 g1 a0 g0 H locs) {v : Int} (hl : Cond.fieldLink own i "TurningShop$Game" "endedTurns" "I" ∈ wsL_law) (hdg : decode cc pc = .ok (.putfield i, 3)) (kk : ∀ (g2 : GS) (H1 : Heap) (locs1 : List Loc), g2 = u2 g1 4 12 v → cpB D A s cI a1 g2 a0 g0 H1 locs1 → W p l e R s m args below meth c H1 locs1 cells slots Q (F0 m (pc + 3) ls rest)) : W p l e R s m args below meth c H locs cells slots Q (F0 m pc ls (.int (iN v) :: .ref (a1 0) :: rest)) := va_put (D := D) (ci := 0) (v := .int (iN v)) (ty := .int) (C := RX0) (T := TX0) (N := 14) cx.1 cx.2.1 cx.2.2.2.2 inlX0 tyX0 tyX0_ok nmX0 cx.2.2.2.1 hK hw.1 hw.2.1 hw.2.2 0 (fs := gmF a1 g1) rfl rfl 12 (by decide) (cx.2.2.2.2 _ hl) (fun _ h9 => h9) rfl (by decide +kernel) rfl rfl (Nat.le_of_ble_eq_true rfl) hdg (fun H1 locs1 hP hD hS => kk _ H1 locs1 rfl ⟨hP, hD, hS⟩)
theorem cp_g13 (cx : CallFix p m c cc nL s args wsL_law own) (hK : va_K D vwCl [(cI, .int)] s) (hw : cpB D A s cI a1 g1 a0 g0 H locs) (hl : Cond.fieldLink own i "TurningShop$Game" "over" "Z" ∈ wsL_law) (hdg : decode cc pc = .ok (.getfield i, 3)) (kk : W p l e R s m args below meth c H locs cells slots Q (F0 m (pc + 3) ls (.int (iN (g0 4 13)) :: rest))) : W p l e R s m args below meth c H locs cells slots Q (F0 m pc ls (.ref (a0 0) :: rest)) := va_get (D := D) (ci := 0) (C := RX0) (T := TX0) (N := 14) cx.1 cx.2.1 cx.2.2.2.2 inlX0 cx.2.2.2.1 hK hw.1 5 (fs := gmF a0 g0) rfl rfl 13 (by decide) (cx.2.2.2.2 _ hl) (fun _ h9 => h9) rfl hdg kk
theorem cp_p13 (cx : CallFix p m c cc nL s args wsL_law own) (hK : va_K D vwCl [(cI, .int)] s) (hw : cpB D A s cI a1 g1 a0 g0 H locs) {v : Int} (hz : v = 0 ∨ v = 1) (hl : Cond.fieldLink own i "TurningShop$Game" "over" "Z" ∈ wsL_law) (hdg : decode cc pc = .ok (.putfield i, 3)) (kk : ∀ (g2 : GS) (H1 : Heap) (locs1 : List Loc), g2 = u2 g1 4 13 v → cpB D A s cI a1 g2 a0 g0 H1 locs1 → W p l e R s m args below meth c H1 locs1 cells slots Q (F0 m (pc + 3) ls rest)) : W p l e R s m args below meth c H locs cells slots Q (F0 m pc ls (.int (iN v) :: .ref (a1 0) :: rest)) := va_put (D := D) (ci := 0) (v := .int (iN v)) (ty := .boolean) (C := RX0) (T := TX0) (N := 14) cx.1 cx.2.1 cx.2.2.2.2 inlX0 tyX0 tyX0_ok nmX0 cx.2.2.2.1 hK hw.1 hw.2.1 hw.2.2 0 (fs := gmF a1 g1) rfl rfl 13 (by decide) (cx.2.2.2.2 _ hl) (fun _ h9 => h9) rfl (by decide +kernel) (by rcases hz with rfl | rfl <;> rfl) (by rcases hz with rfl | rfl <;> rfl) (Nat.le_of_ble_eq_true rfl) hdg (fun H1 locs1 hP hD hS => kk _ H1 locs1 rfl ⟨hP, hD, hS⟩)
end CPR
set_option maxHeartbeats 4000000 in
set_option maxRecDepth 100000 in
/-- all of one Game goes to another -/
theorem c_X0_copyFrom (l : Launch) (g1 g0 : GS) (hz13 : g0 4 13 = 0 ∨ g0 4 13 = 1) (D : va_G) (cI : ClassId) (a1 a0 : Nat → Nat) (sz : Nat) : Met l yX0_copyFrom (wU yX0_copyFrom cX0_copyFrom 2 none) ({ frames := 1, cells := 0, slots := 0, locals := 60 } : Room) (va_Pc [.ref (a1 0), .ref (a0 0)] (fun U => U.heap.size = sz ∧ va_P D vwCl (cpW cI a1 g1 a0 g0) U.heap ∧ va_K D vwCl [(cI, .int)] U ∧ va_D (fun _ => True) (cpW cI a1 g1 a0 g0))) (va_Qv (fun g2 : GS => CE g2 g0) (fun g2 t => va_P D vwCl (cpW cI a1 g2 a0 g0) t.heap ∧ va_D (va_A (cpW cI a1 g1 a0 g0) sz) (cpW cI a1 g2 a0 g0)) (va_A (cpW cI a1 g1 a0 g0) sz)) 0 0 (va_A (cpW cI a1 g1 a0 g0) sz) := by
  refine Met.ofW (cc := cX0_copyFrom) (maxL := 2) (ret := none) (by decide) rfl ?_
  intro p e s m args below meth c s₁ B hml hv
  obtain ⟨rfl, hsz, hP, hK, hD0⟩ := hv
  have hts := atoms_spec (ws := wU yX0_copyFrom cX0_copyFrom 2 none) B.pre
  have hr := B.returns
  have hlocks := B.notSynchronized
  subst hsz
  have hD := hD0.self (sz := s.heap.size)
  generalize hAe : va_A (cpW cI a1 g1 a0 g0) s.heap.size = A at hD ⊢
  have hl := lv_entry ([.ref (a1 0), .ref (a0 0)]) (n := 2) (Nat.le_of_ble_eq_true rfl)
  rw [lg_entry_eq]
  generalize (lg_sl ([.ref (a1 0), .ref (a0 0)]) ++ List.replicate (2 - (lg_sl ([.ref (a1 0), .ref (a0 0)])).length) Slot.unset).toArray = ls at hl ⊢
  have hl : lv_has ls 2 [(0, .ref (a1 0)), (1, .ref (a0 0))] := hl
  have cx : CallFix p m c cX0_copyFrom 2 s _ wsL_law RX0 := ⟨B.exec, B.bytes, hml, findClass_of_methodNamed B.named, fun w hw => hts w (List.mem_cons_of_mem _ hw)⟩
  have hx := cx.1
  have hb := cx.2.1
  have hw : cpB D A s cI a1 g1 a0 g0 s.heap [] := ⟨hP, hD, va_S.rf⟩
  refine lv_aload_n hx hb dX0_copyFrom_0 rfl (lv_at hl 1 rfl) ?_
  refine cp_s0 cx hK hw tl_RX0_9 dX0_copyFrom_1 ?_
  refine ts_iconst (n := 0) hx hb dX0_copyFrom_4 ?_
  refine lv_aload_n hx hb dX0_copyFrom_5 rfl (lv_at hl 0 rfl) ?_
  refine cp_d0 cx hK hw tl_RX0_9 dX0_copyFrom_6 ?_
  refine ts_iconst (n := 0) hx hb dX0_copyFrom_9 ?_
  refine ts_sipush (n := 164) hx hb dX0_copyFrom_10 (by decide) ?_
  refine cp_cpy0 cx hK hw hl tc_RX0 ⟨Nat.le_of_ble_eq_true rfl, Nat.le_of_ble_eq_true rfl⟩ dX0_copyFrom_13 (fun h0 H locs e0 hw => ?_)
  refine lv_aload_n hx hb dX0_copyFrom_16 rfl (lv_at hl 1 rfl) ?_
  refine cp_s1 cx hK hw tl_RX0_15 dX0_copyFrom_17 ?_
  refine ts_iconst (n := 0) hx hb dX0_copyFrom_20 ?_
  refine lv_aload_n hx hb dX0_copyFrom_21 rfl (lv_at hl 0 rfl) ?_
  refine cp_d1 cx hK hw tl_RX0_15 dX0_copyFrom_22 ?_
  refine ts_iconst (n := 0) hx hb dX0_copyFrom_25 ?_
  refine ts_bipush (n := 17) hx hb dX0_copyFrom_26 (by decide) ?_
  refine cp_cpy1 cx hK hw hl tc_RX0 ⟨Nat.le_of_ble_eq_true rfl, Nat.le_of_ble_eq_true rfl⟩ dX0_copyFrom_28 (fun h1 H locs e1 hw => ?_)
  refine lv_aload_n hx hb dX0_copyFrom_31 rfl (lv_at hl 1 rfl) ?_
  refine cp_s2 cx hK hw tl_RX0_18 dX0_copyFrom_32 ?_
  refine ts_iconst (n := 0) hx hb dX0_copyFrom_35 ?_
  refine lv_aload_n hx hb dX0_copyFrom_36 rfl (lv_at hl 0 rfl) ?_
  refine cp_d2 cx hK hw tl_RX0_18 dX0_copyFrom_37 ?_
  refine ts_iconst (n := 0) hx hb dX0_copyFrom_40 ?_
  refine ts_bipush (n := 10) hx hb dX0_copyFrom_41 (by decide) ?_
  refine cp_cpy2 cx hK hw hl tc_RX0 ⟨Nat.le_of_ble_eq_true rfl, Nat.le_of_ble_eq_true rfl⟩ dX0_copyFrom_43 (fun h2 H locs e2 hw => ?_)
  refine lv_aload_n hx hb dX0_copyFrom_46 rfl (lv_at hl 1 rfl) ?_
  refine cp_s3 cx hK hw tl_RX0_21 dX0_copyFrom_47 ?_
  refine ts_iconst (n := 0) hx hb dX0_copyFrom_50 ?_
  refine lv_aload_n hx hb dX0_copyFrom_51 rfl (lv_at hl 0 rfl) ?_
  refine cp_d3 cx hK hw tl_RX0_21 dX0_copyFrom_52 ?_
  refine ts_iconst (n := 0) hx hb dX0_copyFrom_55 ?_
  refine ts_bipush (n := 10) hx hb dX0_copyFrom_56 (by decide) ?_
  refine cp_cpy3 cx hK hw hl tc_RX0 ⟨Nat.le_of_ble_eq_true rfl, Nat.le_of_ble_eq_true rfl⟩ dX0_copyFrom_58 (fun h3 H locs e3 hw => ?_)
  refine lv_aload_n hx hb dX0_copyFrom_61 rfl (lv_at hl 0 rfl) ?_
  refine lv_aload_n hx hb dX0_copyFrom_62 rfl (lv_at hl 1 rfl) ?_
  refine cp_g4 cx hK hw tl_RX0_30 dX0_copyFrom_63 ?_
  refine cp_p4 cx hK hw tl_RX0_30 dX0_copyFrom_66 (fun h4 H locs e4 hw => ?_)
  refine lv_aload_n hx hb dX0_copyFrom_69 rfl (lv_at hl 0 rfl) ?_
  refine lv_aload_n hx hb dX0_copyFrom_70 rfl (lv_at hl 1 rfl) ?_
  refine cp_g5 cx hK hw tl_RX0_34 dX0_copyFrom_71 ?_
  refine cp_p5 cx hK hw tl_RX0_34 dX0_copyFrom_74 (fun h5 H locs e5 hw => ?_)
  refine lv_aload_n hx hb dX0_copyFrom_77 rfl (lv_at hl 0 rfl) ?_
  refine lv_aload_n hx hb dX0_copyFrom_78 rfl (lv_at hl 1 rfl) ?_
  refine cp_g6 cx hK hw tl_RX0_37 dX0_copyFrom_79 ?_
  refine cp_p6 cx hK hw tl_RX0_37 dX0_copyFrom_82 (fun h6 H locs e6 hw => ?_)
  refine lv_aload_n hx hb dX0_copyFrom_85 rfl (lv_at hl 0 rfl) ?_
  refine lv_aload_n hx hb dX0_copyFrom_86 rfl (lv_at hl 1 rfl) ?_
  refine cp_g7 cx hK hw tl_RX0_40 dX0_copyFrom_87 ?_
  refine cp_p7 cx hK hw tl_RX0_40 dX0_copyFrom_90 (fun h7 H locs e7 hw => ?_)
  refine lv_aload_n hx hb dX0_copyFrom_93 rfl (lv_at hl 0 rfl) ?_
  refine lv_aload_n hx hb dX0_copyFrom_94 rfl (lv_at hl 1 rfl) ?_
  refine cp_g8 cx hK hw tl_RX0_43 dX0_copyFrom_95 ?_
  refine cp_p8 cx hK hw tl_RX0_43 dX0_copyFrom_98 (fun h8 H locs e8 hw => ?_)
  refine lv_aload_n hx hb dX0_copyFrom_101 rfl (lv_at hl 0 rfl) ?_
  refine lv_aload_n hx hb dX0_copyFrom_102 rfl (lv_at hl 1 rfl) ?_
  refine cp_g9 cx hK hw tl_RX0_46 dX0_copyFrom_103 ?_
  refine cp_p9 cx hK hw tl_RX0_46 dX0_copyFrom_106 (fun h9 H locs e9 hw => ?_)
  refine lv_aload_n hx hb dX0_copyFrom_109 rfl (lv_at hl 0 rfl) ?_
  refine lv_aload_n hx hb dX0_copyFrom_110 rfl (lv_at hl 1 rfl) ?_
  refine cp_g10 cx hK hw tl_RX0_49 dX0_copyFrom_111 ?_
  refine cp_p10 cx hK hw tl_RX0_49 dX0_copyFrom_114 (fun h10 H locs e10 hw => ?_)
  refine lv_aload_n hx hb dX0_copyFrom_117 rfl (lv_at hl 0 rfl) ?_
  refine lv_aload_n hx hb dX0_copyFrom_118 rfl (lv_at hl 1 rfl) ?_
  refine cp_g11 cx hK hw tl_RX0_52 dX0_copyFrom_119 ?_
  refine cp_p11 cx hK hw tl_RX0_52 dX0_copyFrom_122 (fun h11 H locs e11 hw => ?_)
  refine lv_aload_n hx hb dX0_copyFrom_125 rfl (lv_at hl 0 rfl) ?_
  refine lv_aload_n hx hb dX0_copyFrom_126 rfl (lv_at hl 1 rfl) ?_
  refine cp_g12 cx hK hw tl_RX0_55 dX0_copyFrom_127 ?_
  refine cp_p12 cx hK hw tl_RX0_55 dX0_copyFrom_130 (fun h12 H locs e12 hw => ?_)
  refine lv_aload_n hx hb dX0_copyFrom_133 rfl (lv_at hl 0 rfl) ?_
  refine lv_aload_n hx hb dX0_copyFrom_134 rfl (lv_at hl 1 rfl) ?_
  refine cp_g13 cx hK hw tl_RX0_58 dX0_copyFrom_135 ?_
  refine cp_p13 cx hK hw hz13 tl_RX0_58 dX0_copyFrom_138 (fun h13 H locs e13 hw => ?_)
  have hc : CE h13 g0 := by
    have f0 : ∀ a j : Nat, a ≠ 4 → h13 a j = h3 a j := fun a j ha => by
      rw [e13, u2_a _ ha, e12, u2_a _ ha, e11, u2_a _ ha, e10, u2_a _ ha, e9, u2_a _ ha, e8, u2_a _ ha, e7, u2_a _ ha, e6, u2_a _ ha, e5, u2_a _ ha, e4, u2_a _ ha]
    refine ⟨fun j hj => ?_, fun j hj => ?_, fun j hj => ?_, fun j hj => ?_, fun j hj hj2 => ?_⟩
    · rw [f0 _ _ (by decide), e3, cpR_a _ _ _ _ _ _ (by decide), e2, cpR_a _ _ _ _ _ _ (by decide), e1, cpR_a _ _ _ _ _ _ (by decide), e0, cpR_s _ _ _ _ _ hj]
    · rw [f0 _ _ (by decide), e3, cpR_a _ _ _ _ _ _ (by decide), e2, cpR_a _ _ _ _ _ _ (by decide), e1, cpR_s _ _ _ _ _ hj]
    · rw [f0 _ _ (by decide), e3, cpR_a _ _ _ _ _ _ (by decide), e2, cpR_s _ _ _ _ _ hj]
    · rw [f0 _ _ (by decide), e3, cpR_s _ _ _ _ _ hj]
    · rw [e13, u2_4, e12, u2_4, e11, u2_4, e10, u2_4, e9, u2_4, e8, u2_4, e7, u2_4, e6, u2_4, e5, u2_4, e4, u2_4]
      rcases (show j = 4 ∨ j = 5 ∨ j = 6 ∨ j = 7 ∨ j = 8 ∨ j = 9 ∨ j = 10 ∨ j = 11 ∨ j = 12 ∨ j = 13 by omega) with rfl | rfl | rfl | rfl | rfl | rfl | rfl | rfl | rfl | rfl <;> rfl
  exact W.vret hx hb hr (fun t ht hW => ⟨⟨h13, rfl, hc, by rw [ht]; exact hw.1, hw.2.1⟩, hw.2.2.F ht⟩) hw.2.2.2.2 dX0_copyFrom_141 hlocks
set_option maxHeartbeats 4000000 in
set_option maxRecDepth 100000 in
/-- the spare Game is a copy of now's -/
theorem c_X1_copyOfNow (l : Launch) (g : XS) (h13 : g 0 4 13 = 0 ∨ g 0 4 13 = 1) : xmMq l yX1_copyOfNow (wU yX1_copyOfNow cX1_copyOfNow 1 (some (.object "TurningShop$Game"))) ({ frames := 2, cells := 0, slots := 0, locals := 81 } : Room) [] g (fun g2 => ∃ x : GS, g2 = ux g 1 x ∧ CE x (g 0)) := by
  refine xmMq_of (by decide) (Nat.le_of_ble_eq_true rfl) ?_
  intro p e s m args below meth c D ci tb ad ga A ls cx hr hlocks hK hA hT hw hl
  have hx := cx.1
  have hb := cx.2.1
  have hl : lv_has ls 1 [(0, .ref (ad 0))] := hl
  refine lv_aload_n hx hb dX1_copyOfNow_0 rfl (lv_at hl 0 rfl) ?_
  refine xp_get1 cx hK hw tl_RX1_16 dX1_copyOfNow_1 ?_
  refine lv_aload_n hx hb dX1_copyOfNow_4 rfl (lv_at hl 0 rfl) ?_
  refine xp_get0 cx hK hw tl_RX1_10 dX1_copyOfNow_5 ?_
  have hPc : va_P D vwCl (cpW (ci 0) (ga 1) (g 1) (ga 0) (g 0)) s.heap := hw.1.sub [8, 9, 10, 11, 12, 3, 4, 5, 6, 7] rfl
  have hDc : va_D A (cpW (ci 0) (ga 1) (g 1) (ga 0) (g 0)) := hw.2.1.sub [8, 9, 10, 11, 12, 3, 4, 5, 6, 7] (by decide) rfl
  have hFc := va_free (wc := cpW (ci 0) (ga 1) (g 1) (ga 0) (g 0)) hw.2.1 hw.2.2 hA [8, 9, 10, 11, 12, 3, 4, 5, 6, 7] rfl
  have hg1 : gmB D A s (ci 0) (ga 1) (g 1) s.heap [] := xg_B 1 (by decide) hw
  refine va_callv (va_runV (g := F0 m 8 ls [.ref (ga 0 0), .ref (ga 1 0)]) (As := [.ref (ga 0 0)]) (rest := []) cx (c_X0_copyFrom l (g 1) (g 0) h13 D (ci 0) (ga 1) (ga 0) s.heap.size) (cwV 1 cx.2.2.2.2 tg_RX1_169 rfl rfl rfl ⟨rfl, by decide, by decide, by decide +kernel⟩ ⟨Nat.le_of_ble_eq_true rfl, Nat.le_of_ble_eq_true rfl⟩) ⟨fun a U gf mk q => by obtain ⟨q0, q1, qP, qK, qD⟩ := q; exact ⟨q0, q1, qP, va_K.moved (u := U) (U := U.calling gf mk a) (Vm.Alike.refl U.vm) qK, qD⟩, va_recv (xm_K0 hK) hg1.1 (ci := 0) (q0 := 0) rfl rfl, fun U hU hW => ⟨rfl, by rw [hU], by rw [hU]; exact hPc, va_K.moved hW.alike (xm_K0 hK), hDc.weaken (fun _ _ _ _ => trivial)⟩⟩ rfl rfl hl.1 rfl (lv_room (Nat.le_of_ble_eq_true rfl)) dX1_copyOfNow_8 ⟨Nat.le_of_ble_eq_true rfl, Nat.le_of_ble_eq_true rfl⟩) hw.2.2 (fun q _ h => hFc q h) hFc (fun x t H1 locs1 ht hvm hq hB hz1 hk1 hS => ?_)
  obtain ⟨hP1, hD1⟩ := hB
  rw [ht] at hP1
  obtain ⟨hP2, hD2⟩ := va_join (wr := xmO ci ad (ga 0 0) (ga 1 0) (rh ga) (g 6) ++ (gmW (ci 0) (ga 2) (g 2) ++ (gmW (ci 0) (ga 3) (g 3) ++ (gmW (ci 0) (ga 4) (g 4) ++ gmW (ci 0) (ga 5) (g 5))))) (w1 := cpW (ci 0) (ga 1) x (ga 0) (g 0)) hw.1 hw.2.1 [8, 9, 10, 11, 12, 3, 4, 5, 6, 7] [0, 1, 2, 13, 14, 15, 16, 17, 18, 19, 20, 21, 22, 23, 24, 25, 26, 27, 28, 29, 30, 31, 32] rfl rfl (by decide) (by decide) hk1 hFc hP1 hD1
  have hw : xmB D A s ci ad ga (ux g 1 x) H1 locs1 := ⟨hP2.sub [0, 1, 2, 28, 29, 30, 31, 32, 23, 24, 25, 26, 27, 3, 4, 5, 6, 7, 8, 9, 10, 11, 12, 13, 14, 15, 16, 17, 18, 19, 20, 21, 22] rfl, hD2.sub [0, 1, 2, 28, 29, 30, 31, 32, 23, 24, 25, 26, 27, 3, 4, 5, 6, 7, 8, 9, 10, 11, 12, 13, 14, 15, 16, 17, 18, 19, 20, 21, 22] (by decide) rfl, hS⟩
  refine lv_aload_n hx hb dX1_copyOfNow_11 rfl (lv_at hl 0 rfl) ?_
  refine xp_get1 cx hK hw tl_RX1_16 dX1_copyOfNow_12 ?_
  exact xm_aret cx hr hlocks hw ⟨x, rfl, hq⟩ dX1_copyOfNow_15
