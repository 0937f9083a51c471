/-! sums, updates, the picture of a Game -/
def sumN (f : Nat → Int) : Nat → Int
  | 0 => 0
  | n + 1 => sumN f n + f n
theorem sumN_s {f : Nat → Int} {a b : Nat} (h : a = b + 1) : sumN f a = sumN f b + f b := by subst h; rfl
theorem sumN_congr {f g : Nat → Int} : ∀ {n : Nat}, (∀ i, i < n → f i = g i) → sumN f n = sumN g n
  | 0, _ => rfl
  | n + 1, h => by
    show sumN f n + f n = sumN g n + g n
    rw [sumN_congr (fun i hi => h i (by omega)), h n (by omega)]
theorem sumN_nonneg {f : Nat → Int} : ∀ {n : Nat}, (∀ i, i < n → 0 ≤ f i) → 0 ≤ sumN f n
  | 0, _ => Int.le_refl _
  | n + 1, h => by
    show 0 ≤ sumN f n + f n
    have := sumN_nonneg (f := f) (n := n) (fun i hi => h i (by omega))
    have := h n (by omega)
    omega
theorem sumN_le {f : Nat → Int} {c : Int} : ∀ {n : Nat}, (∀ i, i < n → f i ≤ c) → sumN f n ≤ n * c
  | 0, _ => by simp [sumN]
  | n + 1, h => by
    show sumN f n + f n ≤ _
    have h1 := sumN_le (f := f) (n := n) (c := c) (fun i hi => h i (by omega))
    have h2 := h n (by omega)
    have h3 : ((n + 1 : Nat) : Int) * c = n * c + c := by rw [Int.natCast_add, Int.add_mul]; omega
    omega
theorem sumN_ge {f : Nat → Int} {c : Int} : ∀ {n : Nat}, (∀ i, i < n → c ≤ f i) → n * c ≤ sumN f n
  | 0, _ => by simp [sumN]
  | n + 1, h => by
    show _ ≤ sumN f n + f n
    have h1 := sumN_ge (f := f) (n := n) (c := c) (fun i hi => h i (by omega))
    have h2 := h n (by omega)
    have h3 : ((n + 1 : Nat) : Int) * c = n * c + c := by rw [Int.natCast_add, Int.add_mul]; omega
    omega
theorem sumN_add (f : Nat → Int) (a : Nat) : ∀ b : Nat, sumN f (a + b) = sumN f a + sumN (fun i => f (a + i)) b
  | 0 => by simp [sumN]
  | b + 1 => by
    show sumN f (a + b) + f (a + b) = _
    rw [sumN_add f a b]
    show _ = sumN f a + (sumN (fun i => f (a + i)) b + f (a + b))
    omega
def uf (f : Nat → Int) (k : Nat) (v : Int) : Nat → Int := fun j => if j = k then v else f j
theorem uf_s (f : Nat → Int) (k : Nat) (v : Int) : uf f k v k = v := if_pos rfl
theorem uf_n (f : Nat → Int) {k j : Nat} (v : Int) (h : j ≠ k) : uf f k v j = f j := if_neg h
theorem sumN_uf (f : Nat → Int) (k : Nat) (v : Int) : ∀ n : Nat, sumN (uf f k v) n = sumN f n + (if k < n then v - f k else 0)
  | 0 => by simp [sumN]
  | n + 1 => by
    show sumN (uf f k v) n + uf f k v n = sumN f n + f n + _
    rw [sumN_uf f k v n]
    by_cases h : n = k
    · subst h
      rw [uf_s, if_neg (by omega), if_pos (by omega)]
      omega
    · rw [uf_n f v h]
      by_cases h2 : k < n
      · rw [if_pos h2, if_pos (by omega)]; omega
      · rw [if_neg h2, if_neg (by omega)]; omega
/-- the borders of a Game's parts rise, to 164 at most -/
def MX (g : GS) : Prop := g 1 0 = 0 ∧ (∀ r : Nat, r < 16 → g 1 r ≤ g 1 (r + 1)) ∧ g 1 16 ≤ 164
theorem MX_le {g : GS} (h : MX g) {a : Nat} : ∀ {b : Nat}, a ≤ b → b ≤ 16 → g 1 a ≤ g 1 b
  | 0, hab, _ => by
    have : a = 0 := by omega
    subst this
    exact Int.le_refl _
  | b + 1, hab, hb => by
    by_cases h2 : a = b + 1
    · subst h2; exact Int.le_refl _
    · exact Int.le_trans (MX_le h (a := a) (b := b) (by omega) (by omega)) (h.2.1 b (by omega))
theorem MX_b {g : GS} (h : MX g) (k : Nat) (hk : k ≤ 16) : 0 ≤ g 1 k ∧ g 1 k ≤ 164 := by
  have h1 := MX_le h (Nat.zero_le k) hk
  have h2 := MX_le h hk (Nat.le_refl 16)
  have h3 := h.1
  have h4 := h.2.2
  omega
/-- every card is one of the kinds -/
def KX (g : GS) : Prop := ∀ j : Nat, (j : Int) < g 1 16 → 0 ≤ g 0 j ∧ g 0 j ≤ 9
/-- piles, the row's first kind, the numbers of a turn -/
def NX (g : GS) : Prop := (2 ≤ g 4 4 ∧ g 4 4 ≤ 4) ∧ (0 ≤ g 4 5 ∧ g 4 5 < g 4 4) ∧ (0 ≤ g 4 6 ∧ g 4 6 ≤ 1000) ∧ (0 ≤ g 4 7 ∧ g 4 7 ≤ 1000) ∧ (0 ≤ g 4 8 ∧ g 4 8 ≤ 1000) ∧ (0 ≤ g 4 9 ∧ g 4 9 ≤ 1000) ∧ (0 ≤ g 4 10 ∧ g 4 10 ≤ 9) ∧ (0 ≤ g 4 11 ∧ g 4 11 ≤ 9) ∧ (0 ≤ g 4 13 ∧ g 4 13 ≤ 1) ∧ (∀ k : Nat, k < 10 → 0 ≤ g 2 k ∧ g 2 k ≤ 164) ∧ (∀ k : Nat, k < 10 → 0 ≤ g 3 k ∧ g 3 k ≤ 164)
theorem tv_b (i k : Nat) : -1 ≤ tv i k ∧ tv i k ≤ 60 := by
  by_cases h : i < 10 ∧ k < 10
  · have : ∀ i : Fin 10, ∀ k : Fin 10, -1 ≤ tv i.1 k.1 ∧ tv i.1 k.1 ≤ 60 := by decide +kernel
    exact this ⟨i, h.1⟩ ⟨k, h.2⟩
  · have h0 : tv i k = 0 := by
      by_cases hi : i < 10
      · have hk : 10 ≤ k := by omega
        have : ∀ i : Fin 10, (tvl i.1).length = 10 := by decide +kernel
        have h1 := this ⟨i, hi⟩
        unfold tv
        rw [List.getD_eq_getElem?_getD, List.getElem?_eq_none (by simp only at h1; omega)]
        rfl
      · have : tvl i = [] := by
          unfold tvl
          rw [List.getD_eq_getElem?_getD, List.getElem?_eq_none (by simp; omega)]
          rfl
        unfold tv
        rw [this]
        rfl
    omega
/-- words for arraycopy -/
def tcW (own : String) (i : Nat) : Prop := Cond.methodLink own i arraycopyName ∈ wsL_law ∧ Cond.native arraycopyName ∈ wsL_law ∧ Cond.static arraycopyName ∈ wsL_law ∧ Cond.initialized "java/lang/System" ∈ wsL_law
def uc (g : GS) (a sp dp n : Nat) : GS := fun a' j => if a' = a ∧ dp ≤ j ∧ j < dp + n then g a (sp + (j - dp)) else g a' j
theorem uc_a (g : GS) {a sp dp n a' : Nat} (h : a' ≠ a) : uc g a sp dp n a' = g a' := by
  funext j
  exact if_neg fun q => h q.1
theorem u2_row (g : GS) {a k a' : Nat} {v : Int} (h : a' ≠ a) : u2 g a k v a' = g a' := by
  funext j
  exact if_neg fun q => h q.1
theorem uc_W (cI : ClassId) (ad : Nat → Nat) (g : GS) (sp dp n : Nat) : (gmW cI ad g).set 1 (ad 1, .inl (cI, 164, .inl (va_cpy (fun j => iN (g 0 j)) (fun j => iN (g 0 j)) sp dp n))) = gmW cI ad (uc g 0 sp dp n) := by
  have h : va_cpy (fun j => iN (g 0 j)) (fun j => iN (g 0 j)) sp dp n = fun j => iN (uc g 0 sp dp n 0 j) := by
    funext j
    unfold va_cpy uc
    by_cases hj : dp ≤ j ∧ j < dp + n
    · rw [if_pos hj, if_pos ⟨rfl, hj⟩]
    · rw [if_neg hj, if_neg fun q => hj q.2]
  rw [h]
  rfl
theorem gm_cpy {p : Program} {l : Launch} {e : Env} {R : Room} {s : State} {m : MethodId} {args : Array Value} {below : List Frame} {meth : Method} {c : Code} {H : Heap} {locs : List Loc} {cells slots : Nat} {Q : State → Prop}
    {cc : ByteArray} {pc nL i : Nat} {ls : Array Slot} {rest : List Value} {D : va_G} {A : Nat → Prop} {cI : ClassId} {ad : Nat → Nat} {g : GS} {own : String} {lv : List (Nat × Value)} (cx : CallFix p m c cc nL s args wsL_law own) (hK : va_K D vwCl [(cI, .int)] s) (hw : gmB D A s cI ad g H locs) (hl : lv_has ls nL lv) (k d n : Nat) {sp dp nn : Int} (hk : sp = (k : Int) ∧ dp = (d : Int) ∧ nn = (n : Int) ∧ k + n ≤ 164 ∧ d + n ≤ 164) (ht : tcW own i) (hR : 1 ≤ R.frames ∧ (rest.map fun v => v.category).sum + 18 ≤ R.locals) (hdg : decode cc pc = .ok (.invokestatic i, 3))
    (kk : ∀ (g1 : GS) (H1 : Heap) (locs1 : List Loc), g1 = uc g 0 k d n → gmB D A s cI ad g1 H1 locs1 → W p l e R s m args below meth c H1 locs1 cells slots Q (F0 m (pc + 3) ls rest)) : W p l e R s m args below meth c H locs cells slots Q (F0 m pc ls (.int (iN nn) :: .int (iN dp) :: .ref (ad 1) :: .int (iN sp) :: .ref (ad 1) :: rest)) := by
  have z1 : ∀ {z : Int} {k : Nat}, z = (k : Int) → k ≤ 164 → ¬ iN z < 0 ∧ (iN z).toNatClampNeg = k := fun h1 h2 => ⟨by rw [← iN_z, iN_lt (by omega) (by omega)]; omega, iN_k (n := 165) h1 (by omega) (by omega)⟩
  have s1 := z1 hk.1 (by omega)
  have s2 := z1 hk.2.1 (by omega)
  have s3 := z1 hk.2.2.1 (by omega)
  refine va_copyi (D := D) cx.1 cx.2.1 (cx.2.2.1.trans hl.1.symm) cx.2.2.2.1 (cx.2.2.2.2 _ ht.1) (cx.2.2.2.2 _ ht.2.1) (cx.2.2.2.2 _ ht.2.2.1) (cx.2.2.2.2 _ ht.2.2.2) hK hw.1 hw.2.1 hw.2.2 1 1 0 0 (c0 := cI) (c1 := cI) (n0 := 164) (n1 := 164) (f := fun j => iN (g 0 j)) (g := fun j => iN (g 0 j)) (ty := .int) rfl rfl rfl rfl rfl s1.1 s2.1 s3.1 (by rw [s1.2, s3.2]; omega) (by rw [s2.2, s3.2]; omega) (fun _ _ => rfl) hR.1 hR.2 hdg (fun H1 locs1 hP hD hS => kk _ H1 locs1 rfl ?_)
  rw [s1.2, s2.2, s3.2, uc_W] at hP hD
  exact ⟨hP, hD, hS⟩
