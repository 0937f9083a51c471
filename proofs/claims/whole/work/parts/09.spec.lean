/-! what a state of the game is: 30 numbers (players, player, coins, buys, actions, scraps, first of the row, ended turns, over, setting, piles, scrapped), and each player's four lists (0 deck, 1 hand, 2 played, 3 discards) -/
abbrev SCT : Type := Nat → Int
abbrev LLT : Type := Nat → Nat → List Int
abbrev StT : Type := (Nat → Int) × (Nat → Nat → List Int)
def ul (L : LLT) (p w : Nat) (x : List Int) : LLT := fun p' w' => if p' = p ∧ w' = w then x else L p' w'
theorem ul_s (L : LLT) (p w : Nat) (x : List Int) : ul L p w x p w = x := if_pos ⟨rfl, rfl⟩
theorem ul_p (L : LLT) {p w p' w' : Nat} (x : List Int) (h : p' ≠ p) : ul L p w x p' w' = L p' w' := if_neg fun q => h q.1
theorem ul_w (L : LLT) {p w p' w' : Nat} (x : List Int) (h : w' ≠ w) : ul L p w x p' w' = L p' w' := if_neg fun q => h q.2
def pl (S : StT) : Nat := (S.1 1).toNat
def hand (S : StT) : List Int := S.2 (pl S) 1
def why (sc : SCT) (k : Nat) : Int := if sc 8 = 1 then 1 else if ¬ ((k : Int) - sc 6 + 10) % 10 < 6 then 2 else if sc (10 + k) = 0 then 3 else if sc 3 = 0 then 4 else if sc 2 < tv 0 k then 5 else 0
def mvL (L : LLT) (p w k w' : Nat) : LLT := ul (ul L p w ((L p w).eraseIdx k)) p w' (L p w' ++ [(L p w).getD k 0])
def flipL (L : LLT) (p : Nat) : LLT := if L p 0 = [] then ul (ul L p 0 (L p 3)) p 3 [] else L
def dr1 (L : LLT) (p : Nat) : LLT := if (flipL L p) p 0 = [] then flipL L p else mvL (flipL L p) p 0 0 1
def dr : Nat → LLT → Nat → LLT
  | 0, L, _ => L
  | n + 1, L, p => dr n (dr1 L p) p
def buS (sc : SCT) (k : Nat) : SCT := uf (uf (uf sc 2 (sc 2 - tv 0 k)) 3 (sc 3 - 1)) (10 + k) (sc (10 + k) - 1)
def buyA (S : StT) (k : Nat) : StT := (buS S.1 k, ul S.2 (pl S) 3 (S.2 (pl S) 3 ++ [(k : Int)]))
def scrA (S : StT) (i : Nat) : StT := (uf (uf S.1 5 (S.1 5 - 1)) (20 + ((hand S).getD i 0).toNat) (S.1 (20 + ((hand S).getD i 0).toNat) + 1), ul S.2 (pl S) 1 ((hand S).eraseIdx i))
def cu1 (c : Int × LLT) (p : Nat) : Int × LLT := if 0 < c.1 then (c.1 - 1, ul c.2 p 3 (c.2 p 3 ++ [5])) else c
/-- n players behind the player a of np players get a curse -/
def cuN (a np : Int) : Nat → Int × LLT → Int × LLT
  | 0, c => c
  | n + 1, c => cu1 (cuN a np n c) ((a + ((n : Int) + 1)) % np).toNat
def plS (sc : SCT) (k : Nat) (c : Int) : SCT := fun j => if j = 2 then sc 2 + tv 1 k else if j = 3 then sc 3 + tv 3 k else if j = 4 then sc 4 - (if 6 ≤ k then 1 else 0) + tv 4 k else if j = 5 then sc 5 + tv 6 k else if j = 15 then c else sc j
def plC (S : StT) (i k : Nat) : Int × LLT := if k = 6 then cuN (S.1 1) (S.1 0) (S.1 0 - 1).toNat (S.1 15, dr (tv 2 k).toNat (mvL S.2 (pl S) 1 i 2) (pl S)) else (S.1 15, dr (tv 2 k).toNat (mvL S.2 (pl S) 1 i 2) (pl S))
def playA (S : StT) (i : Nat) : StT := (plS S.1 ((hand S).getD i 0).toNat (plC S i ((hand S).getD i 0).toNat).1, (plC S i ((hand S).getD i 0).toNat).2)
def emp (sc : SCT) : Int := sumN (fun k => if sc (10 + k) = 0 then 1 else 0) 10
def enL (L : LLT) (p : Nat) : LLT := ul (ul (ul L p 3 (L p 3 ++ L p 1 ++ L p 2)) p 1 []) p 2 []
def enS (sc : SCT) : SCT := fun j => if j = 1 then (sc 1 + 1) % sc 0 else if j = 2 then 0 else if j = 3 then 1 else if j = 4 then 1 else if j = 5 then 0 else if j = 6 then (sc 6 + sc 9) % 10 else if j = 7 then sc 7 + 1 else if j = 8 then (if sc 14 = 0 ∨ 3 ≤ emp sc then 1 else 0) else sc j
def endA (S : StT) : StT := (enS S.1, dr 5 (enL S.2 (pl S)) (pl S))
def beS (sc : SCT) (np : Int) : SCT := fun j => if j = 0 then np else if j = 3 then 1 else if j = 4 then 1 else if j = 9 then sc 9 else if j = 10 then 60 - 7 * np else if j = 13 then 24 - 3 * np else if 10 ≤ j ∧ j < 20 then tv 8 (j - 10) else 0
def beL (np : Int) : LLT := fun p w => if (p : Int) < np then (if w = 0 then [3, 0, 0, 3, 0] else if w = 1 then [0, 0, 3, 0, 0] else []) else []
def begA (S : StT) (np : Int) : StT := (beS S.1 np, beL np)
/-- the place of the first one between lo and hi, or -1 -/
def ffst (lo hi : Int) : List Int → Int
  | [] => -1
  | a :: t => if lo ≤ a ∧ a ≤ hi then 0 else if ffst lo hi t < 0 then -1 else ffst lo hi t + 1
def dearN (sc : SCT) : Nat → Int
  | 0 => -1
  | n + 1 => if 0 < tv 0 n ∧ why sc n = 0 ∧ (dearN sc n < 0 ∨ tv 0 (dearN sc n).toNat ≤ tv 0 n) then (n : Int) else dearN sc n
def setN (sc : SCT) : Nat → Int
  | 0 => 0
  | n + 1 => setN sc n + (if why sc n = 0 then 2 ^ n else 0)
def goA : Nat → StT → StT
  | 0, S => S
  | n + 1, S => if 0 < S.1 4 ∧ 0 ≤ ffst 6 9 (hand S) then goA n (playA S (ffst 6 9 (hand S)).toNat) else S
def goF : Nat → StT → StT
  | 0, S => S
  | n + 1, S => if 0 ≤ ffst 0 2 (hand S) then goF n (playA S (ffst 0 2 (hand S)).toNat) else S
def goB : Nat → StT → StT
  | 0, S => S
  | n + 1, S => if 0 ≤ dearN S.1 10 then goB n (buyA S (dearN S.1 10).toNat) else S
def turnA (S : StT) : StT := endA (goB 164 (goF 164 (goA 164 S)))
def goesA : Nat → StT → Int × StT
  | 0, S => (0, S)
  | n + 1, S => if S.1 8 = 1 then (0, S) else ((goesA n (turnA S)).1 + 1, (goesA n (turnA S)).2)
def lsum (f : Int → Int) : List Int → Int
  | [] => 0
  | a :: t => f a + lsum f t
def ptA (L : LLT) (p : Nat) : Int := lsum (fun x => tv 7 x.toNat) (L p 0) + lsum (fun x => tv 7 x.toNat) (L p 3) + lsum (fun x => tv 7 x.toNat) (L p 1) + lsum (fun x => tv 7 x.toNat) (L p 2)
def leadN (L : LLT) : Nat → Nat
  | 0 => 0
  | n + 1 => if ptA L (leadN L n) < ptA L (n + 1) then n + 1 else leadN L n
/-- the picture: a Game's parts, in the order deck, discards, hand, played -/
def wx (r : Nat) : Nat := if r = 0 then 0 else if r = 1 then 3 else r - 1
def lx (L : LLT) (r : Nat) : List Int := L (r / 4) (wx (r % 4))
def PX (g : GS) (LX : Nat → List Int) : Prop := g 1 0 = 0 ∧ (∀ r : Nat, r < 16 → g 1 (r + 1) = g 1 r + ((LX r).length : Int)) ∧ (∀ r : Nat, r < 16 → ∀ k : Nat, k < (LX r).length → g 0 ((g 1 r).toNat + k) = (LX r).getD k 0) ∧ g 1 16 ≤ 164
def RS (g : GS) (sc : SCT) : Prop := g 4 4 = sc 0 ∧ g 4 5 = sc 1 ∧ g 4 6 = sc 2 ∧ g 4 7 = sc 3 ∧ g 4 8 = sc 4 ∧ g 4 9 = sc 5 ∧ g 4 10 = sc 6 ∧ g 4 11 = sc 9 ∧ g 4 12 = sc 7 ∧ g 4 13 = sc 8 ∧ (∀ k : Nat, k < 10 → g 2 k = sc (10 + k)) ∧ (∀ k : Nat, k < 10 → g 3 k = sc (20 + k))
def RX (g : GS) (S : StT) : Prop := RS g S.1 ∧ PX g (lx S.2)
theorem PX_M {g : GS} {LX : Nat → List Int} (h : PX g LX) : MX g := ⟨h.1, fun r hr => by rw [h.2.1 r hr]; omega, h.2.2.2⟩
/-- a part of the cards lies between borders -/
theorem PX_find {g : GS} {LX : Nat → List Int} (h : PX g LX) {j : Nat} : ∀ {r : Nat}, r ≤ 16 → (j : Int) < g 1 r → ∃ r0 k : Nat, r0 < r ∧ k < (LX r0).length ∧ (j : Int) = g 1 r0 + k
  | 0, _, hj => by rw [h.1] at hj; omega
  | r + 1, hr, hj => by
    by_cases h2 : (j : Int) < g 1 r
    · obtain ⟨r0, k, h3, h4⟩ := PX_find h (r := r) (by omega) h2
      exact ⟨r0, k, by omega, h4⟩
    · have h3 := h.2.1 r (by omega)
      have h4 := MX_b (PX_M h) r (by omega)
      exact ⟨r, (j - (g 1 r).toNat : Nat), by omega, by omega, by omega⟩
def kindsOk (LX : Nat → List Int) : Prop := ∀ r : Nat, r < 16 → ∀ k : Nat, k < (LX r).length → 0 ≤ (LX r).getD k 0 ∧ (LX r).getD k 0 ≤ 9
theorem PX_K {g : GS} {LX : Nat → List Int} (h : PX g LX) (hk : kindsOk LX) : KX g := fun j hj => by
  obtain ⟨r, k, h1, h2, h3⟩ := PX_find h (Nat.le_refl 16) hj
  have h4 := MX_b (PX_M h) r (by omega)
  have h5 := h.2.2.1 r h1 k h2
  have h6 := hk r h1 k h2
  rw [show (g 1 r).toNat + k = j by omega] at h5
  omega
theorem sumN_lsum (f : Int → Int) : ∀ (l : List Int) (h : Nat → Int), (∀ k, k < l.length → h k = l.getD k 0) → sumN (fun i => f (h i)) l.length = lsum f l
  | [], h, _ => rfl
  | a :: t, h, e => by
    have h1 := sumN_add (fun i => f (h i)) 1 t.length
    have h2 := sumN_lsum f t (fun i => h (1 + i)) (fun k hk => by
      have := e (1 + k) (by simp only [List.length_cons]; omega)
      rw [this, Nat.add_comm 1 k]
      rfl)
    have h3 : (a :: t).length = 1 + t.length := by simp only [List.length_cons]; omega
    rw [h3, h1]
    show sumN (fun i => f (h i)) 1 + sumN (fun i => f (h (1 + i))) t.length = f a + lsum f t
    rw [h2]
    have h4 : h 0 = a := e 0 (by simp)
    show 0 + f (h 0) + lsum f t = _
    rw [h4]
    omega
/-- the sum over one part, and over parts one behind another -/
theorem PX_sum1 {g : GS} {LX : Nat → List Int} (h : PX g LX) (f : Int → Int) (r : Nat) (hr : r < 16) : sumN (fun i => f (g 0 ((g 1 r).toNat + i))) (g 1 (r + 1) - g 1 r).toNat = lsum f (LX r) := by
  have h1 := h.2.1 r hr
  rw [show (g 1 (r + 1) - g 1 r).toNat = (LX r).length by omega]
  exact sumN_lsum f (LX r) (fun i => g 0 ((g 1 r).toNat + i)) (h.2.2.1 r hr)
theorem PX_sum2 {g : GS} {LX : Nat → List Int} (h : PX g LX) (f : Int → Int) (r a : Nat) (hr : r + 1 < 17) (ha : a ≤ r) : sumN (fun i => f (g 0 ((g 1 a).toNat + i))) (g 1 (r + 1) - g 1 a).toNat = sumN (fun i => f (g 0 ((g 1 a).toNat + i))) (g 1 r - g 1 a).toNat + lsum f (LX r) := by
  have h1 := MX_b (PX_M h) a (by omega)
  have h2 := MX_b (PX_M h) r (by omega)
  have h3 := MX_le (PX_M h) (a := a) (b := r) ha (by omega)
  have h4 := MX_le (PX_M h) (a := r) (b := r + 1) (by omega) (by omega)
  have h5 := PX_sum1 h f r (by omega)
  rw [show (g 1 (r + 1) - g 1 a).toNat = (g 1 r - g 1 a).toNat + (g 1 (r + 1) - g 1 r).toNat by omega, sumN_add, ← h5]
  congr 1
  apply sumN_congr
  intro i _
  show f (g 0 ((g 1 a).toNat + ((g 1 r - g 1 a).toNat + i))) = f (g 0 ((g 1 r).toNat + i))
  rw [show (g 1 a).toNat + ((g 1 r - g 1 a).toNat + i) = (g 1 r).toNat + i by omega]
theorem PX_sum4 {g : GS} {L : LLT} (h : PX g (lx L)) (f : Int → Int) (p : Nat) (hp : p < 4) : sumN (fun i => f (g 0 ((g 1 (4 * p)).toNat + i))) (g 1 (4 * p + 3 + 1) - g 1 (4 * p)).toNat = lsum f (L p 0) + lsum f (L p 3) + lsum f (L p 1) + lsum f (L p 2) := by
  have e : ∀ r : Nat, r < 4 → lx L (4 * p + r) = L p (wx r) := fun r hr => by
    unfold lx
    rw [show (4 * p + r) / 4 = p by omega, show (4 * p + r) % 4 = r by omega]
  rw [PX_sum2 h f (4 * p + 3) (4 * p) (by omega) (by omega), PX_sum2 h f (4 * p + 2) (4 * p) (by omega) (by omega), PX_sum2 h f (4 * p + 1) (4 * p) (by omega) (by omega), PX_sum1 h f (4 * p) (by omega), e 3 (by omega), e 2 (by omega), e 1 (by omega)]
  have e0 := e 0 (by omega)
  rw [Nat.add_zero] at e0
  rw [e0]
  rfl
theorem ffst_spec (lo hi : Int) : ∀ (l : List Int), (ffst lo hi l = -1 ∧ ∀ k, k < l.length → ¬ (lo ≤ l.getD k 0 ∧ l.getD k 0 ≤ hi)) ∨ (∃ k : Nat, ffst lo hi l = (k : Int) ∧ k < l.length ∧ (lo ≤ l.getD k 0 ∧ l.getD k 0 ≤ hi) ∧ ∀ j, j < k → ¬ (lo ≤ l.getD j 0 ∧ l.getD j 0 ≤ hi))
  | [] => Or.inl ⟨rfl, fun k hk => by simp at hk⟩
  | a :: t => by
    by_cases h : lo ≤ a ∧ a ≤ hi
    · exact Or.inr ⟨0, by simp only [ffst, if_pos h]; rfl, by simp, h, fun j hj => by omega⟩
    · rcases ffst_spec lo hi t with ⟨h1, h2⟩ | ⟨k, h1, h2, h3, h4⟩
      · refine Or.inl ⟨by simp only [ffst, if_neg h, h1]; rfl, fun k hk => ?_⟩
        cases k with
        | zero => exact h
        | succ k => exact h2 k (by simp only [List.length_cons] at hk; omega)
      · refine Or.inr ⟨k + 1, by simp only [ffst, if_neg h, h1]; rw [if_neg (by omega)]; omega, by simp only [List.length_cons]; omega, h3, fun j hj => ?_⟩
        cases j with
        | zero => exact h
        | succ j => exact h4 j (by omega)
theorem ffst_none {lo hi : Int} {l : List Int} (h : ∀ k, k < l.length → ¬ (lo ≤ l.getD k 0 ∧ l.getD k 0 ≤ hi)) : ffst lo hi l = -1 := by
  rcases ffst_spec lo hi l with ⟨h1, -⟩ | ⟨k, -, h2, h3, -⟩
  · exact h1
  · exact absurd h3 (h k h2)
theorem ffst_at {lo hi : Int} {l : List Int} {k : Nat} (hk : k < l.length) (h : lo ≤ l.getD k 0 ∧ l.getD k 0 ≤ hi) (hn : ∀ j, j < k → ¬ (lo ≤ l.getD j 0 ∧ l.getD j 0 ≤ hi)) : ffst lo hi l = (k : Int) := by
  rcases ffst_spec lo hi l with ⟨-, h1⟩ | ⟨k2, h1, h2, h3, h4⟩
  · exact absurd h (h1 k hk)
  · rw [h1]
    rcases Nat.lt_trichotomy k k2 with q | q | q
    · exact absurd h (h4 k q)
    · rw [q]
    · exact absurd h3 (hn k2 q)
theorem setN_b (sc : SCT) : ∀ n : Nat, 0 ≤ setN sc n ∧ setN sc n < 2 ^ n
  | 0 => ⟨Int.le_refl _, by show (0 : Int) < 2 ^ 0; decide⟩
  | n + 1 => by
    have h := setN_b sc n
    have h2 : (2 : Int) ^ (n + 1) = 2 ^ n * 2 := Int.pow_succ 2 n
    show 0 ≤ setN sc n + _ ∧ setN sc n + _ < _
    rw [h2]
    by_cases hw : why sc n = 0
    · rw [if_pos hw]; omega
    · rw [if_neg hw]; omega
theorem dearN_b (sc : SCT) : ∀ n : Nat, -1 ≤ dearN sc n ∧ dearN sc n < n ∧ (0 ≤ dearN sc n → 0 < tv 0 (dearN sc n).toNat ∧ why sc (dearN sc n).toNat = 0)
  | 0 => ⟨Int.le_refl _, by show (-1 : Int) < ((0 : Nat) : Int); decide, fun h => absurd (show (0 : Int) ≤ -1 from h) (by decide)⟩
  | n + 1 => by
    have h := dearN_b sc n
    unfold dearN
    by_cases hc : 0 < tv 0 n ∧ why sc n = 0 ∧ (dearN sc n < 0 ∨ tv 0 (dearN sc n).toNat ≤ tv 0 n)
    · rw [if_pos hc]
      exact ⟨by omega, by omega, fun _ => by rw [Int.toNat_natCast]; exact ⟨hc.1, hc.2.1⟩⟩
    · rw [if_neg hc]
      exact ⟨h.1, by omega, h.2.2⟩
