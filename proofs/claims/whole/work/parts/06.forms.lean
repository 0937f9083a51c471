/-! the static tables of TurningShop: ten rows of ten numbers -/
def tn (i : Nat) : String := ["PRICE", "GIVES_COINS", "GIVES_CARDS", "GIVES_BUYS", "GIVES_ACTIONS", "GIVES_CURSES", "GIVES_SCRAPS", "POINTS", "FIRST_PILES", "FIRST_DECK"].getD i ""
def tx (i : Nat) : Nat := [125, 94, 97, 100, 103, 106, 112, 158, 63, 82].getD i 0
def tvl (i : Nat) : List Int := [[0, 3, 6, 2, 8, 0, 5, 5, 4, 3], [1, 2, 3, 0, 0, 0, 0, 1, 0, 0], [0, 0, 0, 0, 0, 0, 2, 1, 0, 2], [0, 0, 0, 0, 0, 0, 0, 1, 0, 0], [0, 0, 0, 0, 0, 0, 0, 1, 1, 1], [0, 0, 0, 0, 0, 0, 1, 0, 0, 0], [0, 0, 0, 0, 0, 0, 0, 0, 1, 0], [0, 0, 0, 1, 6, -1, 0, 0, 0, 0], [60, 20, 12, 24, 6, 10, 8, 8, 8, 8], [0, 0, 3, 0, 0, 3, 0, 0, 3, 0]].getD i []
def tv (i k : Nat) : Int := (tvl i).getD k 0
/-- a row that begins with the ten numbers of table i -/
def tX (t i : Nat) (U : State) (H : Heap) : Prop := ∃ (n : Nat) (xs : Nat → Int32), (10 ≤ n ∧ Int32.ofNat n = iN 10) ∧ va_X t n xs U H ∧ ∀ j : Nat, j < 10 → xs j = iN (tv i j)
theorem tX.moved {t i : Nat} {u U : State} {H : Heap} (hvm : u.vm.Alike U.vm) (h : tX t i u H) : tX t i U H := by
  obtain ⟨n, xs, h1, h2, h3⟩ := h
  exact ⟨n, xs, h1, h2.moved hvm, h3⟩
theorem tX.kept {t i : Nat} {U : State} {H H1 : Heap} (h : tX t i U H) (hq : H1[t]? = H[t]?) : tX t i U H1 := by
  obtain ⟨n, xs, h1, h2, h3⟩ := h
  exact ⟨n, xs, h1, h2.kept hq, h3⟩
theorem vin_le {x : Int32} {a b : Nat} (h : vp_in x a) (hab : a ≤ b) : vp_in x b := fun q => h (q.imp id (fun w => Nat.le_trans hab w))
def tB1 (tb : Nat → Nat) (A : Nat → Prop) (U : State) (H : Heap) (i : Nat) : Prop := va_Z "TurningShop" (tn i) "[I" (.ref (tb i)) A U H ∧ tX (tb i) i U H ∧ tb i < H.size ∧ ¬ A (tb i) ∧ va_Nw (.fieldLinkNest RX0 (tx i) "TurningShop" (tn i) "[I" "TurningShop") U
def tB (tb : Nat → Nat) (A : Nat → Prop) (U : State) (H : Heap) : Prop := ∀ i : Nat, i < 10 → tB1 tb A U H i
theorem tB_same {tb : Nat → Nat} {A : Nat → Prop} {u U : State} {H : Heap} (hv : u.vm = U.vm) (h : tB tb A u H) : tB tb A U H := fun i hi => by
  obtain ⟨h1, h2, h3, h4, h5⟩ := h i hi
  exact ⟨va_Z.moved (by rw [hv]; exact Vm.Alike.refl _) h1, tX.moved (by rw [hv]; exact Vm.Alike.refl _) h2, h3, h4, va_tabs rfl hv h5⟩
theorem tB_call {tb : Nat → Nat} {A B : Nat → Prop} {s U : State} {H : Heap} {locs : List Loc} (h : tB tb A s s.heap) (hS : va_S A s.heap H locs) (hAB : ∀ q, q < H.size → B q → A q) (hU : U.heap = H) (hW : s.WarmedH U.vm) : tB tb B U U.heap := fun i hi => by
  obtain ⟨h1, h2, h3, h4, h5⟩ := h i hi
  rw [hU]
  have e : H[tb i]? = s.heap[tb i]? := hS.2.1 _ h3 h4
  refine ⟨?_, (h2.kept e).moved hW.alike, Nat.lt_of_lt_of_le h3 hS.1, fun z => h4 (hAB _ (Nat.lt_of_lt_of_le h3 hS.1) z), va_Nw.warmF hW h5⟩
  obtain ⟨cf, kf, fi, f, a, cell, g1, g2, g3, g4, g5, g6, g7, g8⟩ := va_Z.moved hW.alike (h1.kept hS.2.1)
  exact ⟨cf, kf, fi, f, a, cell, g1, g2, g3, g4, g5, g6, g7, fun z => g8 (hAB a (Array.getElem?_eq_some_iff.mp g5).1 z)⟩
section TTB
variable {p : Program} {l : Launch} {e : Env} {R : Room} {s : State} {m : MethodId} {args : Array Value} {below : List Frame} {meth : Method} {c : Code} {H : Heap} {locs : List Loc} {cells slots : Nat} {Q : State → Prop}
variable {cc : ByteArray} {pc nL : Nat} {ls : Array Slot} {rest : List Value} {A : Nat → Prop} {tb : Nat → Nat}
/-- a table, out of Game -/
theorem tt_gst (cx : CallFix p m c cc nL s args wsL_law RX0) (hT : tB tb A s s.heap) (hS : va_S A s.heap H locs) (i : Nat) (hi : i < 10) {n : Nat} (hn : tx i = n) (hdg : decode cc pc = .ok (.getstatic n, 3)) (kk : W p l e R s m args below meth c H locs cells slots Q (F0 m (pc + 3) ls (.ref (tb i) :: rest))) : W p l e R s m args below meth c H locs cells slots Q (F0 m pc ls rest) := by
  subst hn
  obtain ⟨h1, -, -, -, h5⟩ := hT i hi
  exact va_getsN cx.1 cx.2.1 h1 hS cx.2.2.2.1 (va_Nw.use rfl h5) (fun _ h => h) hdg kk
/-- a table, out of TurningShop -/
theorem tt_gso {idx : Nat} (cx : CallFix p m c cc nL s args wsL_law RX1) (hT : tB tb A s s.heap) (hS : va_S A s.heap H locs) (i : Nat) (hi : i < 10) (hl : Cond.fieldLink RX1 idx "TurningShop" (tn i) "[I" ∈ wsL_law) (hdg : decode cc pc = .ok (.getstatic idx, 3)) (kk : W p l e R s m args below meth c H locs cells slots Q (F0 m (pc + 3) ls (.ref (tb i) :: rest))) : W p l e R s m args below meth c H locs cells slots Q (F0 m pc ls rest) := by
  obtain ⟨h1, -, -, -, h5⟩ := hT i hi
  exact va_gets cx.1 cx.2.1 h1 hS cx.2.2.2.1 (cx.2.2.2.2 _ hl) (fun _ h => h) hdg kk
theorem tt_ld (hx : p.tables.exec = Jvm.exec) (hb : c.code = cc) (hT : tB tb A s s.heap) (hS : va_S A s.heap H locs) (i : Nat) (hi : i < 10) (k : Nat) {x : Int} (hk : x = (k : Int) ∧ k < 10) (hdg : decode cc pc = .ok (.iaload, 1)) (kk : ∀ z : Int, z = tv i k → W p l e R s m args below meth c H locs cells slots Q (F0 m (pc + 1) ls (.int (iN z) :: rest))) : W p l e R s m args below meth c H locs cells slots Q (F0 m pc ls (.int (iN x) :: .ref (tb i) :: rest)) := by
  obtain ⟨-, h2, h3, h4, -⟩ := hT i hi
  obtain ⟨n, xs, hn, hX, hv⟩ := h2
  exact va_sld hx hb hX h3 h4 hS (vin_le (iN_in hk.1 hk.2 (Nat.le_of_ble_eq_true rfl)) hn.1) hdg (by rw [iN_k hk.1 hk.2 (Nat.le_of_ble_eq_true rfl), hv k hk.2]; exact kk _ rfl)
theorem tt_len (hx : p.tables.exec = Jvm.exec) (hb : c.code = cc) (hT : tB tb A s s.heap) (hS : va_S A s.heap H locs) (i : Nat) (hi : i < 10) (hdg : decode cc pc = .ok (.arraylength, 1)) (kk : W p l e R s m args below meth c H locs cells slots Q (F0 m (pc + 1) ls (.int (iN 10) :: rest))) : W p l e R s m args below meth c H locs cells slots Q (F0 m pc ls (.ref (tb i) :: rest)) := by
  obtain ⟨-, h2, h3, h4, -⟩ := hT i hi
  obtain ⟨n, xs, hn, hX, hv⟩ := h2
  exact va_slen hx hb hX h3 h4 hS hdg (by rw [hn.2]; exact kk)
end TTB
/-! pure methods: no cell is touched -/
def psPre (_ : State) : Prop := True
abbrev psRi (l : Launch) (y : MethodName) (ws : List Cond) (rm : Room) (as : List Value) (P : Int → Prop) : Prop := Met l y ws rm (va_Pc as psPre) (vp_Si (fun r => ∃ z : Int, r = iN z ∧ P z)) 0 0 (fun _ => False)
abbrev roQ (below : List Frame) (args : Array Value) (s : State) (P : Int → Prop) : State → Prop := MQ below (vp_Si (fun r => ∃ z : Int, r = iN z ∧ P z)) args s 0 0 (fun _ => False)
theorem psRi_of {l : Launch} {y : MethodName} {b : ByteArray} {n : Nat} {ty : FieldType} {rm : Room} {as : List Value} {P : Int → Prop} (hy : plainName y.cls = true) (hlen : (lg_sl as).length ≤ n) (body : ∀ (p : Program) (e : Env) (s : State) (m : MethodId) (args : Array Value) (below : List Frame) (meth : Method) (c : Code) (ls : Array Slot), CallFix p m c b n s args wsL_law y.cls → meth.sig.returnType = some ty → meth.locks = false → lv_has ls n (lv_args 0 as) → W p l e rm s m args below meth c s.heap [] 0 0 (roQ below args s P) (F0 m 0 ls [])) : psRi l y (wU y b n (some ty)) rm as P := by
  refine Met.ofW (cc := b) (maxL := n) (ret := some ty) hy rfl ?_
  intro p e s m args below meth c s₁ B hml hv
  obtain ⟨rfl, -⟩ := hv
  have hts := atoms_spec (ws := wU y b n (some ty)) B.pre
  have hl := lv_entry as (n := n) hlen
  rw [lg_entry_eq]
  exact body p e s m _ below meth c _ ⟨B.exec, B.bytes, hml, findClass_of_methodNamed B.named, fun w hw => hts w (List.mem_cons_of_mem _ hw)⟩ B.returns B.notSynchronized hl
section ROE
variable {p : Program} {l : Launch} {e : Env} {R : Room} {s : State} {m : MethodId} {args : Array Value} {below : List Frame} {meth : Method} {c : Code} {H : Heap} {locs : List Loc} {cells slots : Nat} {Q : State → Prop}
variable {cc : ByteArray} {pc nL : Nat} {ls : Array Slot} {rest : List Value} {D : va_G} {A : Nat → Prop} {cI : ClassId} {ad : Nat → Nat} {g : GS} {tb : Nat → Nat}
theorem ro_ret {own : String} {P : Int → Prop} {z : Int} (cx : CallFix p m c cc nL s args wsL_law own) (hr : meth.sig.returnType = some .int) (hlocks : meth.locks = false) (hP : P z) (hdg : decode cc pc = .ok (.ireturn, 1)) : W p l e R s m args below meth c s.heap [] 0 0 (roQ below args s P) (F0 m pc ls [.int (iN z)]) := W.iret cx.1 cx.2.1 hr (fun t ht _ => ⟨_, rfl, ⟨z, rfl, hP⟩, ht⟩) (fun q h => by cases h) hdg hlocks
theorem ro_retz {own : String} {P : Int → Prop} {z : Int} (cx : CallFix p m c cc nL s args wsL_law own) (hr : meth.sig.returnType = some .boolean) (hlocks : meth.locks = false) (hz : z = 0 ∨ z = 1) (hP : P z) (hdg : decode cc pc = .ok (.ireturn, 1)) : W p l e R s m args below meth c s.heap [] 0 0 (roQ below args s P) (F0 m pc ls [.int (iN z)]) := W.zret cx.1 cx.2.1 hr (by rcases hz with rfl | rfl <;> rfl) (fun t ht _ => ⟨_, rfl, ⟨z, rfl, hP⟩, ht⟩) (fun q h => by cases h) hdg hlocks
/-- a call of a pure static method -/
theorem ps_call {own : String} {y : MethodName} {b : ByteArray} {n i : Nat} {ty : FieldType} {rm : Room} {as : List Value} {P : Int → Prop} {lv : List (Nat × Value)} (cx : CallFix p m c cc nL s args wsL_law own) (hl : lv_has ls nL lv) (hM : psRi l y (wU y b n (some ty)) rm as P) (hG : GoodIn wsL_law (va_wsS own i y (wU y b n (some ty)))) (hrc : rm.cells = 0 ∧ rm.slots = 0) (na : Nat) (hna : as.length = na) (hd : y.cls ≠ "java/lang/invoke/MethodHandle" ∧ y.cls ≠ "java/lang/invoke/VarHandle" ∧ (parseMethodDescriptor y.desc).map (fun d => d.parameters.length) = some na) (hR : rm.frames + 1 ≤ R.frames ∧ 8 + (n + 11) + rm.locals ≤ R.locals) (hf : cells ≤ R.cells ∧ slots ≤ R.slots) (hc : (rest.map fun v => v.category).sum ≤ 8) (hdg : decode cc pc = .ok (.invokestatic i, 3)) {st : List Value} (hst : st = as.reverse ++ rest) (kk : ∀ z : Int, P z → W p l e R s m args below meth c H locs cells slots Q (F0 m (pc + 3) ls (.int (iN z) :: rest))) : W p l e R s m args below meth c H locs cells slots Q (F0 m pc ls st) := by
  refine vp_callSi (va_runS (g := F0 m pc ls st) (As := as) (rest := rest) cx hM (va_cwS na cx.2.2.2.2 hG rfl hrc.1 hrc.2 hd hR) ⟨fun a U g mk q => q, fun U hU hW => ⟨rfl, trivial⟩⟩ rfl hna hl.1 hst (lv_room hc) hdg ⟨by omega, by omega⟩).run ?_
  rintro r ⟨z, rfl, hP⟩
  exact kk z hP
end ROE
/-! ===== contracts over one RX0 ===== -/
def gmPre (D : va_G) (cI : ClassId) (tb ad : Nat → Nat) (g : GS) (sz : Nat) (U : State) : Prop := U.heap.size = sz ∧ va_P D vwCl (gmW cI ad g) U.heap ∧ va_K D vwCl [(cI, .int)] U ∧ va_D (fun _ => True) (gmW cI ad g) ∧ tB tb (va_A (gmW cI ad g) sz) U U.heap
theorem gmPre_blind {D : va_G} {cI : ClassId} {tb ad : Nat → Nat} {g : GS} {sz : Nat} {U : State} (gf : JFrame) (mk : MethodId) (a : Array Value) (h : gmPre D cI tb ad g sz U) : gmPre D cI tb ad g sz (U.calling gf mk a) := by
  obtain ⟨q0, qP, qK, qD, qT⟩ := h
  exact ⟨q0, qP, va_K.moved (u := U) (U := U.calling gf mk a) (Vm.Alike.refl U.vm) qK, qD, tB_same (U := U.calling gf mk a) rfl qT⟩
theorem gm_free {D : va_G} {A : Nat → Prop} {s : State} {cI : ClassId} {ad : Nat → Nat} {g : GS} {H : Heap} {locs : List Loc} (hw : gmB D A s cI ad g H locs) (hA : ∀ q, s.heap.size ≤ q → A q) : ∀ q, va_A (gmW cI ad g) H.size q → A q := va_free hw.2.1 hw.2.2 hA [0, 1, 2, 3, 4] rfl
theorem gmPre_call {D : va_G} {A : Nat → Prop} {s U : State} {cI : ClassId} {tb ad : Nat → Nat} {g : GS} {H : Heap} {locs : List Loc} (hK : va_K D vwCl [(cI, .int)] s) (hT : tB tb A s s.heap) (hA : ∀ q, s.heap.size ≤ q → A q) (hw : gmB D A s cI ad g H locs) (hU : U.heap = H) (hW : s.WarmedH U.vm) : gmPre D cI tb ad g H.size U := ⟨by rw [hU], by rw [hU]; exact hw.1, va_K.moved hW.alike hK, hw.2.1.weaken (fun _ _ _ _ => trivial), tB_call hT hw.2.2 (fun q _ h => gm_free hw hA q h) hU hW⟩
abbrev gmAt (D : va_G) (cI : ClassId) (ad : Nat → Nat) (A : Nat → Prop) (g1 : GS) (t : State) : Prop := va_P D vwCl (gmW cI ad g1) t.heap ∧ va_D A (gmW cI ad g1)
abbrev gmMi (l : Launch) (y : MethodName) (ws : List Cond) (rm : Room) (as : List Value) (g : GS) (P : Int → GS → Prop) : Prop := ∀ (D : va_G) (cI : ClassId) (tb ad : Nat → Nat) (sz : Nat), Met l y ws rm (va_Pc (.ref (ad 0) :: as) (gmPre D cI tb ad g sz)) (va_Qi (fun r g1 => ∃ z : Int, r = iN z ∧ P z g1) (gmAt D cI ad (va_A (gmW cI ad g) sz)) (va_A (gmW cI ad g) sz)) 0 0 (va_A (gmW cI ad g) sz)
abbrev gmMv (l : Launch) (y : MethodName) (ws : List Cond) (rm : Room) (as : List Value) (g : GS) (P : GS → Prop) : Prop := ∀ (D : va_G) (cI : ClassId) (tb ad : Nat → Nat) (sz : Nat), Met l y ws rm (va_Pc (.ref (ad 0) :: as) (gmPre D cI tb ad g sz)) (va_Qv P (gmAt D cI ad (va_A (gmW cI ad g) sz)) (va_A (gmW cI ad g) sz)) 0 0 (va_A (gmW cI ad g) sz)
abbrev gmRi (l : Launch) (y : MethodName) (ws : List Cond) (rm : Room) (as : List Value) (g : GS) (P : Int → Prop) : Prop := ∀ (D : va_G) (cI : ClassId) (tb ad : Nat → Nat) (sz : Nat), Met l y ws rm (va_Pc (.ref (ad 0) :: as) (gmPre D cI tb ad g sz)) (vp_Si (fun r => ∃ z : Int, r = iN z ∧ P z)) 0 0 (fun _ => False)
abbrev gmRt (l : Launch) (y : MethodName) (ws : List Cond) (rm : Room) (as : (Nat → Nat) → List Value) (g : GS) (P : Int → Prop) : Prop := ∀ (D : va_G) (cI : ClassId) (tb ad : Nat → Nat) (sz : Nat), Met l y ws rm (va_Pc (.ref (ad 0) :: as tb) (gmPre D cI tb ad g sz)) (vp_Si (fun r => ∃ z : Int, r = iN z ∧ P z)) 0 0 (fun _ => False)
abbrev gmQi (D : va_G) (cI : ClassId) (ad : Nat → Nat) (A : Nat → Prop) (below : List Frame) (args : Array Value) (s : State) (P : Int → GS → Prop) : State → Prop := MQ below (va_Qi (fun r g1 => ∃ z : Int, r = iN z ∧ P z g1) (gmAt D cI ad A) A) args s 0 0 A
abbrev gmQv (D : va_G) (cI : ClassId) (ad : Nat → Nat) (A : Nat → Prop) (below : List Frame) (args : Array Value) (s : State) (P : GS → Prop) : State → Prop := MQ below (va_Qv P (gmAt D cI ad A) A) args s 0 0 A
theorem gmMi_of {l : Launch} {y : MethodName} {b : ByteArray} {n : Nat} {ty : FieldType} {rm : Room} {as : List Value} {g : GS} {P : Int → GS → Prop} (hy : plainName y.cls = true) (hlen : (lg_sl (.ref 0 :: as)).length ≤ n) (body : ∀ (p : Program) (e : Env) (s : State) (m : MethodId) (args : Array Value) (below : List Frame) (meth : Method) (c : Code) (D : va_G) (cI : ClassId) (tb ad : Nat → Nat) (A : Nat → Prop) (ls : Array Slot), CallFix p m c b n s args wsL_law y.cls → meth.sig.returnType = some ty → meth.locks = false → va_K D vwCl [(cI, .int)] s → (∀ q, s.heap.size ≤ q → A q) → tB tb A s s.heap → gmB D A s cI ad g s.heap [] → lv_has ls n (lv_args 0 (.ref (ad 0) :: as)) → W p l e rm s m args below meth c s.heap [] 0 0 (gmQi D cI ad A below args s P) (F0 m 0 ls [])) : gmMi l y (wU y b n (some ty)) rm as g P := by
  intro D cI tb ad sz
  refine Met.ofW (cc := b) (maxL := n) (ret := some ty) hy rfl ?_
  intro p e s m args below meth c s₁ B hml hv
  obtain ⟨rfl, hsz, hP, hK, hD0, hT⟩ := hv
  have hts := atoms_spec (ws := wU y b n (some ty)) B.pre
  subst hsz
  have hD := hD0.self (sz := s.heap.size)
  have hl := lv_entry (.ref (ad 0) :: as) (n := n) hlen
  rw [lg_entry_eq]
  exact body p e s m _ below meth c D cI tb ad (va_A (gmW cI ad g) s.heap.size) _ ⟨B.exec, B.bytes, hml, findClass_of_methodNamed B.named, fun w hw => hts w (List.mem_cons_of_mem _ hw)⟩ B.returns B.notSynchronized hK (fun q h => Or.inr h) hT ⟨hP, hD, va_S.rf⟩ hl
theorem gmMv_of {l : Launch} {y : MethodName} {b : ByteArray} {n : Nat} {rm : Room} {as : List Value} {g : GS} {P : GS → Prop} (hy : plainName y.cls = true) (hlen : (lg_sl (.ref 0 :: as)).length ≤ n) (body : ∀ (p : Program) (e : Env) (s : State) (m : MethodId) (args : Array Value) (below : List Frame) (meth : Method) (c : Code) (D : va_G) (cI : ClassId) (tb ad : Nat → Nat) (A : Nat → Prop) (ls : Array Slot), CallFix p m c b n s args wsL_law y.cls → meth.sig.returnType = none → meth.locks = false → va_K D vwCl [(cI, .int)] s → (∀ q, s.heap.size ≤ q → A q) → tB tb A s s.heap → gmB D A s cI ad g s.heap [] → lv_has ls n (lv_args 0 (.ref (ad 0) :: as)) → W p l e rm s m args below meth c s.heap [] 0 0 (gmQv D cI ad A below args s P) (F0 m 0 ls [])) : gmMv l y (wU y b n none) rm as g P := by
  intro D cI tb ad sz
  refine Met.ofW (cc := b) (maxL := n) (ret := none) hy rfl ?_
  intro p e s m args below meth c s₁ B hml hv
  obtain ⟨rfl, hsz, hP, hK, hD0, hT⟩ := hv
  have hts := atoms_spec (ws := wU y b n none) B.pre
  subst hsz
  have hD := hD0.self (sz := s.heap.size)
  have hl := lv_entry (.ref (ad 0) :: as) (n := n) hlen
  rw [lg_entry_eq]
  exact body p e s m _ below meth c D cI tb ad (va_A (gmW cI ad g) s.heap.size) _ ⟨B.exec, B.bytes, hml, findClass_of_methodNamed B.named, fun w hw => hts w (List.mem_cons_of_mem _ hw)⟩ B.returns B.notSynchronized hK (fun q h => Or.inr h) hT ⟨hP, hD, va_S.rf⟩ hl
theorem gmRi_of {l : Launch} {y : MethodName} {b : ByteArray} {n : Nat} {ty : FieldType} {rm : Room} {as : List Value} {g : GS} {P : Int → Prop} (hy : plainName y.cls = true) (hlen : (lg_sl (.ref 0 :: as)).length ≤ n) (body : ∀ (p : Program) (e : Env) (s : State) (m : MethodId) (args : Array Value) (below : List Frame) (meth : Method) (c : Code) (D : va_G) (cI : ClassId) (tb ad : Nat → Nat) (A : Nat → Prop) (ls : Array Slot), CallFix p m c b n s args wsL_law y.cls → meth.sig.returnType = some ty → meth.locks = false → va_K D vwCl [(cI, .int)] s → (∀ q, s.heap.size ≤ q → A q) → tB tb A s s.heap → gmB D A s cI ad g s.heap [] → lv_has ls n (lv_args 0 (.ref (ad 0) :: as)) → W p l e rm s m args below meth c s.heap [] 0 0 (roQ below args s P) (F0 m 0 ls [])) : gmRi l y (wU y b n (some ty)) rm as g P := by
  intro D cI tb ad sz
  refine Met.ofW (cc := b) (maxL := n) (ret := some ty) hy rfl ?_
  intro p e s m args below meth c s₁ B hml hv
  obtain ⟨rfl, hsz, hP, hK, hD0, hT⟩ := hv
  have hts := atoms_spec (ws := wU y b n (some ty)) B.pre
  subst hsz
  have hD := hD0.self (sz := s.heap.size)
  have hl := lv_entry (.ref (ad 0) :: as) (n := n) hlen
  rw [lg_entry_eq]
  exact body p e s m _ below meth c D cI tb ad (va_A (gmW cI ad g) s.heap.size) _ ⟨B.exec, B.bytes, hml, findClass_of_methodNamed B.named, fun w hw => hts w (List.mem_cons_of_mem _ hw)⟩ B.returns B.notSynchronized hK (fun q h => Or.inr h) hT ⟨hP, hD, va_S.rf⟩ hl
theorem gmRt_of {l : Launch} {y : MethodName} {b : ByteArray} {n : Nat} {ty : FieldType} {rm : Room} {as : (Nat → Nat) → List Value} {g : GS} {P : Int → Prop} (hy : plainName y.cls = true) (hlen : ∀ tb : Nat → Nat, (lg_sl (.ref 0 :: as tb)).length ≤ n) (body : ∀ (p : Program) (e : Env) (s : State) (m : MethodId) (args : Array Value) (below : List Frame) (meth : Method) (c : Code) (D : va_G) (cI : ClassId) (tb ad : Nat → Nat) (A : Nat → Prop) (ls : Array Slot), CallFix p m c b n s args wsL_law y.cls → meth.sig.returnType = some ty → meth.locks = false → va_K D vwCl [(cI, .int)] s → (∀ q, s.heap.size ≤ q → A q) → tB tb A s s.heap → gmB D A s cI ad g s.heap [] → lv_has ls n (lv_args 0 (.ref (ad 0) :: as tb)) → W p l e rm s m args below meth c s.heap [] 0 0 (roQ below args s P) (F0 m 0 ls [])) : gmRt l y (wU y b n (some ty)) rm as g P := by
  intro D cI tb ad sz
  refine Met.ofW (cc := b) (maxL := n) (ret := some ty) hy rfl ?_
  intro p e s m args below meth c s₁ B hml hv
  obtain ⟨rfl, hsz, hP, hK, hD0, hT⟩ := hv
  have hts := atoms_spec (ws := wU y b n (some ty)) B.pre
  subst hsz
  have hD := hD0.self (sz := s.heap.size)
  have hl := lv_entry (.ref (ad 0) :: as tb) (n := n) (hlen tb)
  rw [lg_entry_eq]
  exact body p e s m _ below meth c D cI tb ad (va_A (gmW cI ad g) s.heap.size) _ ⟨B.exec, B.bytes, hml, findClass_of_methodNamed B.named, fun w hw => hts w (List.mem_cons_of_mem _ hw)⟩ B.returns B.notSynchronized hK (fun q h => Or.inr h) hT ⟨hP, hD, va_S.rf⟩ hl
section GMC
variable {p : Program} {l : Launch} {e : Env} {R : Room} {s : State} {m : MethodId} {args : Array Value} {below : List Frame} {meth : Method} {c : Code} {H : Heap} {locs : List Loc} {cells slots : Nat} {Q : State → Prop}
variable {cc : ByteArray} {pc nL : Nat} {ls : Array Slot} {rest : List Value} {D : va_G} {A : Nat → Prop} {cI : ClassId} {ad : Nat → Nat} {g : GS} {tb : Nat → Nat}
theorem gm_ret {own : String} {P : Int → GS → Prop} {z : Int} (cx : CallFix p m c cc nL s args wsL_law own) (hr : meth.sig.returnType = some .int) (hlocks : meth.locks = false) (hw : gmB D A s cI ad g H locs) (hP : P z g) (hdg : decode cc pc = .ok (.ireturn, 1)) : W p l e R s m args below meth c H locs 0 0 (gmQi D cI ad A below args s P) (F0 m pc ls [.int (iN z)]) := W.iret cx.1 cx.2.1 hr (fun t ht _ => ⟨⟨_, g, rfl, ⟨z, rfl, hP⟩, by rw [ht]; exact hw.1, hw.2.1⟩, hw.2.2.F ht⟩) hw.2.2.2.2 hdg hlocks
theorem gm_vret {own : String} {P : GS → Prop} (cx : CallFix p m c cc nL s args wsL_law own) (hr : meth.sig.returnType = none) (hlocks : meth.locks = false) (hw : gmB D A s cI ad g H locs) (hP : P g) (hdg : decode cc pc = .ok (.return_, 1)) : W p l e R s m args below meth c H locs 0 0 (gmQv D cI ad A below args s P) (F0 m pc ls []) := W.vret cx.1 cx.2.1 hr (fun t ht _ => ⟨⟨g, rfl, hP, by rw [ht]; exact hw.1, hw.2.1⟩, hw.2.2.F ht⟩) hw.2.2.2.2 hdg hlocks
theorem gm_calli {own : String} {y : MethodName} {b : ByteArray} {n i : Nat} {ty : FieldType} {rm : Room} {as : List Value} {P : Int → GS → Prop} {lv : List (Nat × Value)} (cx : CallFix p m c cc nL s args wsL_law own) (hK : va_K D vwCl [(cI, .int)] s) (hT : tB tb A s s.heap) (hA : ∀ q, s.heap.size ≤ q → A q) (hw : gmB D A s cI ad g H locs) (hl : lv_has ls nL lv) (hM : gmMi l y (wU y b n (some ty)) rm as g P) (hG : GoodIn wsL_law (wsV own i RX0 y (wU y b n (some ty)))) (hrc : rm.cells = 0 ∧ rm.slots = 0) (na : Nat) (hna : as.length = na) (hd : y.cls = RX0 ∧ y.cls ≠ "java/lang/invoke/MethodHandle" ∧ y.cls ≠ "java/lang/invoke/VarHandle" ∧ (parseMethodDescriptor y.desc).map (fun d => d.parameters.length) = some na) (hR : rm.frames + 1 ≤ R.frames ∧ 8 + (n + 11) + rm.locals ≤ R.locals) (hf : cells ≤ R.cells ∧ slots ≤ R.slots) (hc : (rest.map fun v => v.category).sum ≤ 8) (hdg : decode cc pc = .ok (.invokevirtual i, 3)) {st : List Value} (hst : st = as.reverse ++ .ref (ad 0) :: rest) (kk : ∀ (z : Int) (g1 : GS) (H1 : Heap) (locs1 : List Loc), P z g1 → gmB D A s cI ad g1 H1 locs1 → W p l e R s m args below meth c H1 locs1 cells slots Q (F0 m (pc + 3) ls (.int (iN z) :: rest))) : W p l e R s m args below meth c H locs cells slots Q (F0 m pc ls st) := by
  refine va_calli (va_runV (g := F0 m pc ls st) (As := as) (rest := rest) cx (hM D cI tb ad H.size) (cwV na cx.2.2.2.2 hG rfl hrc.1 hrc.2 hd hR) ⟨fun a U gf mk q => ⟨q.1, gmPre_blind gf mk a q.2⟩, va_recv hK hw.1 (ci := 0) (q0 := 0) rfl rfl, fun U hU hW => ⟨rfl, gmPre_call hK hT hA hw hU hW⟩⟩ rfl hna hl.1 hst (lv_room hc) hdg ⟨by omega, by omega⟩) hw.2.2 (fun q _ h => gm_free hw hA q h) (gm_free hw hA) (fun r u t H1 locs1 ht hvm hq hB hz1 hk1 hS => ?_)
  have hF := gm_free hw hA
  obtain ⟨hP1, hD1⟩ := hB
  rw [ht] at hP1
  obtain ⟨z, rfl, hP⟩ := hq
  exact kk z u H1 locs1 hP ⟨hP1, hD1.weaken (fun _ _ _ h => hF _ h), hS⟩
theorem gm_callv {own : String} {y : MethodName} {b : ByteArray} {n i : Nat} {rm : Room} {as : List Value} {P : GS → Prop} {lv : List (Nat × Value)} (cx : CallFix p m c cc nL s args wsL_law own) (hK : va_K D vwCl [(cI, .int)] s) (hT : tB tb A s s.heap) (hA : ∀ q, s.heap.size ≤ q → A q) (hw : gmB D A s cI ad g H locs) (hl : lv_has ls nL lv) (hM : gmMv l y (wU y b n none) rm as g P) (hG : GoodIn wsL_law (wsV own i RX0 y (wU y b n none))) (hrc : rm.cells = 0 ∧ rm.slots = 0) (na : Nat) (hna : as.length = na) (hd : y.cls = RX0 ∧ y.cls ≠ "java/lang/invoke/MethodHandle" ∧ y.cls ≠ "java/lang/invoke/VarHandle" ∧ (parseMethodDescriptor y.desc).map (fun d => d.parameters.length) = some na) (hR : rm.frames + 1 ≤ R.frames ∧ 8 + (n + 11) + rm.locals ≤ R.locals) (hf : cells ≤ R.cells ∧ slots ≤ R.slots) (hc : (rest.map fun v => v.category).sum ≤ 8) (hdg : decode cc pc = .ok (.invokevirtual i, 3)) {st : List Value} (hst : st = as.reverse ++ .ref (ad 0) :: rest) (kk : ∀ (g1 : GS) (H1 : Heap) (locs1 : List Loc), P g1 → gmB D A s cI ad g1 H1 locs1 → W p l e R s m args below meth c H1 locs1 cells slots Q (F0 m (pc + 3) ls rest)) : W p l e R s m args below meth c H locs cells slots Q (F0 m pc ls st) := by
  refine va_callv (va_runV (g := F0 m pc ls st) (As := as) (rest := rest) cx (hM D cI tb ad H.size) (cwV na cx.2.2.2.2 hG rfl hrc.1 hrc.2 hd hR) ⟨fun a U gf mk q => ⟨q.1, gmPre_blind gf mk a q.2⟩, va_recv hK hw.1 (ci := 0) (q0 := 0) rfl rfl, fun U hU hW => ⟨rfl, gmPre_call hK hT hA hw hU hW⟩⟩ rfl hna hl.1 hst (lv_room hc) hdg ⟨by omega, by omega⟩) hw.2.2 (fun q _ h => gm_free hw hA q h) (gm_free hw hA) (fun u t H1 locs1 ht hvm hq hB hz1 hk1 hS => ?_)
  have hF := gm_free hw hA
  obtain ⟨hP1, hD1⟩ := hB
  rw [ht] at hP1
  exact kk u H1 locs1 hq ⟨hP1, hD1.weaken (fun _ _ _ h => hF _ h), hS⟩
theorem gm_callr {own : String} {y : MethodName} {b : ByteArray} {n i : Nat} {ty : FieldType} {rm : Room} {as : List Value} {P : Int → Prop} {lv : List (Nat × Value)} (cx : CallFix p m c cc nL s args wsL_law own) (hK : va_K D vwCl [(cI, .int)] s) (hT : tB tb A s s.heap) (hA : ∀ q, s.heap.size ≤ q → A q) (hw : gmB D A s cI ad g H locs) (hl : lv_has ls nL lv) (hM : gmRi l y (wU y b n (some ty)) rm as g P) (hG : GoodIn wsL_law (wsV own i RX0 y (wU y b n (some ty)))) (hrc : rm.cells = 0 ∧ rm.slots = 0) (na : Nat) (hna : as.length = na) (hd : y.cls = RX0 ∧ y.cls ≠ "java/lang/invoke/MethodHandle" ∧ y.cls ≠ "java/lang/invoke/VarHandle" ∧ (parseMethodDescriptor y.desc).map (fun d => d.parameters.length) = some na) (hR : rm.frames + 1 ≤ R.frames ∧ 8 + (n + 11) + rm.locals ≤ R.locals) (hf : cells ≤ R.cells ∧ slots ≤ R.slots) (hc : (rest.map fun v => v.category).sum ≤ 8) (hdg : decode cc pc = .ok (.invokevirtual i, 3)) {st : List Value} (hst : st = as.reverse ++ .ref (ad 0) :: rest) (kk : ∀ z : Int, P z → W p l e R s m args below meth c H locs cells slots Q (F0 m (pc + 3) ls (.int (iN z) :: rest))) : W p l e R s m args below meth c H locs cells slots Q (F0 m pc ls st) := by
  refine vp_callSi (va_runV (g := F0 m pc ls st) (As := as) (rest := rest) cx (hM D cI tb ad H.size) (cwV na cx.2.2.2.2 hG rfl hrc.1 hrc.2 hd hR) ⟨fun a U gf mk q => ⟨q.1, gmPre_blind gf mk a q.2⟩, va_recv hK hw.1 (ci := 0) (q0 := 0) rfl rfl, fun U hU hW => ⟨rfl, gmPre_call hK hT hA hw hU hW⟩⟩ rfl hna hl.1 hst (lv_room hc) hdg ⟨by omega, by omega⟩).run ?_
  rintro r ⟨z, rfl, hP⟩
  exact kk z hP
theorem gm_callt {own : String} {y : MethodName} {b : ByteArray} {n i : Nat} {ty : FieldType} {rm : Room} {as : (Nat → Nat) → List Value} {P : Int → Prop} {lv : List (Nat × Value)} (cx : CallFix p m c cc nL s args wsL_law own) (hK : va_K D vwCl [(cI, .int)] s) (hT : tB tb A s s.heap) (hA : ∀ q, s.heap.size ≤ q → A q) (hw : gmB D A s cI ad g H locs) (hl : lv_has ls nL lv) (hM : gmRt l y (wU y b n (some ty)) rm as g P) (hG : GoodIn wsL_law (wsV own i RX0 y (wU y b n (some ty)))) (hrc : rm.cells = 0 ∧ rm.slots = 0) (na : Nat) (hna : (as tb).length = na) (hd : y.cls = RX0 ∧ y.cls ≠ "java/lang/invoke/MethodHandle" ∧ y.cls ≠ "java/lang/invoke/VarHandle" ∧ (parseMethodDescriptor y.desc).map (fun d => d.parameters.length) = some na) (hR : rm.frames + 1 ≤ R.frames ∧ 8 + (n + 11) + rm.locals ≤ R.locals) (hf : cells ≤ R.cells ∧ slots ≤ R.slots) (hc : (rest.map fun v => v.category).sum ≤ 8) (hdg : decode cc pc = .ok (.invokevirtual i, 3)) {st : List Value} (hst : st = (as tb).reverse ++ .ref (ad 0) :: rest) (kk : ∀ z : Int, P z → W p l e R s m args below meth c H locs cells slots Q (F0 m (pc + 3) ls (.int (iN z) :: rest))) : W p l e R s m args below meth c H locs cells slots Q (F0 m pc ls st) := by
  refine vp_callSi (va_runV (g := F0 m pc ls st) (As := as tb) (rest := rest) cx (hM D cI tb ad H.size) (cwV na cx.2.2.2.2 hG rfl hrc.1 hrc.2 hd hR) ⟨fun a U gf mk q => ⟨q.1, gmPre_blind gf mk a q.2⟩, va_recv hK hw.1 (ci := 0) (q0 := 0) rfl rfl, fun U hU hW => ⟨rfl, gmPre_call hK hT hA hw hU hW⟩⟩ rfl hna hl.1 hst (lv_room hc) hdg ⟨by omega, by omega⟩).run ?_
  rintro r ⟨z, rfl, hP⟩
  exact kk z hP
end GMC
/-! ===== contracts over one RX2 ===== -/
def mmPre (D : va_G) (cI : ClassId) (tb ad : Nat → Nat) (g : GS) (sz : Nat) (U : State) : Prop := U.heap.size = sz ∧ va_P D vwCl (mmW cI ad g) U.heap ∧ va_K D vwCl [(cI, .int)] U ∧ va_D (fun _ => True) (mmW cI ad g)
theorem mmPre_blind {D : va_G} {cI : ClassId} {tb ad : Nat → Nat} {g : GS} {sz : Nat} {U : State} (gf : JFrame) (mk : MethodId) (a : Array Value) (h : mmPre D cI tb ad g sz U) : mmPre D cI tb ad g sz (U.calling gf mk a) := by
  obtain ⟨q0, qP, qK, qD⟩ := h
  exact ⟨q0, qP, va_K.moved (u := U) (U := U.calling gf mk a) (Vm.Alike.refl U.vm) qK, qD⟩
theorem mm_free {D : va_G} {A : Nat → Prop} {s : State} {cI : ClassId} {ad : Nat → Nat} {g : GS} {H : Heap} {locs : List Loc} (hw : mmB D A s cI ad g H locs) (hA : ∀ q, s.heap.size ≤ q → A q) : ∀ q, va_A (mmW cI ad g) H.size q → A q := va_free hw.2.1 hw.2.2 hA [0, 1, 2, 3, 4] rfl
theorem mmPre_call {D : va_G} {A : Nat → Prop} {s U : State} {cI : ClassId} {tb ad : Nat → Nat} {g : GS} {H : Heap} {locs : List Loc} (hK : va_K D vwCl [(cI, .int)] s) (hA : ∀ q, s.heap.size ≤ q → A q) (hw : mmB D A s cI ad g H locs) (hU : U.heap = H) (hW : s.WarmedH U.vm) : mmPre D cI tb ad g H.size U := ⟨by rw [hU], by rw [hU]; exact hw.1, va_K.moved hW.alike hK, hw.2.1.weaken (fun _ _ _ _ => trivial)⟩
abbrev mmAt (D : va_G) (cI : ClassId) (ad : Nat → Nat) (A : Nat → Prop) (g1 : GS) (t : State) : Prop := va_P D vwCl (mmW cI ad g1) t.heap ∧ va_D A (mmW cI ad g1)
abbrev mmMi (l : Launch) (y : MethodName) (ws : List Cond) (rm : Room) (as : List Value) (g : GS) (P : Int → GS → Prop) : Prop := ∀ (D : va_G) (cI : ClassId) (tb ad : Nat → Nat) (sz : Nat), Met l y ws rm (va_Pc (.ref (ad 0) :: as) (mmPre D cI tb ad g sz)) (va_Qi (fun r g1 => ∃ z : Int, r = iN z ∧ P z g1) (mmAt D cI ad (va_A (mmW cI ad g) sz)) (va_A (mmW cI ad g) sz)) 0 0 (va_A (mmW cI ad g) sz)
abbrev mmMv (l : Launch) (y : MethodName) (ws : List Cond) (rm : Room) (as : List Value) (g : GS) (P : GS → Prop) : Prop := ∀ (D : va_G) (cI : ClassId) (tb ad : Nat → Nat) (sz : Nat), Met l y ws rm (va_Pc (.ref (ad 0) :: as) (mmPre D cI tb ad g sz)) (va_Qv P (mmAt D cI ad (va_A (mmW cI ad g) sz)) (va_A (mmW cI ad g) sz)) 0 0 (va_A (mmW cI ad g) sz)
abbrev mmRi (l : Launch) (y : MethodName) (ws : List Cond) (rm : Room) (as : List Value) (g : GS) (P : Int → Prop) : Prop := ∀ (D : va_G) (cI : ClassId) (tb ad : Nat → Nat) (sz : Nat), Met l y ws rm (va_Pc (.ref (ad 0) :: as) (mmPre D cI tb ad g sz)) (vp_Si (fun r => ∃ z : Int, r = iN z ∧ P z)) 0 0 (fun _ => False)
abbrev mmQi (D : va_G) (cI : ClassId) (ad : Nat → Nat) (A : Nat → Prop) (below : List Frame) (args : Array Value) (s : State) (P : Int → GS → Prop) : State → Prop := MQ below (va_Qi (fun r g1 => ∃ z : Int, r = iN z ∧ P z g1) (mmAt D cI ad A) A) args s 0 0 A
abbrev mmQv (D : va_G) (cI : ClassId) (ad : Nat → Nat) (A : Nat → Prop) (below : List Frame) (args : Array Value) (s : State) (P : GS → Prop) : State → Prop := MQ below (va_Qv P (mmAt D cI ad A) A) args s 0 0 A
theorem mmMi_of {l : Launch} {y : MethodName} {b : ByteArray} {n : Nat} {ty : FieldType} {rm : Room} {as : List Value} {g : GS} {P : Int → GS → Prop} (hy : plainName y.cls = true) (hlen : (lg_sl (.ref 0 :: as)).length ≤ n) (body : ∀ (p : Program) (e : Env) (s : State) (m : MethodId) (args : Array Value) (below : List Frame) (meth : Method) (c : Code) (D : va_G) (cI : ClassId) (tb ad : Nat → Nat) (A : Nat → Prop) (ls : Array Slot), CallFix p m c b n s args wsL_law y.cls → meth.sig.returnType = some ty → meth.locks = false → va_K D vwCl [(cI, .int)] s → (∀ q, s.heap.size ≤ q → A q) → mmB D A s cI ad g s.heap [] → lv_has ls n (lv_args 0 (.ref (ad 0) :: as)) → W p l e rm s m args below meth c s.heap [] 0 0 (mmQi D cI ad A below args s P) (F0 m 0 ls [])) : mmMi l y (wU y b n (some ty)) rm as g P := by
  intro D cI tb ad sz
  refine Met.ofW (cc := b) (maxL := n) (ret := some ty) hy rfl ?_
  intro p e s m args below meth c s₁ B hml hv
  obtain ⟨rfl, hsz, hP, hK, hD0⟩ := hv
  have hts := atoms_spec (ws := wU y b n (some ty)) B.pre
  subst hsz
  have hD := hD0.self (sz := s.heap.size)
  have hl := lv_entry (.ref (ad 0) :: as) (n := n) hlen
  rw [lg_entry_eq]
  exact body p e s m _ below meth c D cI tb ad (va_A (mmW cI ad g) s.heap.size) _ ⟨B.exec, B.bytes, hml, findClass_of_methodNamed B.named, fun w hw => hts w (List.mem_cons_of_mem _ hw)⟩ B.returns B.notSynchronized hK (fun q h => Or.inr h) ⟨hP, hD, va_S.rf⟩ hl
theorem mmMv_of {l : Launch} {y : MethodName} {b : ByteArray} {n : Nat} {rm : Room} {as : List Value} {g : GS} {P : GS → Prop} (hy : plainName y.cls = true) (hlen : (lg_sl (.ref 0 :: as)).length ≤ n) (body : ∀ (p : Program) (e : Env) (s : State) (m : MethodId) (args : Array Value) (below : List Frame) (meth : Method) (c : Code) (D : va_G) (cI : ClassId) (tb ad : Nat → Nat) (A : Nat → Prop) (ls : Array Slot), CallFix p m c b n s args wsL_law y.cls → meth.sig.returnType = none → meth.locks = false → va_K D vwCl [(cI, .int)] s → (∀ q, s.heap.size ≤ q → A q) → mmB D A s cI ad g s.heap [] → lv_has ls n (lv_args 0 (.ref (ad 0) :: as)) → W p l e rm s m args below meth c s.heap [] 0 0 (mmQv D cI ad A below args s P) (F0 m 0 ls [])) : mmMv l y (wU y b n none) rm as g P := by
  intro D cI tb ad sz
  refine Met.ofW (cc := b) (maxL := n) (ret := none) hy rfl ?_
  intro p e s m args below meth c s₁ B hml hv
  obtain ⟨rfl, hsz, hP, hK, hD0⟩ := hv
  have hts := atoms_spec (ws := wU y b n none) B.pre
  subst hsz
  have hD := hD0.self (sz := s.heap.size)
  have hl := lv_entry (.ref (ad 0) :: as) (n := n) hlen
  rw [lg_entry_eq]
  exact body p e s m _ below meth c D cI tb ad (va_A (mmW cI ad g) s.heap.size) _ ⟨B.exec, B.bytes, hml, findClass_of_methodNamed B.named, fun w hw => hts w (List.mem_cons_of_mem _ hw)⟩ B.returns B.notSynchronized hK (fun q h => Or.inr h) ⟨hP, hD, va_S.rf⟩ hl
theorem mmRi_of {l : Launch} {y : MethodName} {b : ByteArray} {n : Nat} {ty : FieldType} {rm : Room} {as : List Value} {g : GS} {P : Int → Prop} (hy : plainName y.cls = true) (hlen : (lg_sl (.ref 0 :: as)).length ≤ n) (body : ∀ (p : Program) (e : Env) (s : State) (m : MethodId) (args : Array Value) (below : List Frame) (meth : Method) (c : Code) (D : va_G) (cI : ClassId) (tb ad : Nat → Nat) (A : Nat → Prop) (ls : Array Slot), CallFix p m c b n s args wsL_law y.cls → meth.sig.returnType = some ty → meth.locks = false → va_K D vwCl [(cI, .int)] s → (∀ q, s.heap.size ≤ q → A q) → mmB D A s cI ad g s.heap [] → lv_has ls n (lv_args 0 (.ref (ad 0) :: as)) → W p l e rm s m args below meth c s.heap [] 0 0 (roQ below args s P) (F0 m 0 ls [])) : mmRi l y (wU y b n (some ty)) rm as g P := by
  intro D cI tb ad sz
  refine Met.ofW (cc := b) (maxL := n) (ret := some ty) hy rfl ?_
  intro p e s m args below meth c s₁ B hml hv
  obtain ⟨rfl, hsz, hP, hK, hD0⟩ := hv
  have hts := atoms_spec (ws := wU y b n (some ty)) B.pre
  subst hsz
  have hD := hD0.self (sz := s.heap.size)
  have hl := lv_entry (.ref (ad 0) :: as) (n := n) hlen
  rw [lg_entry_eq]
  exact body p e s m _ below meth c D cI tb ad (va_A (mmW cI ad g) s.heap.size) _ ⟨B.exec, B.bytes, hml, findClass_of_methodNamed B.named, fun w hw => hts w (List.mem_cons_of_mem _ hw)⟩ B.returns B.notSynchronized hK (fun q h => Or.inr h) ⟨hP, hD, va_S.rf⟩ hl
section MMC
variable {p : Program} {l : Launch} {e : Env} {R : Room} {s : State} {m : MethodId} {args : Array Value} {below : List Frame} {meth : Method} {c : Code} {H : Heap} {locs : List Loc} {cells slots : Nat} {Q : State → Prop}
variable {cc : ByteArray} {pc nL : Nat} {ls : Array Slot} {rest : List Value} {D : va_G} {A : Nat → Prop} {cI : ClassId} {ad : Nat → Nat} {g : GS} {tb : Nat → Nat}
theorem mm_ret {own : String} {P : Int → GS → Prop} {z : Int} (cx : CallFix p m c cc nL s args wsL_law own) (hr : meth.sig.returnType = some .int) (hlocks : meth.locks = false) (hw : mmB D A s cI ad g H locs) (hP : P z g) (hdg : decode cc pc = .ok (.ireturn, 1)) : W p l e R s m args below meth c H locs 0 0 (mmQi D cI ad A below args s P) (F0 m pc ls [.int (iN z)]) := W.iret cx.1 cx.2.1 hr (fun t ht _ => ⟨⟨_, g, rfl, ⟨z, rfl, hP⟩, by rw [ht]; exact hw.1, hw.2.1⟩, hw.2.2.F ht⟩) hw.2.2.2.2 hdg hlocks
theorem mm_vret {own : String} {P : GS → Prop} (cx : CallFix p m c cc nL s args wsL_law own) (hr : meth.sig.returnType = none) (hlocks : meth.locks = false) (hw : mmB D A s cI ad g H locs) (hP : P g) (hdg : decode cc pc = .ok (.return_, 1)) : W p l e R s m args below meth c H locs 0 0 (mmQv D cI ad A below args s P) (F0 m pc ls []) := W.vret cx.1 cx.2.1 hr (fun t ht _ => ⟨⟨g, rfl, hP, by rw [ht]; exact hw.1, hw.2.1⟩, hw.2.2.F ht⟩) hw.2.2.2.2 hdg hlocks
theorem mm_calli {own : String} {y : MethodName} {b : ByteArray} {n i : Nat} {ty : FieldType} {rm : Room} {as : List Value} {P : Int → GS → Prop} {lv : List (Nat × Value)} (cx : CallFix p m c cc nL s args wsL_law own) (hK : va_K D vwCl [(cI, .int)] s) (hA : ∀ q, s.heap.size ≤ q → A q) (hw : mmB D A s cI ad g H locs) (hl : lv_has ls nL lv) (hM : mmMi l y (wU y b n (some ty)) rm as g P) (hG : GoodIn wsL_law (wsV own i RX2 y (wU y b n (some ty)))) (hrc : rm.cells = 0 ∧ rm.slots = 0) (na : Nat) (hna : as.length = na) (hd : y.cls = RX2 ∧ y.cls ≠ "java/lang/invoke/MethodHandle" ∧ y.cls ≠ "java/lang/invoke/VarHandle" ∧ (parseMethodDescriptor y.desc).map (fun d => d.parameters.length) = some na) (hR : rm.frames + 1 ≤ R.frames ∧ 8 + (n + 11) + rm.locals ≤ R.locals) (hf : cells ≤ R.cells ∧ slots ≤ R.slots) (hc : (rest.map fun v => v.category).sum ≤ 8) (hdg : decode cc pc = .ok (.invokevirtual i, 3)) {st : List Value} (hst : st = as.reverse ++ .ref (ad 0) :: rest) (kk : ∀ (z : Int) (g1 : GS) (H1 : Heap) (locs1 : List Loc), P z g1 → mmB D A s cI ad g1 H1 locs1 → W p l e R s m args below meth c H1 locs1 cells slots Q (F0 m (pc + 3) ls (.int (iN z) :: rest))) : W p l e R s m args below meth c H locs cells slots Q (F0 m pc ls st) := by
  refine va_calli (va_runV (g := F0 m pc ls st) (As := as) (rest := rest) cx (hM D cI (fun _ => 0) ad H.size) (cwV na cx.2.2.2.2 hG rfl hrc.1 hrc.2 hd hR) ⟨fun a U gf mk q => ⟨q.1, mmPre_blind gf mk a q.2⟩, va_recv hK hw.1 (ci := 2) (q0 := 0) rfl rfl, fun U hU hW => ⟨rfl, mmPre_call hK hA hw hU hW⟩⟩ rfl hna hl.1 hst (lv_room hc) hdg ⟨by omega, by omega⟩) hw.2.2 (fun q _ h => mm_free hw hA q h) (mm_free hw hA) (fun r u t H1 locs1 ht hvm hq hB hz1 hk1 hS => ?_)
  have hF := mm_free hw hA
  obtain ⟨hP1, hD1⟩ := hB
  rw [ht] at hP1
  obtain ⟨z, rfl, hP⟩ := hq
  exact kk z u H1 locs1 hP ⟨hP1, hD1.weaken (fun _ _ _ h => hF _ h), hS⟩
theorem mm_callv {own : String} {y : MethodName} {b : ByteArray} {n i : Nat} {rm : Room} {as : List Value} {P : GS → Prop} {lv : List (Nat × Value)} (cx : CallFix p m c cc nL s args wsL_law own) (hK : va_K D vwCl [(cI, .int)] s) (hA : ∀ q, s.heap.size ≤ q → A q) (hw : mmB D A s cI ad g H locs) (hl : lv_has ls nL lv) (hM : mmMv l y (wU y b n none) rm as g P) (hG : GoodIn wsL_law (wsV own i RX2 y (wU y b n none))) (hrc : rm.cells = 0 ∧ rm.slots = 0) (na : Nat) (hna : as.length = na) (hd : y.cls = RX2 ∧ y.cls ≠ "java/lang/invoke/MethodHandle" ∧ y.cls ≠ "java/lang/invoke/VarHandle" ∧ (parseMethodDescriptor y.desc).map (fun d => d.parameters.length) = some na) (hR : rm.frames + 1 ≤ R.frames ∧ 8 + (n + 11) + rm.locals ≤ R.locals) (hf : cells ≤ R.cells ∧ slots ≤ R.slots) (hc : (rest.map fun v => v.category).sum ≤ 8) (hdg : decode cc pc = .ok (.invokevirtual i, 3)) {st : List Value} (hst : st = as.reverse ++ .ref (ad 0) :: rest) (kk : ∀ (g1 : GS) (H1 : Heap) (locs1 : List Loc), P g1 → mmB D A s cI ad g1 H1 locs1 → W p l e R s m args below meth c H1 locs1 cells slots Q (F0 m (pc + 3) ls rest)) : W p l e R s m args below meth c H locs cells slots Q (F0 m pc ls st) := by
  refine va_callv (va_runV (g := F0 m pc ls st) (As := as) (rest := rest) cx (hM D cI (fun _ => 0) ad H.size) (cwV na cx.2.2.2.2 hG rfl hrc.1 hrc.2 hd hR) ⟨fun a U gf mk q => ⟨q.1, mmPre_blind gf mk a q.2⟩, va_recv hK hw.1 (ci := 2) (q0 := 0) rfl rfl, fun U hU hW => ⟨rfl, mmPre_call hK hA hw hU hW⟩⟩ rfl hna hl.1 hst (lv_room hc) hdg ⟨by omega, by omega⟩) hw.2.2 (fun q _ h => mm_free hw hA q h) (mm_free hw hA) (fun u t H1 locs1 ht hvm hq hB hz1 hk1 hS => ?_)
  have hF := mm_free hw hA
  obtain ⟨hP1, hD1⟩ := hB
  rw [ht] at hP1
  exact kk u H1 locs1 hq ⟨hP1, hD1.weaken (fun _ _ _ h => hF _ h), hS⟩
theorem mm_callr {own : String} {y : MethodName} {b : ByteArray} {n i : Nat} {ty : FieldType} {rm : Room} {as : List Value} {P : Int → Prop} {lv : List (Nat × Value)} (cx : CallFix p m c cc nL s args wsL_law own) (hK : va_K D vwCl [(cI, .int)] s) (hA : ∀ q, s.heap.size ≤ q → A q) (hw : mmB D A s cI ad g H locs) (hl : lv_has ls nL lv) (hM : mmRi l y (wU y b n (some ty)) rm as g P) (hG : GoodIn wsL_law (wsV own i RX2 y (wU y b n (some ty)))) (hrc : rm.cells = 0 ∧ rm.slots = 0) (na : Nat) (hna : as.length = na) (hd : y.cls = RX2 ∧ y.cls ≠ "java/lang/invoke/MethodHandle" ∧ y.cls ≠ "java/lang/invoke/VarHandle" ∧ (parseMethodDescriptor y.desc).map (fun d => d.parameters.length) = some na) (hR : rm.frames + 1 ≤ R.frames ∧ 8 + (n + 11) + rm.locals ≤ R.locals) (hf : cells ≤ R.cells ∧ slots ≤ R.slots) (hc : (rest.map fun v => v.category).sum ≤ 8) (hdg : decode cc pc = .ok (.invokevirtual i, 3)) {st : List Value} (hst : st = as.reverse ++ .ref (ad 0) :: rest) (kk : ∀ z : Int, P z → W p l e R s m args below meth c H locs cells slots Q (F0 m (pc + 3) ls (.int (iN z) :: rest))) : W p l e R s m args below meth c H locs cells slots Q (F0 m pc ls st) := by
  refine vp_callSi (va_runV (g := F0 m pc ls st) (As := as) (rest := rest) cx (hM D cI (fun _ => 0) ad H.size) (cwV na cx.2.2.2.2 hG rfl hrc.1 hrc.2 hd hR) ⟨fun a U gf mk q => ⟨q.1, mmPre_blind gf mk a q.2⟩, va_recv hK hw.1 (ci := 2) (q0 := 0) rfl rfl, fun U hU hW => ⟨rfl, mmPre_call hK hA hw hU hW⟩⟩ rfl hna hl.1 hst (lv_room hc) hdg ⟨by omega, by omega⟩).run ?_
  rintro r ⟨z, rfl, hP⟩
  exact kk z hP
end MMC
