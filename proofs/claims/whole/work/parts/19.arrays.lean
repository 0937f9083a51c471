def awW (cI : ClassId) (a n : Nat) (F : Nat → Int) : va_W := [(a, .inl (cI, n, .inl (fun j => iN (F j))))]
def awB (D : va_G) (A : Nat → Prop) (s : State) (cI : ClassId) (a n : Nat) (F : Nat → Int) (H : Heap) (locs : List Loc) : Prop := va_P D vwCl (awW cI a n F) H ∧ va_D A (awW cI a n F) ∧ va_S A s.heap H locs
def awPre (D : va_G) (cI : ClassId) (a n : Nat) (F : Nat → Int) (sz : Nat) (U : State) : Prop := U.heap.size = sz ∧ va_P D vwCl (awW cI a n F) U.heap ∧ va_K D vwCl [(cI, .int)] U ∧ va_D (fun _ => True) (awW cI a n F)
theorem awPre_blind {D : va_G} {cI : ClassId} {a n : Nat} {F : Nat → Int} {sz : Nat} {U : State} (gf : JFrame) (mk : MethodId) (x : Array Value) (h : awPre D cI a n F sz U) : awPre D cI a n F sz (U.calling gf mk x) := by
  obtain ⟨q0, qP, qK, qD⟩ := h
  exact ⟨q0, qP, va_K.moved (u := U) (U := U.calling gf mk x) (Vm.Alike.refl U.vm) qK, qD⟩
theorem aw_upd (F : Nat → Int) (k : Nat) (v : Int) : upd (fun j => iN (F j)) k (iN v) = fun j => iN (uf F k v j) := by
  rw [iN_upd]
  rfl
abbrev awMv (l : Launch) (y : MethodName) (ws : List Cond) (rm : Room) (as : Nat → List Value) (n : Nat) (F : Nat → Int) (P : (Nat → Int) → Prop) : Prop := ∀ (D : va_G) (cI : ClassId) (a sz : Nat), Met l y ws rm (va_Pc (as a) (awPre D cI a n F sz)) (va_Qv P (fun F1 t => va_P D vwCl (awW cI a n F1) t.heap ∧ va_D (va_A (awW cI a n F) sz) (awW cI a n F1)) (va_A (awW cI a n F) sz)) 0 0 (va_A (awW cI a n F) sz)
abbrev awRi (l : Launch) (y : MethodName) (ws : List Cond) (rm : Room) (as : Nat → List Value) (n : Nat) (F : Nat → Int) (P : Int → Prop) : Prop := ∀ (D : va_G) (cI : ClassId) (a sz : Nat), Met l y ws rm (va_Pc (as a) (awPre D cI a n F sz)) (vp_Si (fun r => ∃ z : Int, r = iN z ∧ P z)) 0 0 (fun _ => False)
abbrev awQv (D : va_G) (cI : ClassId) (a n : Nat) (A : Nat → Prop) (below : List Frame) (args : Array Value) (s : State) (P : (Nat → Int) → Prop) : State → Prop := MQ below (va_Qv P (fun F1 t => va_P D vwCl (awW cI a n F1) t.heap ∧ va_D A (awW cI a n F1)) A) args s 0 0 A
theorem awMv_of {l : Launch} {y : MethodName} {b : ByteArray} {nn n : Nat} {rm : Room} {as : Nat → List Value} {F : Nat → Int} {P : (Nat → Int) → Prop} (hy : plainName y.cls = true) (hlen : ∀ a : Nat, (lg_sl (as a)).length ≤ nn) (body : ∀ (p : Program) (e : Env) (s : State) (m : MethodId) (args : Array Value) (below : List Frame) (meth : Method) (c : Code) (D : va_G) (cI : ClassId) (a : Nat) (A : Nat → Prop) (ls : Array Slot), CallFix p m c b nn s args wsL_law y.cls → meth.sig.returnType = none → meth.locks = false → va_K D vwCl [(cI, .int)] s → (∀ q, s.heap.size ≤ q → A q) → awB D A s cI a n F s.heap [] → lv_has ls nn (lv_args 0 (as a)) → W p l e rm s m args below meth c s.heap [] 0 0 (awQv D cI a n A below args s P) (F0 m 0 ls [])) : awMv l y (wU y b nn none) rm as n F P := by
  intro D cI a sz
  refine Met.ofW (cc := b) (maxL := nn) (ret := none) hy rfl ?_
  intro p e s m args below meth c s₁ B hml hv
  obtain ⟨rfl, hsz, hP, hK, hD0⟩ := hv
  have hts := atoms_spec (ws := wU y b nn none) B.pre
  subst hsz
  have hD := hD0.self (sz := s.heap.size)
  have hl := lv_entry (as a) (n := nn) (hlen a)
  rw [lg_entry_eq]
  exact body p e s m _ below meth c D cI a (va_A (awW cI a n F) s.heap.size) _ ⟨B.exec, B.bytes, hml, findClass_of_methodNamed B.named, fun w hw => hts w (List.mem_cons_of_mem _ hw)⟩ B.returns B.notSynchronized hK (fun q h => Or.inr h) ⟨hP, hD, va_S.rf⟩ hl
theorem awRi_of {l : Launch} {y : MethodName} {b : ByteArray} {nn n : Nat} {rm : Room} {as : Nat → List Value} {F : Nat → Int} {P : Int → Prop} (hy : plainName y.cls = true) (hlen : ∀ a : Nat, (lg_sl (as a)).length ≤ nn) (body : ∀ (p : Program) (e : Env) (s : State) (m : MethodId) (args : Array Value) (below : List Frame) (meth : Method) (c : Code) (D : va_G) (cI : ClassId) (a : Nat) (A : Nat → Prop) (ls : Array Slot), CallFix p m c b nn s args wsL_law y.cls → meth.sig.returnType = some .int → meth.locks = false → va_K D vwCl [(cI, .int)] s → (∀ q, s.heap.size ≤ q → A q) → awB D A s cI a n F s.heap [] → lv_has ls nn (lv_args 0 (as a)) → W p l e rm s m args below meth c s.heap [] 0 0 (roQ below args s P) (F0 m 0 ls [])) : awRi l y (wU y b nn (some .int)) rm as n F P := by
  intro D cI a sz
  refine Met.ofW (cc := b) (maxL := nn) (ret := some .int) hy rfl ?_
  intro p e s m args below meth c s₁ B hml hv
  obtain ⟨rfl, hsz, hP, hK, hD0⟩ := hv
  have hts := atoms_spec (ws := wU y b nn (some .int)) B.pre
  subst hsz
  have hD := hD0.self (sz := s.heap.size)
  have hl := lv_entry (as a) (n := nn) (hlen a)
  rw [lg_entry_eq]
  exact body p e s m _ below meth c D cI a (va_A (awW cI a n F) s.heap.size) _ ⟨B.exec, B.bytes, hml, findClass_of_methodNamed B.named, fun w hw => hts w (List.mem_cons_of_mem _ hw)⟩ B.returns B.notSynchronized hK (fun q h => Or.inr h) ⟨hP, hD, va_S.rf⟩ hl
section AWR
variable {p : Program} {l : Launch} {e : Env} {R : Room} {s : State} {m : MethodId} {args : Array Value} {below : List Frame} {meth : Method} {c : Code} {H : Heap} {locs : List Loc} {cells slots : Nat} {Q : State → Prop}
variable {cc : ByteArray} {pc nL : Nat} {ls : Array Slot} {rest : List Value} {D : va_G} {A : Nat → Prop} {cI : ClassId} {ad : Nat → Nat} {g : GS} {own : String} {tb : Nat → Nat}
variable {a n : Nat} {F : Nat → Int}
theorem aw_ld (cx : CallFix p m c cc nL s args wsL_law own) (hK : va_K D vwCl [(cI, .int)] s) (hw : awB D A s cI a n F H locs) (k : Nat) {x : Int} (hk : x = (k : Int) ∧ k < n ∧ n ≤ 2147483647) (hdg : decode cc pc = .ok (.iaload, 1)) (kk : ∀ z : Int, z = F k → W p l e R s m args below meth c H locs cells slots Q (F0 m (pc + 1) ls (.int (iN z) :: rest))) : W p l e R s m args below meth c H locs cells slots Q (F0 m pc ls (.int (iN x) :: .ref a :: rest)) := va_iald (D := D) cx.1 cx.2.1 hK hw.1 0 0 (cA := cI) (n := n) (f := fun j => iN (F j)) rfl rfl (iN_in hk.1 hk.2.1 hk.2.2) hdg (by rw [iN_k hk.1 hk.2.1 hk.2.2]; exact kk _ rfl)
theorem aw_st (cx : CallFix p m c cc nL s args wsL_law own) (hK : va_K D vwCl [(cI, .int)] s) (hw : awB D A s cI a n F H locs) (k : Nat) {x v : Int} (hk : x = (k : Int) ∧ k < n ∧ n ≤ 2147483647) (hdg : decode cc pc = .ok (.iastore, 1)) (kk : ∀ (F1 : Nat → Int) (H1 : Heap) (locs1 : List Loc), F1 = uf F k v → awB D A s cI a n F1 H1 locs1 → W p l e R s m args below meth c H1 locs1 cells slots Q (F0 m (pc + 1) ls rest)) : W p l e R s m args below meth c H locs cells slots Q (F0 m pc ls (.int (iN v) :: .int (iN x) :: .ref a :: rest)) := va_iast (D := D) cx.1 cx.2.1 hK hw.1 hw.2.1 hw.2.2 0 0 (cA := cI) (n := n) (f := fun j => iN (F j)) rfl rfl (iN_in hk.1 hk.2.1 hk.2.2) hdg (fun H1 locs1 hP hD hS => kk _ H1 locs1 rfl (by
  rw [iN_k hk.1 hk.2.1 hk.2.2, aw_upd] at hP hD
  exact ⟨hP, hD, hS⟩))
theorem aw_len (cx : CallFix p m c cc nL s args wsL_law own) (hK : va_K D vwCl [(cI, .int)] s) (hw : awB D A s cI a n F H locs) (hdg : decode cc pc = .ok (.arraylength, 1)) (kk : W p l e R s m args below meth c H locs cells slots Q (F0 m (pc + 1) ls (.int (iN (n : Int)) :: rest))) : W p l e R s m args below meth c H locs cells slots Q (F0 m pc ls (.ref a :: rest)) := va_alen (D := D) cx.1 cx.2.1 hK hw.1 0 0 (cA := cI) (x := (n, .inl (fun j => iN (F j)))) rfl rfl (v := iN (n : Int)) (by rw [iN]; exact (Int32.ofInt_eq_ofNat).symm) hdg kk
theorem aw_ret {P : Int → Prop} {z : Int} (cx : CallFix p m c cc nL s args wsL_law own) (hr : meth.sig.returnType = some .int) (hlocks : meth.locks = false) (hP : P z) (hdg : decode cc pc = .ok (.ireturn, 1)) : W p l e R s m args below meth c s.heap [] 0 0 (roQ below args s P) (F0 m pc ls [.int (iN z)]) := ro_ret cx hr hlocks hP hdg
theorem aw_vret {P : (Nat → Int) → Prop} (cx : CallFix p m c cc nL s args wsL_law own) (hr : meth.sig.returnType = none) (hlocks : meth.locks = false) (hw : awB D A s cI a n F H locs) (hP : P F) (hdg : decode cc pc = .ok (.return_, 1)) : W p l e R s m args below meth c H locs 0 0 (awQv D cI a n A below args s P) (F0 m pc ls []) := W.vret cx.1 cx.2.1 hr (fun t ht _ => ⟨⟨F, rfl, hP, by rw [ht]; exact hw.1, hw.2.1⟩, hw.2.2.F ht⟩) hw.2.2.2.2 hdg hlocks
/-- a static method over one array of a bigger world, that it only reads -/
theorem aw_callr {y : MethodName} {b : ByteArray} {nn i : Nat} {rm : Room} {as : Nat → List Value} {P : Int → Prop} {lv : List (Nat × Value)} {ws : va_W} {tys : List (ClassId × FieldType)} (cx : CallFix p m c cc nL s args wsL_law own) (hK : va_K D vwCl tys s) (hKi : tys[0]? = some (cI, .int)) (hP0 : va_P D vwCl ws H) (q : Nat) (hq : ws[q]? = some (a, .inl (cI, n, .inl (fun j => iN (F j))))) (hl : lv_has ls nL lv) (hM : awRi l y (wU y b nn (some .int)) rm as n F P) (hG : GoodIn wsL_law (va_wsS own i y (wU y b nn (some .int)))) (hrc : rm.cells = 0 ∧ rm.slots = 0) (na : Nat) (hna : (as a).length = na) (hd : y.cls ≠ "java/lang/invoke/MethodHandle" ∧ y.cls ≠ "java/lang/invoke/VarHandle" ∧ (parseMethodDescriptor y.desc).map (fun d => d.parameters.length) = some na) (hR : rm.frames + 1 ≤ R.frames ∧ 8 + (nn + 11) + rm.locals ≤ R.locals) (hf : cells ≤ R.cells ∧ slots ≤ R.slots) (hc : (rest.map fun v => v.category).sum ≤ 8) (hdg : decode cc pc = .ok (.invokestatic i, 3)) {st : List Value} (hst : st = (as a).reverse ++ rest) (kk : ∀ z : Int, P z → W p l e R s m args below meth c H locs cells slots Q (F0 m (pc + 3) ls (.int (iN z) :: rest))) : W p l e R s m args below meth c H locs cells slots Q (F0 m pc ls st) := by
  refine vp_callSi (va_runS (g := F0 m pc ls st) (As := as a) (rest := rest) cx (hM D cI a H.size) (va_cwS na cx.2.2.2.2 hG rfl hrc.1 hrc.2 hd hR) ⟨fun x U gf mk q => ⟨q.1, awPre_blind gf mk x q.2⟩, fun U hU hW => ⟨rfl, by rw [hU], by rw [hU]; exact hP0.sub [q] (by rw [List.filterMap_cons_some hq]; rfl), va_K.moved hW.alike (hK.sub [0] (by rw [List.filterMap_cons_some hKi]; rfl)), ⟨fun i j p q hi hj _ => by have h1 := (List.getElem?_eq_some_iff.mp hi).1; have h2 := (List.getElem?_eq_some_iff.mp hj).1; simp only [awW, List.length_singleton] at h1 h2; omega, fun _ _ _ => trivial⟩⟩⟩ rfl hna hl.1 hst (lv_room hc) hdg ⟨by omega, by omega⟩).run ?_
  rintro r ⟨z, rfl, hP⟩
  exact kk z hP
def uF (g : GS) (a n : Nat) (F : Nat → Int) : GS := fun a' j => if a' = a ∧ j < n then F j else g a' j
theorem uF_row (g : GS) {a n a' : Nat} {F : Nat → Int} (h : a' ≠ a) : uF g a n F a' = g a' := by
  funext j
  exact if_neg fun q => h q.1
theorem uF_s (g : GS) (a n : Nat) (F : Nat → Int) (j : Nat) : uF g a n F a j = if j < n then F j else g a j := by
  unfold uF
  by_cases h : j < n
  · rw [if_pos ⟨rfl, h⟩, if_pos h]
  · rw [if_neg fun q => h q.2, if_neg h]
/-- Arrays.fill over the scrapped cards -/
theorem aw_fill3 {y : MethodName} {b : ByteArray} {nn i : Nat} {rm : Room} {as : Nat → List Value} {P : (Nat → Int) → Prop} {lv : List (Nat × Value)} (cx : CallFix p m c cc nL s args wsL_law own) (hK : va_K D vwCl [(cI, .int)] s) (hA : ∀ q, s.heap.size ≤ q → A q) (hw : gmB D A s cI ad g H locs) (hl : lv_has ls nL lv) (hM : awMv l y (wU y b nn none) rm as 10 (g 3) P) (hG : GoodIn wsL_law (va_wsS own i y (wU y b nn none))) (hrc : rm.cells = 0 ∧ rm.slots = 0) (na : Nat) (hna : (as (ad 4)).length = na) (hd : y.cls ≠ "java/lang/invoke/MethodHandle" ∧ y.cls ≠ "java/lang/invoke/VarHandle" ∧ (parseMethodDescriptor y.desc).map (fun d => d.parameters.length) = some na) (hR : rm.frames + 1 ≤ R.frames ∧ 8 + (nn + 11) + rm.locals ≤ R.locals) (hf : cells ≤ R.cells ∧ slots ≤ R.slots) (hc : (rest.map fun v => v.category).sum ≤ 8) (hdg : decode cc pc = .ok (.invokestatic i, 3)) {st : List Value} (hst : st = (as (ad 4)).reverse ++ rest) (kk : ∀ (g1 : GS) (H1 : Heap) (locs1 : List Loc), P (g1 3) → g1 0 = g 0 → g1 1 = g 1 → g1 2 = g 2 → g1 4 = g 4 → gmB D A s cI ad g1 H1 locs1 → W p l e R s m args below meth c H1 locs1 cells slots Q (F0 m (pc + 3) ls rest)) : W p l e R s m args below meth c H locs cells slots Q (F0 m pc ls st) := by
  have hPc := hw.1.sub (ws' := awW cI (ad 4) 10 (g 3)) [4] rfl
  have hDc := hw.2.1.sub (ws' := awW cI (ad 4) 10 (g 3)) [4] (by decide) rfl
  have hFc := va_free (wc := awW cI (ad 4) 10 (g 3)) hw.2.1 hw.2.2 hA [4] rfl
  refine va_callv (va_runS (g := F0 m pc ls st) (As := as (ad 4)) (rest := rest) cx (hM D cI (ad 4) H.size) (va_cwS na cx.2.2.2.2 hG rfl hrc.1 hrc.2 hd hR) ⟨fun x U gf mk q => ⟨q.1, awPre_blind gf mk x q.2⟩, fun U hU hW => ⟨rfl, by rw [hU], by rw [hU]; exact hPc, va_K.moved hW.alike hK, hDc.weaken (fun _ _ _ _ => trivial)⟩⟩ rfl hna hl.1 hst (lv_room hc) hdg ⟨by omega, by omega⟩) hw.2.2 (fun q _ h => hFc q h) hFc (fun u t H1 locs1 ht hvm hq hB hz1 hk1 hS => ?_)
  obtain ⟨hP1, hD1⟩ := hB
  rw [ht] at hP1
  obtain ⟨hP, hD⟩ := va_join (wr := [(ad 0, .inr (0, gmF ad g)), (ad 1, .inl (cI, 164, .inl (fun j => iN (g 0 j)))), (ad 2, .inl (cI, 17, .inl (fun j => iN (g 1 j)))), (ad 3, .inl (cI, 10, .inl (fun j => iN (g 2 j))))]) (w1 := awW cI (ad 4) 10 u) hw.1 hw.2.1 [4] [0, 1, 2, 3] rfl rfl (by decide) (by decide) hk1 hFc hP1 hD1
  exact kk (fun a' j => if a' = 3 then u j else g a' j) H1 locs1 hq rfl rfl rfl rfl ⟨hP, hD, hS⟩
/-- FIRST_PILES to the piles -/
theorem gm_cpy8 {i : Nat} {lv : List (Nat × Value)} (cx : CallFix p m c cc nL s args wsL_law own) (hK : va_K D vwCl [(cI, .int)] s) (hT : tB tb A s s.heap) (hw : gmB D A s cI ad g H locs) (hl : lv_has ls nL lv) (ht : tcW own i) (hR : 1 ≤ R.frames ∧ (rest.map fun v => v.category).sum + 18 ≤ R.locals) (hdg : decode cc pc = .ok (.invokestatic i, 3))
    (kk : ∀ (g1 : GS) (H1 : Heap) (locs1 : List Loc), g1 = uF g 2 10 (tv 8) → gmB D A s cI ad g1 H1 locs1 → W p l e R s m args below meth c H1 locs1 cells slots Q (F0 m (pc + 3) ls rest)) : W p l e R s m args below meth c H locs cells slots Q (F0 m pc ls (.int (iN 10) :: .int (iN 0) :: .ref (ad 3) :: .int (iN 0) :: .ref (tb 8) :: rest)) := by
  obtain ⟨-, ⟨n8, xs8, hn8, hX8, hv8⟩, h3, h4, -⟩ := hT 8 (by decide)
  have e0 : (iN 0).toNatClampNeg = 0 := by decide
  have e10 : (iN 10).toNatClampNeg = 10 := by decide
  refine va_copyx (D := D) cx.1 cx.2.1 (cx.2.2.1.trans hl.1.symm) cx.2.2.2.1 (cx.2.2.2.2 _ ht.1) (cx.2.2.2.2 _ ht.2.1) (cx.2.2.2.2 _ ht.2.2.1) (cx.2.2.2.2 _ ht.2.2.2) hK hw.1 hw.2.1 hw.2.2 hX8 h3 h4 3 0 (c1 := cI) (n1 := 10) (g := fun j => iN (g 2 j)) rfl rfl (by decide) (by decide) (by decide) (by rw [e0, e10]; have := hn8.1; omega) (by decide) hR.1 hR.2 hdg (fun H1 locs1 hP hD hS => kk _ H1 locs1 rfl ?_)
  have e : va_cpy xs8 (fun j => iN (g 2 j)) (iN 0).toNatClampNeg (iN 0).toNatClampNeg (iN 10).toNatClampNeg = fun j => iN (uF g 2 10 (tv 8) 2 j) := by
    rw [e0, e10]
    funext j
    rw [uF_s]
    unfold va_cpy
    by_cases hj : j < 10
    · rw [if_pos (by omega), if_pos hj, show 0 + (j - 0) = j by omega, hv8 j hj]
    · rw [if_neg (by omega), if_neg hj]
  rw [e] at hP hD
  exact ⟨hP, hD, hS⟩
end AWR
