theorem tk_RX2_153 : Cond.constantFloat RX2 153 (1056964608) ∈ wsL_law := (tw_in21 _ (List.mem_of_getElem? (i := 13) rfl))
theorem tk_RX2_155 : Cond.constantFloat RX2 155 (1258291200) ∈ wsL_law := (tw_in21 _ (List.mem_of_getElem? (i := 15) rfl))
theorem tk_RX1_193 : Cond.constantFloat RX1 193 (1258291200) ∈ wsL_law := (tw_in21 _ (List.mem_of_getElem? (i := 5) rfl))
theorem fn_cv {v w : UInt32} {c : Nat} {q r : Int} (h : FN v c q) (hw : FP.Core.val32 w = .fin false 8388608 r) (op : CmpOp) : ∃ z : Int, Op.cmpValue (FP.fcmp v w) op = iN z ∧ ((q < r ∧ z = -1) ∨ (r ≤ q ∧ 0 ≤ z ∧ z ≤ 1)) := by
  by_cases hq : q < r
  · rw [fn_lt h hw hq]
    exact ⟨-1, by cases op <;> rfl, Or.inl ⟨hq, rfl⟩⟩
  · rcases fn_ge h hw (by omega) with e | e
    · rw [e]
      exact ⟨1, by cases op <;> rfl, Or.inr ⟨by omega, by decide, by decide⟩⟩
    · rw [e]
      exact ⟨0, by cases op <;> rfl, Or.inr ⟨by omega, by decide, by decide⟩⟩
def FV (v : UInt32) : Prop := FP.Core.val32 v = .fin false 0 (-149) ∨ ∃ (c : Nat) (q : Int), FN v c q ∧ -32 ≤ q ∧ q ≤ -14
theorem fn_cz {v : UInt32} (h : FV v) (op : CmpOp) : ∃ z : Int, Op.cmpValue (FP.fcmp v FP.fconst0) op = iN z ∧ ((z = 0 ∧ bitsD v = 0) ∨ (z = 1 ∧ ∃ (c : Nat) (q : Int), FN v c q ∧ -32 ≤ q ∧ q ≤ -14)) := by
  rcases h with h | ⟨c, q, h, h2⟩
  · have e : FP.fcmp v FP.fconst0 = some .eq := by
      show FP.Core.order (FP.Core.val32 v) (FP.Core.val32 FP.fconst0) = _
      rw [h, v_zero]
      decide +kernel
    rw [e]
    refine ⟨0, by cases op <;> rfl, Or.inl ⟨rfl, ?_⟩⟩
    unfold bitsD
    rw [h]
    rfl
  · rw [fn_pos h]
    exact ⟨1, by cases op <;> rfl, Or.inr ⟨rfl, c, q, h, h2⟩⟩
theorem bitsD_n {v : UInt32} {c : Nat} {q : Int} (h : FN v c q) : bitsD v = (q + 150) * 8388608 + ((c : Int) - 8388608) := by
  unfold bitsD
  rw [h.1]
  show (if c = 0 then (0 : Int) else _) = _
  rw [if_neg (by have := h.2.1; omega)]
theorem fn_fi {v : UInt32} {c : Nat} (h : FN v c (-23)) : ∃ z : Int, FP.f2i (FP.fmul (FP.fsub v FP.fconst1) 1258291200) = iN z ∧ z = (c : Int) - 8388608 := by
  obtain ⟨t, ht⟩ : ∃ t : Nat, c = 8388608 + t := ⟨c - 8388608, by have := h.2.1; omega⟩
  exact ⟨(t : Int), (fn_fin h ht).2.2, by omega⟩
theorem fn_fs {v : UInt32} {c : Nat} (h : FN v c (-23)) : vf_n32 (FP.fsub v FP.fconst1) ∧ vf_n32 (FP.fmul (FP.fsub v FP.fconst1) 1258291200) := by
  obtain ⟨t, ht⟩ : ∃ t : Nat, c = 8388608 + t := ⟨c - 8388608, by have := h.2.1; omega⟩
  exact ⟨(fn_fin h ht).1, (fn_fin h ht).2.1⟩
set_option maxHeartbeats 4000000 in
set_option maxRecDepth 100000 in
theorem c_X2_bitsOf (l : Launch) (v : UInt32) (hfv : FV v) : psRi l yX2_bitsOf (wU yX2_bitsOf cX2_bitsOf 3 (some .int)) ({ frames := 0, cells := 0, slots := 0, locals := 0 } : Room) [.float v] (fun z => z = bitsD v) := by
  refine psRi_of (by decide) (Nat.le_of_ble_eq_true rfl) ?_
  intro p e s m args below meth c ls cx hr hlocks hl
  have hx := cx.1
  have hb := cx.2.1
  have hl : lv_has ls 3 [(0, .float v)] := hl
  refine lv_fload_n hx hb dX2_bitsOf_0 rfl (lv_at hl 0 rfl) ?_
  refine lv_fconst0 hx hb dX2_bitsOf_1 ?_
  obtain ⟨z2, hc2, hz2⟩ := fn_cz hfv .l
  refine lv_fcmp hx hb dX2_bitsOf_2 ?_
  rw [hc2]
  refine ts_if_ne (tgt := 8) hx hb (by omega) dX2_bitsOf_3 (by decide) (fun c3 => ?_) (fun c3 => ?_)
  · skip
    obtain ⟨cc, qq, hfn, hqq⟩ : ∃ (c : Nat) (q : Int), FN v c q ∧ -32 ≤ q ∧ q ≤ -14 := by
      rcases hz2 with q | q
      · exact absurd q.1 (by omega)
      · exact q.2
    refine ts_bipush hx hb dX2_bitsOf_8 (by decide) ?_
    refine lv_istore_n (lv' := [(1, .int (iN 127)), (0, .float v)]) hx hb dX2_bitsOf_10 rfl hl (by decide) rfl (fun ls hl => ?_)
    refine lv_fload_n hx hb dX2_bitsOf_11 rfl (lv_at hl 1 rfl) ?_
    refine lv_fstore_n (lv' := [(2, .float v), (1, .int (iN 127)), (0, .float v)]) hx hb dX2_bitsOf_12 rfl hl (by decide) rfl (fun ls hl => ?_)
    have cut13 : ∀ (fu : Nat) (w : UInt32) (pw : Int) (qw : Int) (hmu : (0 - qw).toNat < fu) (hn : FN w cc qw) (hp : pw = 150 + qq - (qw + 23) ∧ -32 ≤ qw ∧ qw ≤ -14) (ls : Array Slot) (hl : lv_has ls 3 [(1, .int (iN pw)), (2, .float w)]), W p l e ({ frames := 0, cells := 0, slots := 0, locals := 0 } : Room) s m args below meth c s.heap [] 0 0 (roQ below args s (fun z => z = bitsD v)) (F0 m 13 ls []) := by
      intro fu
      induction fu with
      | zero => intro w pw qw hmu; exact absurd hmu (Nat.not_lt_zero _)
      | succ fu ih13 =>
        intro w pw qw hmu hn hp ls hl
        refine lv_fload_n hx hb dX2_bitsOf_13 rfl (lv_at hl 1 rfl) ?_
        refine lv_fconst1 hx hb dX2_bitsOf_14 ?_
        obtain ⟨z15, hc15, hz15⟩ := fn_cv hn v_one .g
        refine lv_fcmp hx hb dX2_bitsOf_15 ?_
        rw [hc15]
        refine ts_if_ge (tgt := 29) hx hb (by omega) dX2_bitsOf_16 (by decide) (fun c16 => ?_) (fun c16 => ?_)
        · skip
          have cut29 : ∀ (fu : Nat) (w2 : UInt32) (p2 : Int) (q2 : Int) (hmu : (q2 + 50).toNat < fu) (hn2 : FN w2 cc q2) (hp2 : p2 = 150 + qq - (q2 + 23) ∧ -23 ≤ q2 ∧ q2 ≤ -14) (ls : Array Slot) (hl : lv_has ls 3 [(1, .int (iN p2)), (2, .float w2)]), W p l e ({ frames := 0, cells := 0, slots := 0, locals := 0 } : Room) s m args below meth c s.heap [] 0 0 (roQ below args s (fun z => z = bitsD v)) (F0 m 29 ls []) := by
            intro fu
            induction fu with
            | zero => intro w2 p2 q2 hmu; exact absurd hmu (Nat.not_lt_zero _)
            | succ fu ih29 =>
              intro w2 p2 q2 hmu hn2 hp2 ls hl
              refine lv_fload_n hx hb dX2_bitsOf_29 rfl (lv_at hl 1 rfl) ?_
              refine lv_fconst2 hx hb dX2_bitsOf_30 ?_
              obtain ⟨z31, hc31, hz31⟩ := fn_cv hn2 v_two .l
              refine lv_fcmp hx hb dX2_bitsOf_31 ?_
              rw [hc31]
              refine ts_if_lt (tgt := 46) hx hb (by omega) dX2_bitsOf_32 (by decide) (fun c32 => ?_) (fun c32 => ?_)
              · skip
                have hq23 : q2 = -23 := by omega
                rw [hq23] at hn2
                refine lv_iload_n hx hb dX2_bitsOf_46 rfl (lv_at hl 0 rfl) ?_
                refine ts_ldc (z := 8388608) hx hb cx.2.2.2.1 cx.2.2.2.2 tk_RX2_154 dX2_bitsOf_47 ?_
                refine ts_imul hx hb dX2_bitsOf_49 (fun z49 hz49 => ?_)
                refine lv_fload_n hx hb dX2_bitsOf_50 rfl (lv_at hl 1 rfl) ?_
                refine lv_fconst1 hx hb dX2_bitsOf_51 ?_
                obtain ⟨f52, hf52⟩ : ∃ f, f = FP.fsub (w2) (FP.fconst1) := ⟨_, rfl⟩
                refine lv_fsub hx hb dX2_bitsOf_52 ((fn_fs hn2).1) ?_
                rw [← hf52]
                refine lv_ldcf (v := 1258291200) hx hb cx.2.2.2.1 (cx.2.2.2.2 _ tk_RX2_155) dX2_bitsOf_53 ?_
                obtain ⟨f55, hf55⟩ : ∃ f, f = FP.fmul (f52) (1258291200) := ⟨_, rfl⟩
                refine lv_fmul hx hb dX2_bitsOf_55 (by rw [hf52]; exact (fn_fs hn2).2) ?_
                rw [← hf55]
                obtain ⟨z56, hc56, hz56⟩ := (show ∃ z : Int, FP.f2i f55 = iN z ∧ z = (cc : Int) - 8388608 by rw [hf55, hf52]; exact fn_fi hn2)
                refine lv_f2i hx hb dX2_bitsOf_56 ?_
                rw [hc56]
                refine ts_iadd hx hb dX2_bitsOf_57 (fun z57 hz57 => ?_)
                exact ro_ret cx hr hlocks (by rw [bitsD_n hfn]; omega) dX2_bitsOf_58
              · skip
                refine lv_fload_n hx hb dX2_bitsOf_35 rfl (lv_at hl 1 rfl) ?_
                refine lv_ldcf (v := 1056964608) hx hb cx.2.2.2.1 (cx.2.2.2.2 _ tk_RX2_153) dX2_bitsOf_36 ?_
                obtain ⟨f38, hf38⟩ : ∃ f, f = FP.fmul (w2) (1056964608) := ⟨_, rfl⟩
                refine lv_fmul hx hb dX2_bitsOf_38 (fn_n (fn_mul hn2 v_half (by omega))) ?_
                rw [← hf38]
                have hnn2 : FN f38 cc (q2 - 1) := by
                  rw [hf38, show q2 - 1 = q2 + -24 + 23 by omega]
                  exact fn_mul hn2 v_half (by omega)
                refine lv_fstore_n (lv' := [(2, .float f38), (1, .int (iN p2))]) hx hb dX2_bitsOf_39 rfl hl (by decide) rfl (fun ls hl => ?_)
                obtain ⟨z40, hz40⟩ : ∃ z : Int, z = p2 + 1 := ⟨_, rfl⟩
                refine lv_iinc (v := iN z40) (lv' := [(1, .int (iN z40)), (2, .float f38)]) hx hb dX2_bitsOf_40 hl (k := 1) rfl (by rw [hz40]; exact iN_add _ _) (by decide) rfl (fun ls hl => ?_)
                refine lv_goto (tgt := 29) hx hb dX2_bitsOf_43 (by decide) ?_
                exact ih29 (f38) (z40) (q2 - 1) (by omega) (hnn2) (by omega) _ (lv_sub hl [0, 1] rfl)
          exact cut29 _ (w) (pw) (qw) (Nat.lt_succ_self _) (hn) (by omega) _ (lv_sub hl [0, 1] rfl)
        · skip
          refine lv_fload_n hx hb dX2_bitsOf_19 rfl (lv_at hl 1 rfl) ?_
          refine lv_fconst2 hx hb dX2_bitsOf_20 ?_
          obtain ⟨f21, hf21⟩ : ∃ f, f = FP.fmul (w) (FP.fconst2) := ⟨_, rfl⟩
          refine lv_fmul hx hb dX2_bitsOf_21 (fn_n (fn_mul hn v_two (by omega))) ?_
          rw [← hf21]
          have hnn : FN f21 cc (qw + 1) := by
            rw [hf21, show qw + 1 = qw + -22 + 23 by omega]
            exact fn_mul hn v_two (by omega)
          refine lv_fstore_n (lv' := [(2, .float f21), (1, .int (iN pw))]) hx hb dX2_bitsOf_22 rfl hl (by decide) rfl (fun ls hl => ?_)
          obtain ⟨z23, hz23⟩ : ∃ z : Int, z = pw + (-1) := ⟨_, rfl⟩
          refine lv_iinc (v := iN z23) (lv' := [(1, .int (iN z23)), (2, .float f21)]) hx hb dX2_bitsOf_23 hl (k := 1) rfl (by rw [hz23]; exact iN_add _ _) (by decide) rfl (fun ls hl => ?_)
          refine lv_goto (tgt := 13) hx hb dX2_bitsOf_26 (by decide) ?_
          exact ih13 (f21) (z23) (qw + 1) (by omega) (hnn) (by omega) _ (lv_sub hl [0, 1] rfl)
    exact cut13 _ (v) (127) (qq) (Nat.lt_succ_self _) (hfn) (by omega) _ (lv_sub hl [1, 0] rfl)
  · skip
    have hR : bitsD v = 0 := by
      rcases hz2 with q | q
      · exact q.2
      · exact absurd q.1 (by omega)
    refine ts_iconst hx hb dX2_bitsOf_6 ?_
    exact ro_ret cx hr hlocks (hR.symm) dX2_bitsOf_7
