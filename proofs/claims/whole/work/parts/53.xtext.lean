theorem tb_n (n : Nat) : (iN (n : Int)).toBitVec = BitVec.ofNat 32 n := rfl
theorem or_n {a b c : Nat} (h : a ||| b = c) (ha : a < 4294967296) (hb : b < 4294967296) (hc : c < 4294967296) : iN (a : Int) ||| iN (b : Int) = iN (c : Int) := by
  apply Int32.toBitVec.inj
  rw [Int32.toBitVec_or, tb_n, tb_n, tb_n]
  apply BitVec.eq_of_toNat_eq
  rw [BitVec.toNat_or, BitVec.toNat_ofNat, BitVec.toNat_ofNat, BitVec.toNat_ofNat, Nat.mod_eq_of_lt ha, Nat.mod_eq_of_lt hb, Nat.mod_eq_of_lt hc]
  exact h
theorem or23 {e f : Nat} (he : e < 256) (hf : f < 8388608) : iN ((e * 8388608 : Nat) : Int) ||| iN ((f : Nat) : Int) = iN ((e * 8388608 + f : Nat) : Int) := by
  have h2 : (2 : Nat) ^ 23 = 8388608 := by decide
  have h := Nat.shiftLeft_add_eq_or_of_lt (i := 23) (b := f) (by rw [h2]; exact hf) e
  rw [Nat.shiftLeft_eq, h2] at h
  exact or_n h.symm (by omega) (by omega) (by omega)
theorem shl23 : ∀ e : Fin 256, iN (e.1 : Int) <<< (iN 23 &&& 31) = iN ((e.1 * 8388608 : Nat) : Int) := by decide +kernel
section SHB
variable {p : Program} {l : Launch} {e : Env} {R : Room} {s : State} {m : MethodId} {args : Array Value} {below : List Frame} {meth : Method} {c : Code} {H : Heap} {locs : List Loc} {cells slots : Nat} {Q : State → Prop}
variable {cc : ByteArray} {pc : Nat} {ls : Array Slot} {rest : List Value}
theorem ts_shl23 (hx : p.tables.exec = Jvm.exec) (hb : c.code = cc) {a : Int} (ha : 0 ≤ a ∧ a < 256) (hdg : decode cc pc = .ok (.ishl, 1)) (kk : ∀ z : Int, z = a * 8388608 → W p l e R s m args below meth c H locs cells slots Q (F0 m (pc + 1) ls (.int (iN z) :: rest))) : W p l e R s m args below meth c H locs cells slots Q (F0 m pc ls (.int (iN 23) :: .int (iN a) :: rest)) := by
  obtain ⟨k, rfl⟩ : ∃ k : Nat, a = (k : Int) := ⟨a.toNat, by omega⟩
  refine lv_ishl hx hb hdg ?_
  rw [shl23 ⟨k, by omega⟩]
  exact kk _ (by rw [Int.natCast_mul]; rfl)
theorem ts_or23 (hx : p.tables.exec = Jvm.exec) (hb : c.code = cc) {a b f : Int} (ha : (0 ≤ a ∧ a < 256) ∧ b = a * 8388608 ∧ (0 ≤ f ∧ f < 8388608)) (hdg : decode cc pc = .ok (.ior, 1)) (kk : ∀ z : Int, z = a * 8388608 + f → W p l e R s m args below meth c H locs cells slots Q (F0 m (pc + 1) ls (.int (iN z) :: rest))) : W p l e R s m args below meth c H locs cells slots Q (F0 m pc ls (.int (iN f) :: .int (iN b) :: rest)) := by
  obtain ⟨h1, rfl, h2⟩ := ha
  obtain ⟨k, rfl⟩ : ∃ k : Nat, a = (k : Int) := ⟨a.toNat, by omega⟩
  obtain ⟨j, rfl⟩ : ∃ j : Nat, f = (j : Int) := ⟨f.toNat, by omega⟩
  refine lv_ior hx hb hdg ?_
  rw [show (k : Int) * 8388608 = ((k * 8388608 : Nat) : Int) by rw [Int.natCast_mul]; rfl, or23 (by omega) (by omega)]
  exact kk _ (by omega)
end SHB
theorem lkO (x : Int) : Op.lookupswitch.offset [(98, 52), (103, 70), (112, 43), (120, 61)] 79 x = if 98 = x then 52 else if 103 = x then 70 else if 112 = x then 43 else if 120 = x then 61 else 79 := rfl
theorem i2c_f : ∀ c : Fin 127, ((iN (c.1 : Int)).toUInt32 % 65536).toInt32 = iN (c.1 : Int) ∧ vp_nar .char (iN (c.1 : Int)) = iN (c.1 : Int) := by decide +kernel
theorem i2c_v {x : Int} (h : 0 ≤ x ∧ x ≤ 126) : ((iN x).toUInt32 % 65536).toInt32 = iN x ∧ vp_nar .char (iN x) = iN x := by
  have h1 := i2c_f ⟨x.toNat, by omega⟩
  simp only [show ((x.toNat : Nat) : Int) = x by omega] at h1
  exact h1
set_option maxHeartbeats 4000000 in
set_option maxRecDepth 100000 in
theorem c_X1_bitsOf (l : Launch) (v : UInt32) (hfv : FV v) : psRi l yX1_bitsOf (wU yX1_bitsOf cX1_bitsOf 4 (some .int)) ({ frames := 0, cells := 0, slots := 0, locals := 0 } : Room) [.float v] (fun z => z = bitsD v) := by
  refine psRi_of (by decide) (Nat.le_of_ble_eq_true rfl) ?_
  intro p e s m args below meth c ls cx hr hlocks hl
  have hx := cx.1
  have hb := cx.2.1
  have hl : lv_has ls 4 [(0, .float v)] := hl
  refine lv_fload_n hx hb dX1_bitsOf_0 rfl (lv_at hl 0 rfl) ?_
  refine lv_fconst0 hx hb dX1_bitsOf_1 ?_
  obtain ⟨z2, hc2, hz2⟩ := fn_cz hfv .g
  refine lv_fcmp hx hb dX1_bitsOf_2 ?_
  rw [hc2]
  refine ts_if_gt (tgt := 8) hx hb (by omega) dX1_bitsOf_3 (by decide) (fun c3 => ?_) (fun c3 => ?_)
  · skip
    obtain ⟨cc, qq, hfn, hqq⟩ : ∃ (c : Nat) (q : Int), FN v c q ∧ -32 ≤ q ∧ q ≤ -14 := by
      rcases hz2 with q | q
      · exact absurd q.1 (by omega)
      · exact q.2
    refine lv_fload_n hx hb dX1_bitsOf_8 rfl (lv_at hl 0 rfl) ?_
    refine lv_fstore_n (lv' := [(1, .float v), (0, .float v)]) hx hb dX1_bitsOf_9 rfl hl (by decide) rfl (fun ls hl => ?_)
    refine ts_bipush hx hb dX1_bitsOf_10 (by decide) ?_
    refine lv_istore_n (lv' := [(2, .int (iN 127)), (1, .float v), (0, .float v)]) hx hb dX1_bitsOf_12 rfl hl (by decide) rfl (fun ls hl => ?_)
    refine ts_iconst hx hb dX1_bitsOf_13 ?_
    refine lv_istore_n (lv' := [(3, .int (iN 0)), (2, .int (iN 127)), (1, .float v), (0, .float v)]) hx hb dX1_bitsOf_14 rfl hl (by decide) rfl (fun ls hl => ?_)
    have cut15 : ∀ (fu : Nat) (w : UInt32) (pw : Int) (iw : Int) (qw : Int) (hmu : (0 - qw).toNat < fu) (hn : FN w cc qw) (hp : pw = 127 + qq - qw ∧ -32 ≤ qw ∧ qw ≤ -14 ∧ iw = qw - qq) (ls : Array Slot) (hl : lv_has ls 4 [(1, .float w), (2, .int (iN pw)), (3, .int (iN iw))]), W p l e ({ frames := 0, cells := 0, slots := 0, locals := 0 } : Room) s m args below meth c s.heap [] 0 0 (roQ below args s (fun z => z = bitsD v)) (F0 m 15 ls []) := by
      intro fu
      induction fu with
      | zero => intro w pw iw qw hmu; exact absurd hmu (Nat.not_lt_zero _)
      | succ fu ih15 =>
        intro w pw iw qw hmu hn hp ls hl
        refine lv_iload_n hx hb dX1_bitsOf_15 rfl (lv_at hl 2 rfl) ?_
        refine ts_bipush hx hb dX1_bitsOf_16 (by decide) ?_
        refine ts_icmp_ge (tgt := 40) hx hb (by omega) dX1_bitsOf_18 (by decide) (fun c18 => ?_) (fun c18 => ?_)
        · exfalso
          omega
        · skip
          refine lv_fload_n hx hb dX1_bitsOf_21 rfl (lv_at hl 0 rfl) ?_
          refine lv_fconst1 hx hb dX1_bitsOf_22 ?_
          obtain ⟨z23, hc23, hz23⟩ := fn_cv hn v_one .g
          refine lv_fcmp hx hb dX1_bitsOf_23 ?_
          rw [hc23]
          refine ts_if_ge (tgt := 40) hx hb (by omega) dX1_bitsOf_24 (by decide) (fun c24 => ?_) (fun c24 => ?_)
          · skip
            refine ts_iconst hx hb dX1_bitsOf_40 ?_
            refine lv_istore_n (lv' := [(3, .int (iN 0)), (1, .float w), (2, .int (iN pw))]) hx hb dX1_bitsOf_41 rfl hl (by decide) rfl (fun ls hl => ?_)
            have cut42 : ∀ (fu : Nat) (w2 : UInt32) (p2 : Int) (i2 : Int) (q2 : Int) (hmu : (q2 + 50).toNat < fu) (hn2 : FN w2 cc q2) (hp2 : p2 = 127 + qq - q2 ∧ -23 ≤ q2 ∧ q2 ≤ -14 ∧ i2 = qw - q2) (ls : Array Slot) (hl : lv_has ls 4 [(1, .float w2), (2, .int (iN p2)), (3, .int (iN i2))]), W p l e ({ frames := 0, cells := 0, slots := 0, locals := 0 } : Room) s m args below meth c s.heap [] 0 0 (roQ below args s (fun z => z = bitsD v)) (F0 m 42 ls []) := by
              intro fu
              induction fu with
              | zero => intro w2 p2 i2 q2 hmu; exact absurd hmu (Nat.not_lt_zero _)
              | succ fu ih42 =>
                intro w2 p2 i2 q2 hmu hn2 hp2 ls hl
                refine lv_iload_n hx hb dX1_bitsOf_42 rfl (lv_at hl 2 rfl) ?_
                refine ts_bipush hx hb dX1_bitsOf_43 (by decide) ?_
                refine ts_icmp_ge (tgt := 67) hx hb (by omega) dX1_bitsOf_45 (by decide) (fun c45 => ?_) (fun c45 => ?_)
                · exfalso
                  omega
                · skip
                  refine lv_fload_n hx hb dX1_bitsOf_48 rfl (lv_at hl 0 rfl) ?_
                  refine lv_fconst2 hx hb dX1_bitsOf_49 ?_
                  obtain ⟨z50, hc50, hz50⟩ := fn_cv hn2 v_two .l
                  refine lv_fcmp hx hb dX1_bitsOf_50 ?_
                  rw [hc50]
                  refine ts_if_lt (tgt := 67) hx hb (by omega) dX1_bitsOf_51 (by decide) (fun c51 => ?_) (fun c51 => ?_)
                  · skip
                    have hq23 : q2 = -23 := by omega
                    rw [hq23] at hn2
                    have hcb := hfn.2.1
                    refine lv_fload_n hx hb dX1_bitsOf_67 rfl (lv_at hl 0 rfl) ?_
                    refine lv_fconst1 hx hb dX1_bitsOf_68 ?_
                    obtain ⟨f69, hf69⟩ : ∃ f, f = FP.fsub (w2) (FP.fconst1) := ⟨_, rfl⟩
                    refine lv_fsub hx hb dX1_bitsOf_69 ((fn_fs hn2).1) ?_
                    rw [← hf69]
                    refine lv_ldcf (v := 1258291200) hx hb cx.2.2.2.1 (cx.2.2.2.2 _ tk_RX1_193) dX1_bitsOf_70 ?_
                    obtain ⟨f72, hf72⟩ : ∃ f, f = FP.fmul (f69) (1258291200) := ⟨_, rfl⟩
                    refine lv_fmul hx hb dX1_bitsOf_72 (by rw [hf69]; exact (fn_fs hn2).2) ?_
                    rw [← hf72]
                    obtain ⟨z73, hc73, hz73⟩ := (show ∃ z : Int, FP.f2i f72 = iN z ∧ z = (cc : Int) - 8388608 by rw [hf72, hf69]; exact fn_fi hn2)
                    refine lv_f2i hx hb dX1_bitsOf_73 ?_
                    rw [hc73]
                    refine lv_istore_n (lv' := [(3, .int (iN z73)), (1, .float w2), (2, .int (iN p2))]) hx hb dX1_bitsOf_74 rfl hl (by decide) rfl (fun ls hl => ?_)
                    refine lv_iload_n hx hb dX1_bitsOf_75 rfl (lv_at hl 2 rfl) ?_
                    refine ts_bipush hx hb dX1_bitsOf_76 (by decide) ?_
                    refine ts_shl23 hx hb (by omega) dX1_bitsOf_78 (fun z78 hz78 => ?_)
                    refine lv_iload_n hx hb dX1_bitsOf_79 rfl (lv_at hl 0 rfl) ?_
                    refine ts_or23 (a := p2) hx hb (by omega) dX1_bitsOf_80 (fun z80 hz80 => ?_)
                    exact ro_ret cx hr hlocks (by rw [bitsD_n hfn]; omega) dX1_bitsOf_81
                  · skip
                    refine lv_fload_n hx hb dX1_bitsOf_54 rfl (lv_at hl 0 rfl) ?_
                    refine lv_fconst2 hx hb dX1_bitsOf_55 ?_
                    obtain ⟨f56, hf56⟩ : ∃ f, f = FP.fdiv (w2) (FP.fconst2) := ⟨_, rfl⟩
                    refine lv_fdiv hx hb dX1_bitsOf_56 (fn_n (fn_div2 hn2 (by omega))) ?_
                    rw [← hf56]
                    have hnn2 : FN f56 cc (q2 - 1) := by
                      rw [hf56]
                      exact fn_div2 hn2 (by omega)
                    refine lv_fstore_n (lv' := [(1, .float f56), (2, .int (iN p2)), (3, .int (iN i2))]) hx hb dX1_bitsOf_57 rfl hl (by decide) rfl (fun ls hl => ?_)
                    obtain ⟨z58, hz58⟩ : ∃ z : Int, z = p2 + 1 := ⟨_, rfl⟩
                    refine lv_iinc (v := iN z58) (lv' := [(2, .int (iN z58)), (1, .float f56), (3, .int (iN i2))]) hx hb dX1_bitsOf_58 hl (k := 1) rfl (by rw [hz58]; exact iN_add _ _) (by decide) rfl (fun ls hl => ?_)
                    obtain ⟨z61, hz61⟩ : ∃ z : Int, z = i2 + 1 := ⟨_, rfl⟩
                    refine lv_iinc (v := iN z61) (lv' := [(3, .int (iN z61)), (2, .int (iN z58)), (1, .float f56)]) hx hb dX1_bitsOf_61 hl (k := 2) rfl (by rw [hz61]; exact iN_add _ _) (by decide) rfl (fun ls hl => ?_)
                    refine lv_goto (tgt := 42) hx hb dX1_bitsOf_64 (by decide) ?_
                    exact ih42 (f56) (z58) (z61) (q2 - 1) (by omega) (hnn2) (by omega) _ (lv_sub hl [2, 1, 0] rfl)
            exact cut42 _ (w) (pw) (0) (qw) (Nat.lt_succ_self _) (hn) (by omega) _ (lv_sub hl [1, 2, 0] rfl)
          · skip
            refine lv_fload_n hx hb dX1_bitsOf_27 rfl (lv_at hl 0 rfl) ?_
            refine lv_fconst2 hx hb dX1_bitsOf_28 ?_
            obtain ⟨f29, hf29⟩ : ∃ f, f = FP.fmul (w) (FP.fconst2) := ⟨_, rfl⟩
            refine lv_fmul hx hb dX1_bitsOf_29 (fn_n (fn_mul hn v_two (by omega))) ?_
            rw [← hf29]
            have hnn : FN f29 cc (qw + 1) := by
              rw [hf29, show qw + 1 = qw + -22 + 23 by omega]
              exact fn_mul hn v_two (by omega)
            refine lv_fstore_n (lv' := [(1, .float f29), (2, .int (iN pw)), (3, .int (iN iw))]) hx hb dX1_bitsOf_30 rfl hl (by decide) rfl (fun ls hl => ?_)
            obtain ⟨z31, hz31⟩ : ∃ z : Int, z = pw + (-1) := ⟨_, rfl⟩
            refine lv_iinc (v := iN z31) (lv' := [(2, .int (iN z31)), (1, .float f29), (3, .int (iN iw))]) hx hb dX1_bitsOf_31 hl (k := 1) rfl (by rw [hz31]; exact iN_add _ _) (by decide) rfl (fun ls hl => ?_)
            obtain ⟨z34, hz34⟩ : ∃ z : Int, z = iw + 1 := ⟨_, rfl⟩
            refine lv_iinc (v := iN z34) (lv' := [(3, .int (iN z34)), (2, .int (iN z31)), (1, .float f29)]) hx hb dX1_bitsOf_34 hl (k := 2) rfl (by rw [hz34]; exact iN_add _ _) (by decide) rfl (fun ls hl => ?_)
            refine lv_goto (tgt := 15) hx hb dX1_bitsOf_37 (by decide) ?_
            exact ih15 (f29) (z31) (z34) (qw + 1) (by omega) (hnn) (by omega) _ (lv_sub hl [2, 1, 0] rfl)
    exact cut15 _ (v) (127) (0) (qq) (Nat.lt_succ_self _) (hfn) (by omega) _ (lv_sub hl [2, 1, 0] rfl)
  · skip
    have hR : bitsD v = 0 := by
      rcases hz2 with q | q
      · exact q.2
      · exact absurd q.1 (by omega)
    refine ts_iconst hx hb dX1_bitsOf_6 ?_
    exact ro_ret cx hr hlocks (hR.symm) dX1_bitsOf_7
set_option maxHeartbeats 4000000 in
set_option maxRecDepth 100000 in
theorem c_X1_wealth (l : Launch) (x : Int) (g : XS) (S : StT) (hx0 : RX (g 0) S) (hv0 : VS S) (hkb : (-2147483648 ≤ x ∧ x ≤ 2147483647)) : xmRi l yX1_wealth (wU yX1_wealth cX1_wealth 4 (some .int)) ({ frames := 3, cells := 0, slots := 0, locals := 73 } : Room) [.int (iN x)] g (fun z => z = wealthR S x) := by
  refine xmRi_of (by decide) (Nat.le_of_ble_eq_true rfl) ?_
  intro p e s m args below meth c D ci tb ad ga A ls cx hr hlocks hK hA hT hw hl
  have hx := cx.1
  have hb := cx.2.1
  have hl : lv_has ls 4 [(0, .ref (ad 0)), (1, .int (iN x))] := hl
  have hN := VS_NX hx0 hv0
  have hM := PX_M hx0.2
  have hKx := PX_K hx0.2 (VS_kinds hv0)
  have hvb := VS_nums hv0
  have h44 := hx0.1.1
  refine lv_aload_n hx hb dX1_wealth_0 rfl (lv_at hl 0 rfl) ?_
  refine xp_get0 cx hK hw tl_RX1_10 dX1_wealth_1 ?_
  refine lv_iload_n hx hb dX1_wealth_4 rfl (lv_at hl 1 rfl) ?_
  refine gm_callr (ad := ga 0) (rest := []) cx (xm_K0 hK) hT hA (xg_B 0 (by decide) hw) hl (c_X0_hasPlayer l x (g 0) (by omega) hN) tg_RX1_64 ⟨rfl, rfl⟩ 1 rfl (by decide +kernel) ⟨Nat.le_of_ble_eq_true rfl, Nat.le_of_ble_eq_true rfl⟩ ⟨Nat.zero_le _, Nat.zero_le _⟩ (Nat.le_of_ble_eq_true rfl) dX1_wealth_5 (rfl) (fun z5 hz5 => ?_)
  refine ts_if_ne (tgt := 14) hx hb (by omega) dX1_wealth_8 (by decide) (fun c8 => ?_) (fun c8 => ?_)
  · skip
    refine lv_aload_n hx hb dX1_wealth_14 rfl (lv_at hl 0 rfl) ?_
    refine xp_get0 cx hK hw tl_RX1_10 dX1_wealth_15 ?_
    refine lv_iload_n hx hb dX1_wealth_18 rfl (lv_at hl 1 rfl) ?_
    refine ts_iconst hx hb dX1_wealth_19 ?_
    refine ts_iconst hx hb dX1_wealth_20 ?_
    refine ts_bipush hx hb dX1_wealth_21 (by decide) ?_
    refine gm_callr (ad := ga 0) (rest := []) cx (xm_K0 hK) hT hA (xg_B 0 (by decide) hw) hl (c_X0_howMany l x.toNat 0 3 10 (g 0) (by omega) (by omega) (by omega) hM hKx) tg_RX1_76 ⟨rfl, rfl⟩ 4 rfl (by decide +kernel) ⟨Nat.le_of_ble_eq_true rfl, Nat.le_of_ble_eq_true rfl⟩ ⟨Nat.zero_le _, Nat.zero_le _⟩ (Nat.le_of_ble_eq_true rfl) dX1_wealth_23 (by rw [nn_to (x := x) (by omega)]; rfl) (fun z23 hz23 => ?_)
    have hz23b : z23 = cqA 10 S.2 x.toNat 0 4 := many4 hx0.2 (by omega) hz23
    have hwA := wo_A hv0 (p := x.toNat) (by omega)
    refine lv_istore_n (lv' := [(2, .int (iN z23)), (0, .ref (ad 0)), (1, .int (iN x))]) hx hb dX1_wealth_26 rfl hl (by decide) rfl (fun ls hl => ?_)
    refine lv_iload_n hx hb dX1_wealth_27 rfl (lv_at hl 0 rfl) ?_
    refine ts_if_gt (tgt := 34) hx hb (by omega) dX1_wealth_28 (by decide) (fun c28 => ?_) (fun c28 => ?_)
    · skip
      refine lv_aload_n hx hb dX1_wealth_34 rfl (lv_at hl 1 rfl) ?_
      refine xp_get0 cx hK hw tl_RX1_10 dX1_wealth_35 ?_
      refine lv_iload_n hx hb dX1_wealth_38 rfl (lv_at hl 2 rfl) ?_
      refine tt_gso cx hT hw.2.2 1 (by decide) tl_RX1_124 dX1_wealth_39 ?_
      refine gm_callt (ad := ga 0) (rest := []) cx (xm_K0 hK) hT hA (xg_B 0 (by decide) hw) hl (c_X0_sumOf l 1 x.toNat (g 0) (by omega) (by omega) hM hKx) tg_RX1_84 ⟨rfl, rfl⟩ 2 rfl (by decide +kernel) ⟨Nat.le_of_ble_eq_true rfl, Nat.le_of_ble_eq_true rfl⟩ ⟨Nat.zero_le _, Nat.zero_le _⟩ (Nat.le_of_ble_eq_true rfl) dX1_wealth_42 (by rw [nn_to (x := x) (by omega)]; rfl) (fun z42 hz42 => ?_)
      have hz42b := pts4 hx0.2 (by omega) hz42
      refine lv_istore_n (lv' := [(3, .int (iN z42)), (2, .int (iN z23)), (0, .ref (ad 0)), (1, .int (iN x))]) hx hb dX1_wealth_45 rfl hl (by decide) rfl (fun ls hl => ?_)
      refine lv_iload_n hx hb dX1_wealth_46 rfl (lv_at hl 0 rfl) ?_
      have hsm : z42 = sumN (fun k => tv 1 k * cqA k S.2 x.toNat 0 4) 10 := by omega
      obtain ⟨an, han⟩ : ∃ an : Nat, z42 = (an : Int) := ⟨z42.toNat, by omega⟩
      obtain ⟨bn, hbn⟩ : ∃ bn : Nat, z23 = (bn : Int) := ⟨z23.toNat, by omega⟩
      have hfv0 : FV (FP.fdiv (FP.i2f (iN z42)) (FP.i2f (iN z23))) := by
        rw [han, hbn]
        by_cases h0 : an = 0
        · rw [h0]
          exact Or.inl (wealth_0 (by omega))
        · exact Or.inr (wealth_fn (by omega) (by omega))
      refine lv_i2f hx hb dX1_wealth_47 ?_
      refine lv_iload_n hx hb dX1_wealth_48 rfl (lv_at hl 1 rfl) ?_
      refine lv_i2f hx hb dX1_wealth_49 ?_
      obtain ⟨f50, hf50⟩ : ∃ f, f = FP.fdiv (FP.i2f (iN (z42))) (FP.i2f (iN (z23))) := ⟨_, rfl⟩
      refine lv_fdiv hx hb dX1_wealth_50 (by
        rcases hfv0 with w | ⟨cw, qw, w, _⟩
        · exact fn_nn (by rw [w]; intro e; cases e)
        · exact fn_n w) ?_
      rw [← hf50]
      have hfv : FV f50 := by rw [hf50]; exact hfv0
      refine ps_call (rest := []) cx hl (c_X1_bitsOf l f50 hfv) tg_RX1_133 ⟨rfl, rfl⟩ 1 rfl (by decide +kernel) ⟨Nat.le_of_ble_eq_true rfl, Nat.le_of_ble_eq_true rfl⟩ ⟨Nat.zero_le _, Nat.zero_le _⟩ (Nat.le_of_ble_eq_true rfl) dX1_wealth_51 (rfl) (fun z51 hz51 => ?_)
      have hR : wealthR S x = z51 := by
        unfold wealthR isP
        rw [if_neg (by omega), if_neg (by omega), hz51, hf50, hsm, hz23b]
      exact ro_ret cx hr hlocks (hR.symm) dX1_wealth_54
    · skip
      have hR : wealthR S x = -1000004 := by
        unfold wealthR isP
        rw [if_neg (by omega), if_pos (by omega)]
      refine ts_ldc (z := -1000004) hx hb cx.2.2.2.1 cx.2.2.2.2 tk_RX1_75 dX1_wealth_31 ?_
      exact ro_ret cx hr hlocks (hR.symm) dX1_wealth_33
  · skip
    have hR : wealthR S x = -1000001 := by
      unfold wealthR isP
      rw [if_pos (by omega)]
    refine ts_ldc (z := -1000001) hx hb cx.2.2.2.1 cx.2.2.2.2 tk_RX1_55 dX1_wealth_11 ?_
    exact ro_ret cx hr hlocks (hR.symm) dX1_wealth_13
theorem FX_type {g g1 : XS} {T : TT} (hf : FX g T) {c : Int} (hn4 : T.2.1.1 ≤ 4) (e : ∀ i : Nat, i ≠ 6 → g1 i = g i) (e3 : g1 6 4 3 = g 6 4 3) (e5 : g1 6 4 5 = g 6 4 5 + 1) (e0 : ∀ j : Nat, g1 6 0 j = if j = T.2.2.1 then c else g 6 0 j) : FX g1 (T.1, T.2.1, (T.2.2.1 + 1, uf T.2.2.2 T.2.2.1 c)) := by
  obtain ⟨f1, f2, f3, f4, f5⟩ := hf
  refine ⟨by rw [e 0 (by decide)]; exact f1, by rw [e3]; exact f2, fun b hb => by have hb2 : b < T.2.1.1 := hb; rw [e (2 + b) (by omega)]; exact f3 b hb, by show g1 6 4 5 = ((T.2.2.1 + 1 : Nat) : Int); omega, fun j hj => ?_⟩
  show g1 6 0 j = uf T.2.2.2 T.2.2.1 c j
  have hj2 : j < T.2.2.1 + 1 := hj
  rw [e0]
  by_cases h : j = T.2.2.1
  · rw [if_pos h, h, uf_s]
  · rw [if_neg h, uf_n _ _ h]
    exact f5 j (by omega)
theorem typeT_ok {T : TT} {ch : Int} (h : 32 ≤ ch ∧ ch ≤ 126) (hn : T.2.2.1 ≠ 60) : typeT T ch = ((T.2.2.1 : Int) + 1, (T.1, T.2.1, (T.2.2.1 + 1, uf T.2.2.2 T.2.2.1 ch))) := by
  unfold typeT
  rw [if_neg (by omega), if_neg hn]
set_option maxHeartbeats 4000000 in
set_option maxRecDepth 100000 in
theorem c_X1_type (l : Launch) (ch : Int) (g : XS) (T : TT) (hf : FX g T) (hv : VT T) (hkb : (-2147483648 ≤ ch ∧ ch ≤ 2147483647)) : xmMi l yX1_type (wU yX1_type cX1_type 2 (some .int)) ({ frames := 0, cells := 0, slots := 0, locals := 0 } : Room) [.int (iN ch)] g (fun z g1 => z = (typeT T ch).1 ∧ FX g1 (typeT T ch).2) := by
  refine xmMi_of (by decide) (Nat.le_of_ble_eq_true rfl) ?_
  intro p e s m args below meth c D ci tb ad ga A ls cx hr hlocks hK hA hT hw hl
  have hx := cx.1
  have hb := cx.2.1
  have hl : lv_has ls 2 [(0, .ref (ad 0)), (1, .int (iN ch))] := hl
  have h5 := hf.2.2.2.1
  have h60 := hv.2.2.2.1
  have h4 := hv.2.1
  refine lv_iload_n hx hb dX1_type_0 rfl (lv_at hl 1 rfl) ?_
  refine ts_bipush hx hb dX1_type_1 (by decide) ?_
  refine ts_icmp_lt (tgt := 12) hx hb (by omega) dX1_type_3 (by decide) (fun c3 => ?_) (fun c3 => ?_)
  · skip
    have hR : typeT T ch = (-1000001, T) := by
      unfold typeT
      rw [if_pos (by omega)]
    refine ts_ldc (z := -1000001) hx hb cx.2.2.2.1 cx.2.2.2.2 tk_RX1_55 dX1_type_12 ?_
    exact xm_ret cx hr hlocks hw (by rw [hR]; exact ⟨rfl, hf⟩) dX1_type_14
  · skip
    refine lv_iload_n hx hb dX1_type_6 rfl (lv_at hl 1 rfl) ?_
    refine ts_bipush hx hb dX1_type_7 (by decide) ?_
    refine ts_icmp_le (tgt := 15) hx hb (by omega) dX1_type_9 (by decide) (fun c9 => ?_) (fun c9 => ?_)
    · skip
      refine lv_aload_n hx hb dX1_type_15 rfl (lv_at hl 0 rfl) ?_
      refine xp_get5 cx hK hw tl_RX1_153 dX1_type_16 (fun z16 hz16 => ?_)
      refine ts_bipush hx hb dX1_type_19 (by decide) ?_
      refine ts_icmp_lt (tgt := 27) hx hb (by omega) dX1_type_21 (by decide) (fun c21 => ?_) (fun c21 => ?_)
      · skip
        have hcv := i2c_v (x := ch) (by omega)
        refine lv_aload_n hx hb dX1_type_27 rfl (lv_at hl 0 rfl) ?_
        refine xp_get4 cx hK hw tl_RX1_23 dX1_type_28 ?_
        refine lv_aload_n hx hb dX1_type_31 rfl (lv_at hl 0 rfl) ?_
        refine xp_get5 cx hK hw tl_RX1_153 dX1_type_32 (fun z32 hz32 => ?_)
        refine lv_iload_n hx hb dX1_type_35 rfl (lv_at hl 1 rfl) ?_
        refine lv_i2c (v := iN (ch)) hx hb dX1_type_36 (hcv.1) ?_
        refine xp_cst cx hK hw (T.2.2.1) (by omega) (hcv.2) dX1_type_37 (fun g37 H locs hg37 hw => ?_)
        have e5a : g37 6 4 5 = g 6 4 5 := by rw [hg37, ux_s, u2_a _ (by decide)]
        refine lv_aload_n hx hb dX1_type_38 rfl (lv_at hl 0 rfl) ?_
        refine lv_dup hx hb dX1_type_39 rfl ?_
        refine xp_get5 cx hK hw tl_RX1_153 dX1_type_40 (fun z40 hz40 => ?_)
        refine ts_iconst hx hb dX1_type_43 ?_
        refine ts_iadd hx hb dX1_type_44 (fun z44 hz44 => ?_)
        refine xp_put5 cx hK hw tl_RX1_153 dX1_type_45 (fun g45 H locs hg45 hw => ?_)
        have e5b : g45 6 4 5 = g 6 4 5 + 1 := by rw [hg45, ux_s, u2_s]; omega
        have eo : ∀ i : Nat, i ≠ 6 → g45 i = g i := fun i hi => by rw [hg45, ux_n _ _ hi, hg37, ux_n _ _ hi]
        have e3 : g45 6 4 3 = g 6 4 3 := by rw [hg45, ux_s, u2_k _ (by decide), hg37, ux_s, u2_a _ (by decide)]
        have e0 : ∀ j : Nat, g45 6 0 j = if j = T.2.2.1 then ch else g 6 0 j := fun j => by rw [hg45, ux_s, u2_a _ (by decide), hg37, ux_s, u2_r]
        have hT2 := typeT_ok (T := T) (ch := ch) (by omega) (by omega)
        have hF := FX_type hf h4 eo e3 e5b e0
        refine lv_aload_n hx hb dX1_type_48 rfl (lv_at hl 0 rfl) ?_
        refine xp_get5 cx hK hw tl_RX1_153 dX1_type_49 (fun z49 hz49 => ?_)
        exact xm_ret cx hr hlocks hw (by rw [hT2]; exact ⟨by show z49 = (T.2.2.1 : Int) + 1; omega, hF⟩) dX1_type_52
      · skip
        have hR : typeT T ch = (-1000003, T) := by
          unfold typeT
          rw [if_neg (by omega), if_pos (by omega)]
        refine ts_ldc (z := -1000003) hx hb cx.2.2.2.1 cx.2.2.2.2 tk_RX1_156 dX1_type_24 ?_
        exact xm_ret cx hr hlocks hw (by rw [hR]; exact ⟨rfl, hf⟩) dX1_type_26
    · skip
      have hR : typeT T ch = (-1000001, T) := by
        unfold typeT
        rw [if_pos (by omega)]
      refine ts_ldc (z := -1000001) hx hb cx.2.2.2.1 cx.2.2.2.2 tk_RX1_55 dX1_type_12 ?_
      exact xm_ret cx hr hlocks hw (by rw [hR]; exact ⟨rfl, hf⟩) dX1_type_14
set_option maxHeartbeats 4000000 in
set_option maxRecDepth 100000 in
theorem c_X1_clearText (l : Launch) (g : XS) (T : TT) (hf : FX g T) (hv : VT T) : xmMi l yX1_clearText (wU yX1_clearText cX1_clearText 2 (some .int)) ({ frames := 0, cells := 0, slots := 0, locals := 0 } : Room) [] g (fun z g1 => z = (clearT T).1 ∧ FX g1 (clearT T).2) := by
  refine xmMi_of (by decide) (Nat.le_of_ble_eq_true rfl) ?_
  intro p e s m args below meth c D ci tb ad ga A ls cx hr hlocks hK hA hT hw hl
  have hx := cx.1
  have hb := cx.2.1
  have hl : lv_has ls 2 [(0, .ref (ad 0))] := hl
  have h5 := hf.2.2.2.1
  have h4 := hv.2.1
  refine lv_aload_n hx hb dX1_clearText_0 rfl (lv_at hl 0 rfl) ?_
  refine xp_get5 cx hK hw tl_RX1_153 dX1_clearText_1 (fun z1 hz1 => ?_)
  refine lv_istore_n (lv' := [(1, .int (iN z1)), (0, .ref (ad 0))]) hx hb dX1_clearText_4 rfl hl (by decide) rfl (fun ls hl => ?_)
  refine lv_aload_n hx hb dX1_clearText_5 rfl (lv_at hl 1 rfl) ?_
  refine ts_iconst hx hb dX1_clearText_6 ?_
  refine xp_put5 cx hK hw tl_RX1_153 dX1_clearText_7 (fun g7 H locs hg7 hw => ?_)
  have hF : FX g7 (clearT T).2 := by
    obtain ⟨f1, f2, f3, f4, f5⟩ := hf
    have eo : ∀ i : Nat, i ≠ 6 → g7 i = g i := fun i hi => by rw [hg7, ux_n _ _ hi]
    exact ⟨by rw [eo 0 (by decide)]; exact f1, by rw [hg7, ux_s, u2_k _ (by decide)]; exact f2, fun b hb => by have hb2 : b < T.2.1.1 := hb; rw [eo (2 + b) (by omega)]; exact f3 b hb, by rw [hg7, ux_s, u2_s]; rfl, fun j hj => absurd hj (Nat.not_lt_zero j)⟩
  refine lv_iload_n hx hb dX1_clearText_10 rfl (lv_at hl 0 rfl) ?_
  exact xm_ret cx hr hlocks hw (⟨by show z1 = (T.2.2.1 : Int); omega, hF⟩) dX1_clearText_11
/-- only the numbers of a fault are other -/
def FO (g1 g : XS) : Prop := (∀ i : Nat, i ≠ 6 → g1 i = g i) ∧ (∀ a : Nat, a ≠ 4 → g1 6 a = g 6 a) ∧ (∀ j : Nat, j < 6 → g1 6 4 j = g 6 4 j)
set_option maxHeartbeats 4000000 in
set_option maxRecDepth 100000 in
theorem c_X1_keepFault (l : Launch) (a b d : Int) (g : XS) : xmMi l yX1_keepFault (wU yX1_keepFault cX1_keepFault 4 (some .int)) ({ frames := 0, cells := 0, slots := 0, locals := 0 } : Room) [.int (iN a), .int (iN b), .int (iN d)] g (fun z g1 => z = -1 ∧ FO g1 g ∧ g1 6 4 6 = a ∧ g1 6 4 7 = b ∧ g1 6 4 8 = d) := by
  refine xmMi_of (by decide) (Nat.le_of_ble_eq_true rfl) ?_
  intro p e s m args below meth c D ci tb ad ga A ls cx hr hlocks hK hA hT hw hl
  have hx := cx.1
  have hb := cx.2.1
  have hl : lv_has ls 4 [(0, .ref (ad 0)), (1, .int (iN a)), (2, .int (iN b)), (3, .int (iN d))] := hl
  refine lv_aload_n hx hb dX1_keepFault_0 rfl (lv_at hl 0 rfl) ?_
  refine lv_iload_n hx hb dX1_keepFault_1 rfl (lv_at hl 1 rfl) ?_
  refine xp_put6 cx hK hw tl_RX1_160 dX1_keepFault_2 (fun g2 H locs hg2 hw => ?_)
  refine lv_aload_n hx hb dX1_keepFault_5 rfl (lv_at hl 0 rfl) ?_
  refine lv_iload_n hx hb dX1_keepFault_6 rfl (lv_at hl 2 rfl) ?_
  refine xp_put7 cx hK hw tl_RX1_163 dX1_keepFault_7 (fun g7 H locs hg7 hw => ?_)
  refine lv_aload_n hx hb dX1_keepFault_10 rfl (lv_at hl 0 rfl) ?_
  refine lv_iload_n hx hb dX1_keepFault_11 rfl (lv_at hl 3 rfl) ?_
  refine xp_put8 cx hK hw tl_RX1_166 dX1_keepFault_12 (fun g12 H locs hg12 hw => ?_)
  have hR : FO g12 g ∧ g12 6 4 6 = a ∧ g12 6 4 7 = b ∧ g12 6 4 8 = d := by
    refine ⟨⟨fun i hi => by rw [hg12, ux_n _ _ hi, hg7, ux_n _ _ hi, hg2, ux_n _ _ hi], fun q hq => by rw [hg12, ux_s, u2_row _ hq, hg7, ux_s, u2_row _ hq, hg2, ux_s, u2_row _ hq], fun j hj => by rw [hg12, ux_s, u2_k _ (by omega), hg7, ux_s, u2_k _ (by omega), hg2, ux_s, u2_k _ (by omega)]⟩, ?_, ?_, ?_⟩
    · rw [hg12, ux_s, u2_k _ (by decide), hg7, ux_s, u2_k _ (by decide), hg2, ux_s, u2_s]
    · rw [hg12, ux_s, u2_k _ (by decide), hg7, ux_s, u2_s]
    · rw [hg12, ux_s, u2_s]
  refine ts_iconst hx hb dX1_keepFault_15 ?_
  exact xm_ret cx hr hlocks hw (⟨rfl, hR⟩) dX1_keepFault_16
def TXX (g : XS) (n : Nat) (tx : Nat → Int) : Prop := g 6 4 5 = (n : Int) ∧ n ≤ 60 ∧ (∀ j : Nat, j < n → g 6 0 j = tx j) ∧ (∀ j : Nat, j < n → 32 ≤ tx j ∧ tx j ≤ 126)
theorem TXX_ch {g : XS} {n : Nat} {tx : Nat → Int} (h : TXX g n tx) {j : Nat} (hj : j < n) : g 6 0 j = chF n tx j ∧ 32 ≤ chF n tx j ∧ chF n tx j ≤ 126 := by
  have h1 := h.2.2.1 j hj
  have h2 := h.2.2.2 j hj
  unfold chF
  rw [if_pos hj]
  exact ⟨h1, h2⟩
theorem chF_end {n : Nat} {tx : Nat → Int} {j : Nat} (hj : n ≤ j) : chF n tx j = 0 := by
  unfold chF
  rw [if_neg (by omega)]
set_option maxHeartbeats 4000000 in
set_option maxRecDepth 100000 in
theorem c_X1_digitsFrom (l : Launch) (x : Int) (f n : Nat) (tx : Nat → Int) (g : XS) (hx0 : TXX g n tx) (hf : x = (f : Int) ∧ f ≤ 100) : xmRi l yX1_digitsFrom (wU yX1_digitsFrom cX1_digitsFrom 4 (some .int)) ({ frames := 0, cells := 0, slots := 0, locals := 0 } : Room) [.int (iN x)] g (fun z => (dgz (chF n tx f) = 0 ∧ z = 0) ∨ (dgz (chF n tx f) = 1 ∧ dgz (chF n tx (f + 1)) = 0 ∧ z = 1) ∨ (dgz (chF n tx f) = 1 ∧ dgz (chF n tx (f + 1)) = 1 ∧ z = 2)) := by
  refine xmRi_of (by decide) (Nat.le_of_ble_eq_true rfl) ?_
  intro p e s m args below meth c D ci tb ad ga A ls cx hr hlocks hK hA hT hw hl
  have hx := cx.1
  have hb := cx.2.1
  have hl : lv_has ls 4 [(0, .ref (ad 0)), (1, .int (iN x))] := hl
  have h5 := hx0.1
  have h60 := hx0.2.1
  refine ts_iconst hx hb dX1_digitsFrom_0 ?_
  refine lv_istore_n (lv' := [(2, .int (iN 0)), (0, .ref (ad 0)), (1, .int (iN x))]) hx hb dX1_digitsFrom_1 rfl hl (by decide) rfl (fun ls hl => ?_)
  refine lv_iload_n hx hb dX1_digitsFrom_2 rfl (lv_at hl 2 rfl) ?_
  refine lv_istore_n (lv' := [(3, .int (iN x)), (2, .int (iN 0)), (0, .ref (ad 0)), (1, .int (iN x))]) hx hb dX1_digitsFrom_3 rfl hl (by decide) rfl (fun ls hl => ?_)
  have cut4 : ∀ (fu : Nat) (dz : Int) (iz : Int) (d : Nat) (hmu : 2 - d < fu) (hd : dz = (d : Int) ∧ d ≤ 2 ∧ iz = (f : Int) + d) (hdd : (d = 0) ∨ (d = 1 ∧ dgz (chF n tx f) = 1) ∨ (d = 2 ∧ dgz (chF n tx f) = 1 ∧ dgz (chF n tx (f + 1)) = 1)) (ls : Array Slot) (hl : lv_has ls 4 [(0, .ref (ad 0)), (2, .int (iN dz)), (3, .int (iN iz))]), W p l e ({ frames := 0, cells := 0, slots := 0, locals := 0 } : Room) s m args below meth c s.heap [] 0 0 (roQ below args s (fun z => (dgz (chF n tx f) = 0 ∧ z = 0) ∨ (dgz (chF n tx f) = 1 ∧ dgz (chF n tx (f + 1)) = 0 ∧ z = 1) ∨ (dgz (chF n tx f) = 1 ∧ dgz (chF n tx (f + 1)) = 1 ∧ z = 2))) (F0 m 4 ls []) := by
    intro fu
    induction fu with
    | zero => intro dz iz d hmu; exact absurd hmu (Nat.not_lt_zero _)
    | succ fu ih4 =>
      intro dz iz d hmu hd hdd ls hl
      refine lv_iload_n hx hb dX1_digitsFrom_4 rfl (lv_at hl 2 rfl) ?_
      refine lv_aload_n hx hb dX1_digitsFrom_5 rfl (lv_at hl 0 rfl) ?_
      refine xp_get5 cx hK hw tl_RX1_153 dX1_digitsFrom_6 (fun z6 hz6 => ?_)
      refine ts_icmp_ge (tgt := 50) hx hb (by omega) dX1_digitsFrom_9 (by decide) (fun c9 => ?_) (fun c9 => ?_)
      · skip
        have hR : d = 2 ∨ dgz (chF n tx (f + d)) = 0 := by
          by_cases h : d = 2
          · exact Or.inl h
          · right
            rw [chF_end (by omega)]
            rfl
        refine lv_iload_n hx hb dX1_digitsFrom_50 rfl (lv_at hl 1 rfl) ?_
        exact ro_ret cx hr hlocks (by
        rcases hdd with e | e | e
        · rw [e] at hR; exact Or.inl ⟨hR.resolve_left (by omega), by omega⟩
        · rw [e.1] at hR; exact Or.inr (Or.inl ⟨e.2, hR.resolve_left (by omega), by omega⟩)
        · exact Or.inr (Or.inr ⟨e.2.1, e.2.2, by omega⟩)) dX1_digitsFrom_51
      · skip
        refine lv_iload_n hx hb dX1_digitsFrom_12 rfl (lv_at hl 1 rfl) ?_
        refine ts_iconst hx hb dX1_digitsFrom_13 ?_
        refine ts_icmp_ge (tgt := 50) hx hb (by omega) dX1_digitsFrom_14 (by decide) (fun c14 => ?_) (fun c14 => ?_)
        · skip
          have hR : d = 2 ∨ dgz (chF n tx (f + d)) = 0 := by
            by_cases h : d = 2
            · exact Or.inl h
            · right
              rw [chF_end (by omega)]
              rfl
          refine lv_iload_n hx hb dX1_digitsFrom_50 rfl (lv_at hl 1 rfl) ?_
          exact ro_ret cx hr hlocks (by
        rcases hdd with e | e | e
        · rw [e] at hR; exact Or.inl ⟨hR.resolve_left (by omega), by omega⟩
        · rw [e.1] at hR; exact Or.inr (Or.inl ⟨e.2, hR.resolve_left (by omega), by omega⟩)
        · exact Or.inr (Or.inr ⟨e.2.1, e.2.2, by omega⟩)) dX1_digitsFrom_51
        · skip
          have hcj := TXX_ch hx0 (j := f + d) (by omega)
          have hdj := dgz_c (chF n tx (f + d))
          refine lv_aload_n hx hb dX1_digitsFrom_17 rfl (lv_at hl 0 rfl) ?_
          refine xp_get4 cx hK hw tl_RX1_23 dX1_digitsFrom_18 ?_
          refine lv_iload_n hx hb dX1_digitsFrom_21 rfl (lv_at hl 2 rfl) ?_
          refine xp_cld cx hK hw (f + d) (by omega) dX1_digitsFrom_22 (fun z22 hz22 => ?_)
          refine ts_bipush hx hb dX1_digitsFrom_23 (by decide) ?_
          refine ts_icmp_lt (tgt := 39) hx hb (by omega) dX1_digitsFrom_25 (by decide) (fun c25 => ?_) (fun c25 => ?_)
          · skip
            have hR : dgz (chF n tx (f + d)) = 0 := by omega
            refine lv_iload_n hx hb dX1_digitsFrom_39 rfl (lv_at hl 1 rfl) ?_
            exact ro_ret cx hr hlocks (by
        rcases hdd with e | e | e
        · rw [e] at hR; exact Or.inl ⟨hR, by omega⟩
        · rw [e.1] at hR; exact Or.inr (Or.inl ⟨e.2, hR, by omega⟩)
        · omega) dX1_digitsFrom_40
          · skip
            have hz22b := hz22
            refine lv_aload_n hx hb dX1_digitsFrom_28 rfl (lv_at hl 0 rfl) ?_
            refine xp_get4 cx hK hw tl_RX1_23 dX1_digitsFrom_29 ?_
            refine lv_iload_n hx hb dX1_digitsFrom_32 rfl (lv_at hl 2 rfl) ?_
            refine xp_cld cx hK hw (f + d) (by omega) dX1_digitsFrom_33 (fun z33 hz33 => ?_)
            refine ts_bipush hx hb dX1_digitsFrom_34 (by decide) ?_
            refine ts_icmp_le (tgt := 41) hx hb (by omega) dX1_digitsFrom_36 (by decide) (fun c36 => ?_) (fun c36 => ?_)
            · skip
              have hR : dgz (chF n tx (f + d)) = 1 := by omega
              have hS : (d + 1 = 0) ∨ (d + 1 = 1 ∧ dgz (chF n tx f) = 1) ∨ (d + 1 = 2 ∧ dgz (chF n tx f) = 1 ∧ dgz (chF n tx (f + 1)) = 1) := by
                rcases hdd with e | e | e
                · rw [e] at hR; exact Or.inr (Or.inl ⟨by omega, hR⟩)
                · rw [e.1] at hR; exact Or.inr (Or.inr ⟨by omega, e.2, hR⟩)
                · omega
              obtain ⟨z41, hz41⟩ : ∃ z : Int, z = dz + 1 := ⟨_, rfl⟩
              refine lv_iinc (v := iN z41) (lv' := [(2, .int (iN z41)), (0, .ref (ad 0)), (3, .int (iN iz))]) hx hb dX1_digitsFrom_41 hl (k := 1) rfl (by rw [hz41]; exact iN_add _ _) (by decide) rfl (fun ls hl => ?_)
              obtain ⟨z44, hz44⟩ : ∃ z : Int, z = iz + 1 := ⟨_, rfl⟩
              refine lv_iinc (v := iN z44) (lv' := [(3, .int (iN z44)), (2, .int (iN z41)), (0, .ref (ad 0))]) hx hb dX1_digitsFrom_44 hl (k := 2) rfl (by rw [hz44]; exact iN_add _ _) (by decide) rfl (fun ls hl => ?_)
              refine lv_goto (tgt := 4) hx hb dX1_digitsFrom_47 (by decide) ?_
              exact ih4 (z41) (z44) (d + 1) (by omega) (by omega) (hS) _ (lv_sub hl [2, 1, 0] rfl)
            · skip
              have hR : dgz (chF n tx (f + d)) = 0 := by omega
              refine lv_iload_n hx hb dX1_digitsFrom_39 rfl (lv_at hl 1 rfl) ?_
              exact ro_ret cx hr hlocks (by
        rcases hdd with e | e | e
        · rw [e] at hR; exact Or.inl ⟨hR, by omega⟩
        · rw [e.1] at hR; exact Or.inr (Or.inl ⟨e.2, hR, by omega⟩)
        · omega) dX1_digitsFrom_40
  exact cut4 _ (0) (x) (0) (Nat.lt_succ_self _) (by omega) (Or.inl rfl) _ (lv_sub hl [2, 1, 0] rfl)
set_option maxHeartbeats 4000000 in
set_option maxRecDepth 100000 in
theorem c_X1_numberBetween (l : Launch) (x y : Int) (f d n : Nat) (tx : Nat → Int) (g : XS) (hx0 : TXX g n tx) (hf : x = (f : Int) ∧ y = (f : Int) + d ∧ d ≤ 2 ∧ f + d ≤ n) : xmRi l yX1_numberBetween (wU yX1_numberBetween cX1_numberBetween 5 (some .int)) ({ frames := 0, cells := 0, slots := 0, locals := 0 } : Room) [.int (iN x), .int (iN y)] g (fun z => (d = 0 ∧ z = 0) ∨ (d = 1 ∧ z = chF n tx f - 48) ∨ (d = 2 ∧ z = 10 * (chF n tx f - 48) + chF n tx (f + 1) - 48)) := by
  refine xmRi_of (by decide) (Nat.le_of_ble_eq_true rfl) ?_
  intro p e s m args below meth c D ci tb ad ga A ls cx hr hlocks hK hA hT hw hl
  have hx := cx.1
  have hb := cx.2.1
  have hl : lv_has ls 5 [(0, .ref (ad 0)), (1, .int (iN x)), (2, .int (iN y))] := hl
  have h5 := hx0.1
  have h60 := hx0.2.1
  refine ts_iconst hx hb dX1_numberBetween_0 ?_
  refine lv_istore_n (lv' := [(3, .int (iN 0)), (0, .ref (ad 0)), (1, .int (iN x)), (2, .int (iN y))]) hx hb dX1_numberBetween_1 rfl hl (by decide) rfl (fun ls hl => ?_)
  refine lv_iload_n hx hb dX1_numberBetween_2 rfl (lv_at hl 2 rfl) ?_
  refine lv_istore (lv' := [(4, .int (iN x)), (3, .int (iN 0)), (0, .ref (ad 0)), (1, .int (iN x)), (2, .int (iN y))]) hx hb dX1_numberBetween_3 hl (by decide) rfl (fun ls hl => ?_)
  have cut5 : ∀ (fu : Nat) (nz : Int) (iz : Int) (k : Nat) (hmu : 2 - k < fu) (hk : k ≤ d ∧ iz = (f : Int) + k) (hn : (k = 0 ∧ nz = 0) ∨ (k = 1 ∧ nz = chF n tx f - 48) ∨ (k = 2 ∧ nz = 10 * (chF n tx f - 48) + chF n tx (f + 1) - 48)) (ls : Array Slot) (hl : lv_has ls 5 [(0, .ref (ad 0)), (2, .int (iN y)), (3, .int (iN nz)), (4, .int (iN iz))]), W p l e ({ frames := 0, cells := 0, slots := 0, locals := 0 } : Room) s m args below meth c s.heap [] 0 0 (roQ below args s (fun z => (d = 0 ∧ z = 0) ∨ (d = 1 ∧ z = chF n tx f - 48) ∨ (d = 2 ∧ z = 10 * (chF n tx f - 48) + chF n tx (f + 1) - 48))) (F0 m 5 ls []) := by
    intro fu
    induction fu with
    | zero => intro nz iz k hmu; exact absurd hmu (Nat.not_lt_zero _)
    | succ fu ih5 =>
      intro nz iz k hmu hk hn ls hl
      refine lv_iload hx hb dX1_numberBetween_5 (lv_at hl 3 rfl) ?_
      refine lv_iload_n hx hb dX1_numberBetween_7 rfl (lv_at hl 1 rfl) ?_
      refine ts_icmp_ge (tgt := 42) hx hb (by omega) dX1_numberBetween_8 (by decide) (fun c8 => ?_) (fun c8 => ?_)
      · skip
        refine lv_iload_n hx hb dX1_numberBetween_42 rfl (lv_at hl 2 rfl) ?_
        exact ro_ret cx hr hlocks (by rw [show d = k by omega]; exact hn) dX1_numberBetween_43
      · skip
        refine lv_iload hx hb dX1_numberBetween_11 (lv_at hl 3 rfl) ?_
        refine lv_aload_n hx hb dX1_numberBetween_13 rfl (lv_at hl 0 rfl) ?_
        refine xp_get5 cx hK hw tl_RX1_153 dX1_numberBetween_14 (fun z14 hz14 => ?_)
        refine ts_icmp_ge (tgt := 42) hx hb (by omega) dX1_numberBetween_17 (by decide) (fun c17 => ?_) (fun c17 => ?_)
        · exfalso
          omega
        · skip
          have hcj := TXX_ch hx0 (j := f + k) (by omega)
          refine lv_iload_n hx hb dX1_numberBetween_20 rfl (lv_at hl 2 rfl) ?_
          refine ts_bipush hx hb dX1_numberBetween_21 (by decide) ?_
          refine ts_imul hx hb dX1_numberBetween_23 (fun z23 hz23 => ?_)
          refine lv_aload_n hx hb dX1_numberBetween_24 rfl (lv_at hl 0 rfl) ?_
          refine xp_get4 cx hK hw tl_RX1_23 dX1_numberBetween_25 ?_
          refine lv_iload hx hb dX1_numberBetween_28 (lv_at hl 3 rfl) ?_
          refine xp_cld cx hK hw (f + k) (by omega) dX1_numberBetween_30 (fun z30 hz30 => ?_)
          refine ts_bipush hx hb dX1_numberBetween_31 (by decide) ?_
          refine ts_isub hx hb dX1_numberBetween_33 (fun z33 hz33 => ?_)
          refine ts_iadd hx hb dX1_numberBetween_34 (fun z34 hz34 => ?_)
          refine lv_istore_n (lv' := [(3, .int (iN z34)), (0, .ref (ad 0)), (2, .int (iN y)), (4, .int (iN iz))]) hx hb dX1_numberBetween_35 rfl hl (by decide) rfl (fun ls hl => ?_)
          have hS : (k + 1 = 0 ∧ z34 = 0) ∨ (k + 1 = 1 ∧ z34 = chF n tx f - 48) ∨ (k + 1 = 2 ∧ z34 = 10 * (chF n tx f - 48) + chF n tx (f + 1) - 48) := by
            rcases hn with e | e | e
            · have e1 := e.1
              subst e1
              exact Or.inr (Or.inl ⟨rfl, by rw [Nat.add_zero] at hz30 hcj; omega⟩)
            · have e1 := e.1
              subst e1
              exact Or.inr (Or.inr ⟨rfl, by omega⟩)
            · omega
          obtain ⟨z36, hz36⟩ : ∃ z : Int, z = iz + 1 := ⟨_, rfl⟩
          refine lv_iinc (v := iN z36) (lv' := [(4, .int (iN z36)), (3, .int (iN z34)), (0, .ref (ad 0)), (2, .int (iN y))]) hx hb dX1_numberBetween_36 hl (k := 3) rfl (by rw [hz36]; exact iN_add _ _) (by decide) rfl (fun ls hl => ?_)
          refine lv_goto (tgt := 5) hx hb dX1_numberBetween_39 (by decide) ?_
          exact ih5 (z34) (z36) (k + 1) (by omega) (by omega) (hS) _ (lv_sub hl [2, 3, 1, 0] rfl)
  exact cut5 _ (0) (x) (0) (Nat.lt_succ_self _) (by omega) (Or.inl ⟨rfl, rfl⟩) _ (lv_sub hl [2, 4, 1, 0] rfl)
set_option maxHeartbeats 4000000 in
set_option maxRecDepth 100000 in
theorem c_X1_doOrder (l : Launch) (lt nm : Int) (g : XS) (S : StT) (hx1 : RX (g 1) S) (hv0 : VS S) (hkb : (0 ≤ lt ∧ lt ≤ 126) ∧ 0 ≤ nm ∧ nm ≤ 100) : xmMi l yX1_doOrder (wU yX1_doOrder cX1_doOrder 3 (some .int)) ({ frames := 4, cells := 0, slots := 0, locals := 135 } : Room) [.int (iN lt), .int (iN nm)] g (fun z g1 => z = (doO S lt nm).1 ∧ RX (g1 1) (doO S lt nm).2 ∧ ∀ i : Nat, i ≠ 1 → g1 i = g i) := by
  refine xmMi_of (by decide) (Nat.le_of_ble_eq_true rfl) ?_
  intro p e s m args below meth c D ci tb ad ga A ls cx hr hlocks hK hA hT hw hl
  have hx := cx.1
  have hb := cx.2.1
  have hl : lv_has ls 3 [(0, .ref (ad 0)), (1, .int (iN lt)), (2, .int (iN nm))] := hl
  refine lv_iload_n hx hb dX1_doOrder_0 rfl (lv_at hl 1 rfl) ?_
  by_cases c1_0 : lt = 98
  · refine lv_lookup (off := 52) (tgt := 53) hx hb dX1_doOrder_1 (by decide) (by rw [toInt_iN (by omega)]; exact (lkO _).trans (by (repeat' split) <;> omega)) (by decide) ?_
    refine lv_aload_n hx hb dX1_doOrder_53 rfl (lv_at hl 0 rfl) ?_
    refine xp_get1 cx hK hw tl_RX1_16 dX1_doOrder_54 ?_
    refine lv_iload_n hx hb dX1_doOrder_57 rfl (lv_at hl 2 rfl) ?_
    refine xg_calli (rest := []) cx hK hT hA hw hl 1 (by decide) (c_X0_buyCard l nm (g 1) S hx1 hv0 (by omega)) tg_RX1_45 ⟨rfl, rfl⟩ 1 rfl (by decide +kernel) ⟨Nat.le_of_ble_eq_true rfl, Nat.le_of_ble_eq_true rfl⟩ ⟨Nat.zero_le _, Nat.zero_le _⟩ (Nat.le_of_ble_eq_true rfl) dX1_doOrder_58 (rfl) (fun z58 y58 H locs hq58 hw => ?_)
    obtain ⟨g58, hg58⟩ : ∃ q, q = ux g 1 y58 := ⟨_, rfl⟩
    rw [← hg58] at hw
    have hO : doO S lt nm = buyO S nm := by
      unfold doO
      rw [if_neg (by omega), if_pos (by omega)]
    exact xm_ret cx hr hlocks hw (by rw [hO, hg58]; exact ⟨hq58.1, by rw [ux_s]; exact hq58.2, fun i hi => ux_n _ _ hi⟩) dX1_doOrder_61
  · skip
    by_cases c1_1 : lt = 103
    · refine lv_lookup (off := 70) (tgt := 71) hx hb dX1_doOrder_1 (by decide) (by rw [toInt_iN (by omega)]; exact (lkO _).trans (by (repeat' split) <;> omega)) (by decide) ?_
      refine lv_aload_n hx hb dX1_doOrder_71 rfl (lv_at hl 0 rfl) ?_
      refine xp_get1 cx hK hw tl_RX1_16 dX1_doOrder_72 ?_
      refine lv_iload_n hx hb dX1_doOrder_75 rfl (lv_at hl 2 rfl) ?_
      refine xg_calli (rest := []) cx hK hT hA hw hl 1 (by decide) (c_X0_startGame l nm (g 1) S hx1 (by omega)) tg_RX1_31 ⟨rfl, rfl⟩ 1 rfl (by decide +kernel) ⟨Nat.le_of_ble_eq_true rfl, Nat.le_of_ble_eq_true rfl⟩ ⟨Nat.zero_le _, Nat.zero_le _⟩ (Nat.le_of_ble_eq_true rfl) dX1_doOrder_76 (rfl) (fun z76 y76 H locs hq76 hw => ?_)
      obtain ⟨g76, hg76⟩ : ∃ q, q = ux g 1 y76 := ⟨_, rfl⟩
      rw [← hg76] at hw
      have hO : doO S lt nm = begO S nm := by
        unfold doO
        rw [if_neg (by omega), if_neg (by omega), if_neg (by omega), if_pos (by omega)]
      exact xm_ret cx hr hlocks hw (by rw [hO, hg76]; exact ⟨hq76.1, by rw [ux_s]; exact hq76.2, fun i hi => ux_n _ _ hi⟩) dX1_doOrder_79
    · skip
      by_cases c1_2 : lt = 112
      · refine lv_lookup (off := 43) (tgt := 44) hx hb dX1_doOrder_1 (by decide) (by rw [toInt_iN (by omega)]; exact (lkO _).trans (by (repeat' split) <;> omega)) (by decide) ?_
        refine lv_aload_n hx hb dX1_doOrder_44 rfl (lv_at hl 0 rfl) ?_
        refine xp_get1 cx hK hw tl_RX1_16 dX1_doOrder_45 ?_
        refine lv_iload_n hx hb dX1_doOrder_48 rfl (lv_at hl 2 rfl) ?_
        refine xg_calli (rest := []) cx hK hT hA hw hl 1 (by decide) (c_X0_playCard l nm (g 1) S hx1 hv0 (by omega)) tg_RX1_42 ⟨rfl, rfl⟩ 1 rfl (by decide +kernel) ⟨Nat.le_of_ble_eq_true rfl, Nat.le_of_ble_eq_true rfl⟩ ⟨Nat.zero_le _, Nat.zero_le _⟩ (Nat.le_of_ble_eq_true rfl) dX1_doOrder_49 (rfl) (fun z49 y49 H locs hq49 hw => ?_)
        obtain ⟨g49, hg49⟩ : ∃ q, q = ux g 1 y49 := ⟨_, rfl⟩
        rw [← hg49] at hw
        have hO : doO S lt nm = playO S nm := by
          unfold doO
          rw [if_pos (by omega)]
        exact xm_ret cx hr hlocks hw (by rw [hO, hg49]; exact ⟨hq49.1, by rw [ux_s]; exact hq49.2, fun i hi => ux_n _ _ hi⟩) dX1_doOrder_52
      · skip
        by_cases c1_3 : lt = 120
        · refine lv_lookup (off := 61) (tgt := 62) hx hb dX1_doOrder_1 (by decide) (by rw [toInt_iN (by omega)]; exact (lkO _).trans (by (repeat' split) <;> omega)) (by decide) ?_
          refine lv_aload_n hx hb dX1_doOrder_62 rfl (lv_at hl 0 rfl) ?_
          refine xp_get1 cx hK hw tl_RX1_16 dX1_doOrder_63 ?_
          refine lv_iload_n hx hb dX1_doOrder_66 rfl (lv_at hl 2 rfl) ?_
          refine xg_calli (rest := []) cx hK hT hA hw hl 1 (by decide) (c_X0_scrapCard l nm (g 1) S hx1 hv0 (by omega)) tg_RX1_48 ⟨rfl, rfl⟩ 1 rfl (by decide +kernel) ⟨Nat.le_of_ble_eq_true rfl, Nat.le_of_ble_eq_true rfl⟩ ⟨Nat.zero_le _, Nat.zero_le _⟩ (Nat.le_of_ble_eq_true rfl) dX1_doOrder_67 (rfl) (fun z67 y67 H locs hq67 hw => ?_)
          obtain ⟨g67, hg67⟩ : ∃ q, q = ux g 1 y67 := ⟨_, rfl⟩
          rw [← hg67] at hw
          have hO : doO S lt nm = scrO S nm := by
            unfold doO
            rw [if_neg (by omega), if_neg (by omega), if_pos (by omega)]
          exact xm_ret cx hr hlocks hw (by rw [hO, hg67]; exact ⟨hq67.1, by rw [ux_s]; exact hq67.2, fun i hi => ux_n _ _ hi⟩) dX1_doOrder_70
        · skip
          refine lv_lookup (off := 79) (tgt := 80) hx hb dX1_doOrder_1 (by decide) (by rw [toInt_iN (by omega)]; exact (lkO _).trans (by (repeat' split) <;> omega)) (by decide) ?_
          refine lv_aload_n hx hb dX1_doOrder_80 rfl (lv_at hl 0 rfl) ?_
          refine xp_get1 cx hK hw tl_RX1_16 dX1_doOrder_81 ?_
          refine xg_calli (rest := []) cx hK hT hA hw hl 1 (by decide) (c_X0_endTurn l (g 1) S hx1 hv0) tg_RX1_51 ⟨rfl, rfl⟩ 0 rfl (by decide +kernel) ⟨Nat.le_of_ble_eq_true rfl, Nat.le_of_ble_eq_true rfl⟩ ⟨Nat.zero_le _, Nat.zero_le _⟩ (Nat.le_of_ble_eq_true rfl) dX1_doOrder_84 (rfl) (fun z84 y84 H locs hq84 hw => ?_)
          obtain ⟨g84, hg84⟩ : ∃ q, q = ux g 1 y84 := ⟨_, rfl⟩
          rw [← hg84] at hw
          have hO : doO S lt nm = endO S := by
            unfold doO
            rw [if_neg (by omega), if_neg (by omega), if_neg (by omega), if_neg (by omega)]
          exact xm_ret cx hr hlocks hw (by rw [hO, hg84]; exact ⟨hq84.1, by rw [ux_s]; exact hq84.2, fun i hi => ux_n _ _ hi⟩) dX1_doOrder_87
