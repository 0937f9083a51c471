/-! ===== TurningShop: the orders of the text ===== -/
theorem numF_bx (n : Nat) (tx : Nat → Int) (a : Nat) : 0 ≤ numF n tx a ∧ numF n tx a ≤ 99 := by
  have h1 := dgz_c (chF n tx (a + 1))
  have h2 := dgz_c (chF n tx (a + 2))
  rcases dgs_z n tx a with q | q | q
  · have e1 := h1.resolve_right (fun w => by have := w.2; omega)
    have e2 := h2.resolve_right (fun w => by have := w.2; omega)
    omega
  · have e1 := h1.resolve_right (fun w => by have := w.2; omega)
    omega
  · omega
theorem doO_b {S : StT} (h : VS S) (lt nm : Int) : -1000002 ≤ (doO S lt nm).1 ∧ (doO S lt nm).1 ≤ 1000 := by
  have hb := op_b h
  unfold doO
  split
  · exact hb.1 _
  · split
    · exact hb.2.1 _
    · split
      · exact hb.2.2.1 _
      · split
        · exact hb.2.2.2.2 _
        · exact hb.2.2.2.1
theorem FX_TXX {g : XS} {T : TT} (hf : FX g T) (hv : VT T) : TXX g T.2.2.1 T.2.2.2 := ⟨hf.2.2.2.1, hv.2.2.2.1, hf.2.2.2.2, hv.2.2.2.2⟩
theorem TXX_6 {g g1 : XS} {n : Nat} {tx : Nat → Int} (h : TXX g n tx) (e : g1 6 = g 6) : TXX g1 n tx := ⟨by rw [e]; exact h.1, h.2.1, fun j hj => by rw [e]; exact h.2.2.1 j hj, h.2.2.2⟩
/-- what tryText says -/
def TP (T : TT) (z : Int) (g1 : XS) : Prop := FX g1 T ∧ (((oT T).2.1 = 0 ∧ z = (oT T).1 ∧ (0 ≤ z ∧ z ≤ 60) ∧ RX (g1 1) (oT T).2.2.2.2) ∨ ((oT T).2.1 ≠ 0 ∧ z = -1 ∧ g1 6 4 6 = (oT T).2.2.1 ∧ g1 6 4 7 = (oT T).2.1 ∧ g1 6 4 8 = (oT T).2.2.2.1))
theorem FX_FO {g g1 : XS} {T : TT} (hf : FX g T) (hv : VT T) (h : FO g1 g) : FX g1 T := FX_faults hf h.1 (h.2.2 3 (by decide)) (h.2.2 5 (by decide)) (h.2.1 0 (by decide)) hv.2.1
theorem TP_f {T : TT} {g1 gc : XS} {z k r a w : Int} {S : StT} (hf : FX gc T) (hv : VT T) (hO : oT T = (k, r, a, w, S)) (hr : r ≠ 0) (hq : z = -1 ∧ FO g1 gc ∧ g1 6 4 6 = a ∧ g1 6 4 7 = r ∧ g1 6 4 8 = w) : TP T z g1 := by
  refine ⟨FX_FO hf hv hq.2.1, Or.inr ?_⟩
  rw [hO]
  exact ⟨hr, hq.1, hq.2.2.1, hq.2.2.2.1, hq.2.2.2.2⟩
theorem TP_g {T : TT} {gc : XS} {k : Int} {S : StT} (hf : FX gc T) (hO : oT T = (k, 0, 0, 0, S)) (hk : 0 ≤ k ∧ k ≤ 60) (hr : RX (gc 1) S) : TP T k gc := by
  refine ⟨hf, Or.inl ?_⟩
  rw [hO]
  exact ⟨rfl, rfl, hk, hr⟩
/-- an order that is not of the form: its first character, or the rest -/
theorem ok_no1 {n : Nat} {tx : Nat → Int} {a : Nat} (h1 : chF n tx a ≠ 101) (h2 : ¬ (chF n tx a = 112 ∨ chF n tx a = 98 ∨ chF n tx a = 120 ∨ chF n tx a = 103)) : okF n tx a = false ∧ wrA n tx a = 0 := by
  constructor
  · cases h : okF n tx a
    · rfl
    · exact absurd (okF_t.mp h).1 (fun q => q.elim h1 (fun w => h2 w.1))
  · unfold wrA
    rw [if_neg (fun q => q.elim h1 h2)]
theorem ok_no2 {n : Nat} {tx : Nat → Int} {a : Nat} (h1 : chF n tx a = 101 ∨ (chF n tx a = 112 ∨ chF n tx a = 98 ∨ chF n tx a = 120 ∨ chF n tx a = 103)) (h2 : (chF n tx a ≠ 101 ∧ dgs n tx a = 0) ∨ chF n tx (beh n tx a) ≠ 59) : okF n tx a = false ∧ wrA n tx a = 1 + (dgs n tx a : Int) := by
  constructor
  · cases h : okF n tx a
    · rfl
    · have h3 := okF_t.mp h
      rcases h2 with q | q
      · exact absurd h3.1 (fun w => w.elim q.1 (fun w => w.2 q.2))
      · exact absurd h3.2 q
  · unfold wrA
    rw [if_pos h1]
theorem ok_yes {n : Nat} {tx : Nat → Int} {a : Nat} (h1 : chF n tx a = 101 ∨ ((chF n tx a = 112 ∨ chF n tx a = 98 ∨ chF n tx a = 120 ∨ chF n tx a = 103) ∧ dgs n tx a ≠ 0)) (h2 : chF n tx (beh n tx a) = 59) : okF n tx a = true := okF_t.mpr ⟨h1, h2⟩
/-- the digits that the class counts -/
theorem dg_num {n : Nat} {tx : Nat → Int} {a : Nat} {z : Int} (hn : chF n tx a = 112 ∨ chF n tx a = 98 ∨ chF n tx a = 120 ∨ chF n tx a = 103) (hz : (dgz (chF n tx (a + 1)) = 0 ∧ z = 0) ∨ (dgz (chF n tx (a + 1)) = 1 ∧ dgz (chF n tx (a + 1 + 1)) = 0 ∧ z = 1) ∨ (dgz (chF n tx (a + 1)) = 1 ∧ dgz (chF n tx (a + 1 + 1)) = 1 ∧ z = 2)) : z = (dgs n tx a : Int) := by
  have e2 : dgz (chF n tx (a + 1 + 1)) = dgz (chF n tx (a + 2)) := rfl
  rw [e2] at hz
  have e1 : nmz (chF n tx a) = 1 := by
    unfold nmz
    rw [if_pos hn]
  rcases dgs_z n tx a with q | q | q <;> omega
theorem dg_e {n : Nat} {tx : Nat → Int} {a : Nat} (hn : ¬ (chF n tx a = 112 ∨ chF n tx a = 98 ∨ chF n tx a = 120 ∨ chF n tx a = 103)) : dgs n tx a = 0 := by
  unfold dgs
  rw [if_neg (fun q => hn q.1)]
theorem dg_le (n : Nat) (tx : Nat → Int) (a : Nat) : dgs n tx a ≤ 2 := by
  unfold dgs
  (repeat' split) <;> omega
theorem num_eq {n : Nat} {tx : Nat → Int} {a : Nat} {z : Int} (hz : (dgs n tx a = 0 ∧ z = 0) ∨ (dgs n tx a = 1 ∧ z = chF n tx (a + 1) - 48) ∨ (dgs n tx a = 2 ∧ z = 10 * (chF n tx (a + 1) - 48) + chF n tx (a + 1 + 1) - 48)) : z = numF n tx a := by
  unfold numF
  rcases hz with q | q | q
  · rw [if_pos q.1]; exact q.2
  · rw [if_neg (by omega), if_pos q.1]; exact q.2
  · rw [if_neg (by omega), if_neg (by omega)]; exact q.2
set_option maxHeartbeats 4000000 in
set_option maxRecDepth 100000 in
theorem c_X1_tryText (l : Launch) (g : XS) (T : TT) (hf : FX g T) (hv : VT T) : xmMi l yX1_tryText (wU yX1_tryText cX1_tryText 7 (some .int)) ({ frames := 5, cells := 0, slots := 0, locals := 157 } : Room) [] g (fun z g1 => TP T z g1) := by
  refine xmMi_of (by decide) (Nat.le_of_ble_eq_true rfl) ?_
  intro p e s m args below meth c D ci tb ad ga A ls cx hr hlocks hK hA hT hw hl
  have hx := cx.1
  have hb := cx.2.1
  have hl : lv_has ls 7 [(0, .ref (ad 0))] := hl
  have h60 := hv.2.2.2.1
  have h5 := hf.2.2.2.1
  have htg := FX_TXX hf hv
  refine lv_aload_n hx hb dX1_tryText_0 rfl (lv_at hl 0 rfl) ?_
  refine xm_callq (rest := []) cx hK hT hA hw hl (c_X1_copyOfNow l g (FX_13 hf hv)) tg_RX1_35 ⟨rfl, rfl⟩ 0 rfl (by decide +kernel) ⟨Nat.le_of_ble_eq_true rfl, Nat.le_of_ble_eq_true rfl⟩ ⟨Nat.zero_le _, Nat.zero_le _⟩ (Nat.le_of_ble_eq_true rfl) dX1_tryText_1 (rfl) (fun ga1 g1 H locs hq1 hw => ?_)
  obtain ⟨hr1, he1⟩ := CE_RX1 hf.1 hq1
  refine lv_pop hx hb dX1_tryText_4 rfl ?_
  refine ts_iconst hx hb dX1_tryText_5 ?_
  refine lv_istore_n (lv' := [(1, .int (iN 0)), (0, .ref (ad 0))]) hx hb dX1_tryText_6 rfl hl (by decide) rfl (fun ls hl => ?_)
  refine ts_iconst hx hb dX1_tryText_7 ?_
  refine lv_istore_n (lv' := [(2, .int (iN 0)), (1, .int (iN 0)), (0, .ref (ad 0))]) hx hb dX1_tryText_8 rfl hl (by decide) rfl (fun ls hl => ?_)
  have cut9 : ∀ (fu : Nat) (az : Int) (kz : Int) (a : Nat) (k : Nat) (S : StT) (gc : XS) (hmu : 61 - k < fu) (hak : az = (a : Int) ∧ kz = (k : Int) ∧ 2 * k ≤ a ∧ a ≤ T.2.2.1) (hvS : VS S) (hrc : RX (gc 1) S) (hec : ∀ i : Nat, i ≠ 1 → gc i = g i) (heq : oT T = goT T.2.2.1 T.2.2.2 (61 - k) a kz S) (gac : GA) (H : Heap) (locs : List Loc) (hw : xmB D A s ci ad gac gc H locs) (ls : Array Slot) (hl : lv_has ls 7 [(0, .ref (ad 0)), (1, .int (iN az)), (2, .int (iN kz))]), W p l e ({ frames := 5, cells := 0, slots := 0, locals := 157 } : Room) s m args below meth c H locs 0 0 (xmQi D ci ad A below args s (fun z g1 => TP T z g1)) (F0 m 9 ls []) := by
    intro fu
    induction fu with
    | zero => intro az kz a k S gc hmu; exact absurd hmu (Nat.not_lt_zero _)
    | succ fu ih9 =>
      intro az kz a k S gc hmu hak hvS hrc hec heq gac H locs hw ls hl
      refine lv_iload_n hx hb dX1_tryText_9 rfl (lv_at hl 2 rfl) ?_
      refine ts_bipush hx hb dX1_tryText_10 (by decide) ?_
      refine ts_icmp_ge (tgt := 168) hx hb (by omega) dX1_tryText_12 (by decide) (fun c12 => ?_) (fun c12 => ?_)
      · exfalso
        omega
      · skip
        have h6c := hec 6 (by decide)
        have htx : TXX gc T.2.2.1 T.2.2.2 := TXX_6 htg h6c
        have hfc : FX gc T := FX_spare hf hec
        have h5c := htx.1
        refine lv_iload_n hx hb dX1_tryText_15 rfl (lv_at hl 1 rfl) ?_
        refine lv_aload_n hx hb dX1_tryText_16 rfl (lv_at hl 0 rfl) ?_
        refine xp_get5 cx hK hw tl_RX1_153 dX1_tryText_17 (fun z17 hz17 => ?_)
        refine ts_icmp_ge (tgt := 168) hx hb (by omega) dX1_tryText_20 (by decide) (fun c20 => ?_) (fun c20 => ?_)
        · skip
          have hO : oT T = (kz, 0, 0, 0, S) := by rw [heq]; exact goT_end _ _ _ _ _ _ (by omega)
          have hfc2 : FX gc T := FX_spare hf hec
          refine lv_iload_n hx hb dX1_tryText_168 rfl (lv_at hl 2 rfl) ?_
          exact xm_ret cx hr hlocks hw (TP_g hfc2 hO (by omega) hrc) dX1_tryText_169
        · skip
          have hc0 := TXX_ch htx (j := a) (by omega)
          rw [show 61 - k = (60 - k) + 1 by omega] at heq
          refine lv_aload_n hx hb dX1_tryText_23 rfl (lv_at hl 0 rfl) ?_
          refine xp_get4 cx hK hw tl_RX1_23 dX1_tryText_24 ?_
          refine lv_iload_n hx hb dX1_tryText_27 rfl (lv_at hl 1 rfl) ?_
          refine xp_cld cx hK hw (a) (by omega) dX1_tryText_28 (fun z28 hz28 => ?_)
          refine ps_call (rest := []) cx hl (c_X1_isNumberedOrder l z28 (by omega)) tg_RX1_176 ⟨rfl, rfl⟩ 1 rfl (by decide +kernel) ⟨Nat.le_of_ble_eq_true rfl, Nat.le_of_ble_eq_true rfl⟩ ⟨Nat.zero_le _, Nat.zero_le _⟩ (Nat.le_of_ble_eq_true rfl) dX1_tryText_29 (rfl) (fun z29 hz29 => ?_)
          refine lv_istore_n (lv' := [(3, .int (iN z29)), (0, .ref (ad 0)), (1, .int (iN az)), (2, .int (iN kz))]) hx hb dX1_tryText_32 rfl hl (by decide) rfl (fun ls hl => ?_)
          have cut56 : ∀  (hnm : (z29 = 1 ∧ (chF T.2.2.1 T.2.2.2 (a) = 112 ∨ chF T.2.2.1 T.2.2.2 (a) = 98 ∨ chF T.2.2.1 T.2.2.2 (a) = 120 ∨ chF T.2.2.1 T.2.2.2 (a) = 103)) ∨ (z29 = 0 ∧ chF T.2.2.1 T.2.2.2 (a) = 101)) (H : Heap) (locs : List Loc) (hw : xmB D A s ci ad gac gc H locs) (ls : Array Slot) (hl : lv_has ls 7 [(0, .ref (ad 0)), (1, .int (iN az)), (2, .int (iN kz)), (3, .int (iN z29))]), W p l e ({ frames := 5, cells := 0, slots := 0, locals := 157 } : Room) s m args below meth c H locs 0 0 (xmQi D ci ad A below args s (fun z g1 => TP T z g1)) (F0 m 56 ls []) := by
            intro  hnm H locs hw ls hl
            refine lv_iload_n hx hb dX1_tryText_56 rfl (lv_at hl 3 rfl) ?_
            have cut71 : ∀ (dg : Int) (hdg : dg = (dgs T.2.2.1 T.2.2.2 a : Int)) (H : Heap) (locs : List Loc) (hw : xmB D A s ci ad gac gc H locs) (ls : Array Slot) (hl : lv_has ls 7 [(0, .ref (ad 0)), (1, .int (iN az)), (2, .int (iN kz)), (3, .int (iN z29))]), W p l e ({ frames := 5, cells := 0, slots := 0, locals := 157 } : Room) s m args below meth c H locs 0 0 (xmQi D ci ad A below args s (fun z g1 => TP T z g1)) (F0 m 71 ls [.int (iN dg)]) := by
              intro dg hdg H locs hw ls hl
              refine lv_istore (lv' := [(4, .int (iN dg)), (0, .ref (ad 0)), (1, .int (iN az)), (2, .int (iN kz)), (3, .int (iN z29))]) hx hb dX1_tryText_71 hl (by decide) rfl (fun ls hl => ?_)
              refine lv_iload_n hx hb dX1_tryText_73 rfl (lv_at hl 2 rfl) ?_
              refine ts_iconst hx hb dX1_tryText_74 ?_
              refine ts_iadd hx hb dX1_tryText_75 (fun z75 hz75 => ?_)
              refine lv_iload hx hb dX1_tryText_76 (lv_at hl 0 rfl) ?_
              refine ts_iadd hx hb dX1_tryText_78 (fun z78 hz78 => ?_)
              have hdl2 := dg_le T.2.2.1 T.2.2.2 a
              have hbd : beh T.2.2.1 T.2.2.2 a = a + 1 + dgs T.2.2.1 T.2.2.2 a := rfl
              have hbe : z78 = (beh T.2.2.1 T.2.2.2 a : Int) := by omega
              refine lv_istore (lv' := [(5, .int (iN z78)), (4, .int (iN dg)), (0, .ref (ad 0)), (1, .int (iN az)), (2, .int (iN kz)), (3, .int (iN z29))]) hx hb dX1_tryText_79 hl (by decide) rfl (fun ls hl => ?_)
              have cut111 : ∀  (hno : (chF T.2.2.1 T.2.2.2 (a) ≠ 101 ∧ dgs T.2.2.1 T.2.2.2 a = 0) ∨ chF T.2.2.1 T.2.2.2 (beh T.2.2.1 T.2.2.2 a) ≠ 59) (H : Heap) (locs : List Loc) (hw : xmB D A s ci ad gac gc H locs) (ls : Array Slot) (hl : lv_has ls 7 [(0, .ref (ad 0)), (1, .int (iN az)), (2, .int (iN kz)), (5, .int (iN z78))]), W p l e ({ frames := 5, cells := 0, slots := 0, locals := 157 } : Room) s m args below meth c H locs 0 0 (xmQi D ci ad A below args s (fun z g1 => TP T z g1)) (F0 m 111 ls []) := by
                intro  hno H locs hw ls hl
                have hok := ok_no2 (n := T.2.2.1) (tx := T.2.2.2) (a := a) (by omega) hno
                have hO : oT T = (kz, 1, (a : Int), 1 + (dgs T.2.2.1 T.2.2.2 a : Int), S) := by rw [heq, goT_w (by omega) hok.1, hok.2]
                refine lv_aload_n hx hb dX1_tryText_111 rfl (lv_at hl 0 rfl) ?_
                refine lv_iload_n hx hb dX1_tryText_112 rfl (lv_at hl 1 rfl) ?_
                refine ts_iconst hx hb dX1_tryText_113 ?_
                refine lv_iload hx hb dX1_tryText_114 (lv_at hl 3 rfl) ?_
                refine lv_iload_n hx hb dX1_tryText_116 rfl (lv_at hl 1 rfl) ?_
                refine ts_isub hx hb dX1_tryText_117 (fun z117 hz117 => ?_)
                refine xm_calli (rest := []) cx hK hT hA hw hl (c_X1_keepFault l az 1 z117 gc) tg_RX1_180 ⟨rfl, rfl⟩ 3 rfl (by decide +kernel) ⟨Nat.le_of_ble_eq_true rfl, Nat.le_of_ble_eq_true rfl⟩ ⟨Nat.zero_le _, Nat.zero_le _⟩ (Nat.le_of_ble_eq_true rfl) dX1_tryText_118 (rfl) (fun z118 ga118 g118 H locs hq118 hw => ?_)
                exact xm_ret cx hr hlocks hw (TP_f hfc hv hO (by decide) (by rw [← hak.1, show 1 + (dgs T.2.2.1 T.2.2.2 a : Int) = z117 by omega]; exact hq118)) dX1_tryText_121
              have cut90 : ∀  (hnd : chF T.2.2.1 T.2.2.2 (a) = 101 ∨ ((chF T.2.2.1 T.2.2.2 (a) = 112 ∨ chF T.2.2.1 T.2.2.2 (a) = 98 ∨ chF T.2.2.1 T.2.2.2 (a) = 120 ∨ chF T.2.2.1 T.2.2.2 (a) = 103) ∧ dgs T.2.2.1 T.2.2.2 a ≠ 0)) (H : Heap) (locs : List Loc) (hw : xmB D A s ci ad gac gc H locs) (ls : Array Slot) (hl : lv_has ls 7 [(0, .ref (ad 0)), (1, .int (iN az)), (2, .int (iN kz)), (5, .int (iN z78))]), W p l e ({ frames := 5, cells := 0, slots := 0, locals := 157 } : Room) s m args below meth c H locs 0 0 (xmQi D ci ad A below args s (fun z g1 => TP T z g1)) (F0 m 90 ls []) := by
                intro  hnd H locs hw ls hl
                refine lv_iload hx hb dX1_tryText_90 (lv_at hl 3 rfl) ?_
                refine lv_aload_n hx hb dX1_tryText_92 rfl (lv_at hl 0 rfl) ?_
                refine xp_get5 cx hK hw tl_RX1_153 dX1_tryText_93 (fun z93 hz93 => ?_)
                refine ts_icmp_ge (tgt := 111) hx hb (by omega) dX1_tryText_96 (by decide) (fun c96 => ?_) (fun c96 => ?_)
                · skip
                  exact cut111  (Or.inr (by rw [chF_end (by omega)]; decide)) _ _ hw _ (lv_sub hl [0, 1, 2, 3] rfl)
                · skip
                  have hcb := TXX_ch htx (j := beh T.2.2.1 T.2.2.2 a) (by omega)
                  refine lv_aload_n hx hb dX1_tryText_99 rfl (lv_at hl 0 rfl) ?_
                  refine xp_get4 cx hK hw tl_RX1_23 dX1_tryText_100 ?_
                  refine lv_iload hx hb dX1_tryText_103 (lv_at hl 3 rfl) ?_
                  refine xp_cld cx hK hw (beh T.2.2.1 T.2.2.2 a) (by omega) dX1_tryText_105 (fun z105 hz105 => ?_)
                  refine ts_bipush hx hb dX1_tryText_106 (by decide) ?_
                  refine ts_icmp_eq (tgt := 122) hx hb (by omega) dX1_tryText_108 (by decide) (fun c108 => ?_) (fun c108 => ?_)
                  · skip
                    have hok : okF T.2.2.1 T.2.2.2 a = true := ok_yes hnd (by omega)
                    have hbn : beh T.2.2.1 T.2.2.2 a = a + 1 + dgs T.2.2.1 T.2.2.2 a := rfl
                    refine lv_aload_n hx hb dX1_tryText_122 rfl (lv_at hl 0 rfl) ?_
                    refine lv_aload_n hx hb dX1_tryText_123 rfl (lv_at hl 0 rfl) ?_
                    refine xp_get4 cx hK hw tl_RX1_23 dX1_tryText_124 ?_
                    refine lv_iload_n hx hb dX1_tryText_127 rfl (lv_at hl 1 rfl) ?_
                    refine xp_cld cx hK hw (a) (by omega) dX1_tryText_128 (fun z128 hz128 => ?_)
                    refine lv_aload_n hx hb dX1_tryText_129 rfl (lv_at hl 0 rfl) ?_
                    refine lv_iload_n hx hb dX1_tryText_130 rfl (lv_at hl 1 rfl) ?_
                    refine ts_iconst hx hb dX1_tryText_131 ?_
                    refine ts_iadd hx hb dX1_tryText_132 (fun z132 hz132 => ?_)
                    refine lv_iload hx hb dX1_tryText_133 (lv_at hl 3 rfl) ?_
                    refine xm_callr (rest := [.int (iN z128), .ref (ad 0)]) cx hK hT hA hw hl (c_X1_numberBetween l z132 z78 (a + 1) (dgs T.2.2.1 T.2.2.2 a) T.2.2.1 T.2.2.2 gc htx (by omega)) tg_RX1_186 ⟨rfl, rfl⟩ 2 rfl (by decide +kernel) ⟨Nat.le_of_ble_eq_true rfl, Nat.le_of_ble_eq_true rfl⟩ ⟨Nat.zero_le _, Nat.zero_le _⟩ (Nat.le_of_ble_eq_true rfl) dX1_tryText_135 (rfl) (fun z135 hz135 => ?_)
                    have hnum : z135 = numF T.2.2.1 T.2.2.2 a := num_eq hz135
                    have hnb := numF_bx T.2.2.1 T.2.2.2 a
                    refine xm_calli (rest := []) cx hK hT hA hw hl (c_X1_doOrder l z128 z135 gc S hrc hvS (by omega)) tg_RX1_190 ⟨rfl, rfl⟩ 2 rfl (by decide +kernel) ⟨Nat.le_of_ble_eq_true rfl, Nat.le_of_ble_eq_true rfl⟩ ⟨Nat.zero_le _, Nat.zero_le _⟩ (Nat.le_of_ble_eq_true rfl) dX1_tryText_138 (rfl) (fun z138 ga138 g138 H locs hq138 hw => ?_)
                    have hec138 : ∀ i : Nat, i ≠ 1 → g138 i = g i := fun i hi => (hq138.2.2 i hi).trans (hec i hi)
                    have h128 : z128 = chF T.2.2.1 T.2.2.2 (a) := by omega
                    have hdb := doO_b hvS z128 z135
                    have hdv := VS_do hvS z128 z135
                    refine lv_istore (lv' := [(6, .int (iN z138)), (0, .ref (ad 0)), (1, .int (iN az)), (2, .int (iN kz)), (5, .int (iN z78))]) hx hb dX1_tryText_141 hl (by decide) rfl (fun ls hl => ?_)
                    refine lv_iload hx hb dX1_tryText_143 (lv_at hl 0 rfl) ?_
                    refine ts_if_ge (tgt := 157) hx hb (by omega) dX1_tryText_145 (by decide) (fun c145 => ?_) (fun c145 => ?_)
                    · skip
                      have h1 : doO S (chF T.2.2.1 T.2.2.2 (a)) (numF T.2.2.1 T.2.2.2 a) = doO S z128 z135 := by rw [← h128, ← hnum]
                      have heq2 : oT T = goT T.2.2.1 T.2.2.2 (61 - (k + 1)) (beh T.2.2.1 T.2.2.2 a + 1) (kz + 1) (doO S z128 z135).2 := by
                        rw [heq, goT_g (by omega) hok (by rw [h1, ← hq138.1]; exact c145), h1, show 61 - (k + 1) = 60 - k by omega]
                      refine lv_iload hx hb dX1_tryText_157 (lv_at hl 4 rfl) ?_
                      refine ts_iconst hx hb dX1_tryText_159 ?_
                      refine ts_iadd hx hb dX1_tryText_160 (fun z160 hz160 => ?_)
                      refine lv_istore_n (lv' := [(1, .int (iN z160)), (6, .int (iN z138)), (0, .ref (ad 0)), (2, .int (iN kz)), (5, .int (iN z78))]) hx hb dX1_tryText_161 rfl hl (by decide) rfl (fun ls hl => ?_)
                      obtain ⟨z162, hz162⟩ : ∃ z : Int, z = kz + 1 := ⟨_, rfl⟩
                      refine lv_iinc (v := iN z162) (lv' := [(2, .int (iN z162)), (1, .int (iN z160)), (6, .int (iN z138)), (0, .ref (ad 0)), (5, .int (iN z78))]) hx hb dX1_tryText_162 hl (k := 3) rfl (by rw [hz162]; exact iN_add _ _) (by decide) rfl (fun ls hl => ?_)
                      refine lv_goto (tgt := 9) hx hb dX1_tryText_165 (by decide) ?_
                      exact ih9 (z160) (z162) (beh T.2.2.1 T.2.2.2 a + 1) (k + 1) ((doO S z128 z135).2) (g138) (by omega) (by omega) (hdv.1) (hq138.2.1) (hec138) (by rw [hz162]; exact heq2) ga138 _ _ hw _ (lv_sub hl [3, 1, 0] rfl)
                    · skip
                      have hO : oT T = (kz, 2, (a : Int), z138, S) := by
                        have h1 : (doO S (chF T.2.2.1 T.2.2.2 (a)) (numF T.2.2.1 T.2.2.2 a)).1 = z138 := by rw [← h128, ← hnum]; exact hq138.1.symm
                        rw [heq, goT_f (by omega) hok (by rw [h1]; exact c145), h1]
                      have hf138 : FX g138 T := FX_spare hf hec138
                      refine lv_aload_n hx hb dX1_tryText_148 rfl (lv_at hl 1 rfl) ?_
                      refine lv_iload_n hx hb dX1_tryText_149 rfl (lv_at hl 2 rfl) ?_
                      refine ts_iconst hx hb dX1_tryText_150 ?_
                      refine lv_iload hx hb dX1_tryText_151 (lv_at hl 0 rfl) ?_
                      refine xm_calli (rest := []) cx hK hT hA hw hl (c_X1_keepFault l az 2 z138 g138) tg_RX1_180 ⟨rfl, rfl⟩ 3 rfl (by decide +kernel) ⟨Nat.le_of_ble_eq_true rfl, Nat.le_of_ble_eq_true rfl⟩ ⟨Nat.zero_le _, Nat.zero_le _⟩ (Nat.le_of_ble_eq_true rfl) dX1_tryText_153 (rfl) (fun z153 ga153 g153 H locs hq153 hw => ?_)
                      exact xm_ret cx hr hlocks hw (TP_f hf138 hv hO (by decide) (by rw [← hak.1]; exact hq153)) dX1_tryText_156
                  · skip
                    exact cut111  (Or.inr (by omega)) _ _ hw _ (lv_sub hl [0, 1, 2, 3] rfl)
              refine lv_iload_n hx hb dX1_tryText_81 rfl (lv_at hl 5 rfl) ?_
              refine ts_if_eq (tgt := 90) hx hb (by omega) dX1_tryText_82 (by decide) (fun c82 => ?_) (fun c82 => ?_)
              · skip
                exact cut90  (Or.inl (by omega)) _ _ hw _ (lv_sub hl [2, 3, 4, 0] rfl)
              · skip
                refine lv_iload hx hb dX1_tryText_85 (lv_at hl 1 rfl) ?_
                refine ts_if_eq (tgt := 111) hx hb (by omega) dX1_tryText_87 (by decide) (fun c87 => ?_) (fun c87 => ?_)
                · skip
                  exact cut111  (Or.inl ⟨by omega, by omega⟩) _ _ hw _ (lv_sub hl [2, 3, 4, 0] rfl)
                · skip
                  exact cut90  (Or.inr ⟨by omega, by omega⟩) _ _ hw _ (lv_sub hl [2, 3, 4, 0] rfl)
            have hdl := dg_le T.2.2.1 T.2.2.2 a
            refine ts_if_eq (tgt := 70) hx hb (by omega) dX1_tryText_57 (by decide) (fun c57 => ?_) (fun c57 => ?_)
            · skip
              refine ts_iconst hx hb dX1_tryText_70 ?_
              exact cut71 (0) (by rw [dg_e (by omega)]; rfl) _ _ hw _ (lv_sub hl [0, 1, 2, 3] rfl)
            · skip
              refine lv_aload_n hx hb dX1_tryText_60 rfl (lv_at hl 0 rfl) ?_
              refine lv_iload_n hx hb dX1_tryText_61 rfl (lv_at hl 1 rfl) ?_
              refine ts_iconst hx hb dX1_tryText_62 ?_
              refine ts_iadd hx hb dX1_tryText_63 (fun z63 hz63 => ?_)
              refine xm_callr (rest := []) cx hK hT hA hw hl (c_X1_digitsFrom l z63 (a + 1) T.2.2.1 T.2.2.2 gc htx (by omega)) tg_RX1_183 ⟨rfl, rfl⟩ 1 rfl (by decide +kernel) ⟨Nat.le_of_ble_eq_true rfl, Nat.le_of_ble_eq_true rfl⟩ ⟨Nat.zero_le _, Nat.zero_le _⟩ (Nat.le_of_ble_eq_true rfl) dX1_tryText_64 (rfl) (fun z64 hz64 => ?_)
              refine lv_goto (tgt := 71) hx hb dX1_tryText_67 (by decide) ?_
              exact cut71 (z64) (dg_num (by omega) hz64) _ _ hw _ (lv_sub hl [0, 1, 2, 3] rfl)
          refine lv_iload_n hx hb dX1_tryText_33 rfl (lv_at hl 0 rfl) ?_
          refine ts_if_ne (tgt := 56) hx hb (by omega) dX1_tryText_34 (by decide) (fun c34 => ?_) (fun c34 => ?_)
          · skip
            exact cut56  (by omega) _ _ hw _ (lv_sub hl [1, 2, 3, 0] rfl)
          · skip
            refine lv_aload_n hx hb dX1_tryText_37 rfl (lv_at hl 1 rfl) ?_
            refine xp_get4 cx hK hw tl_RX1_23 dX1_tryText_38 ?_
            refine lv_iload_n hx hb dX1_tryText_41 rfl (lv_at hl 2 rfl) ?_
            refine xp_cld cx hK hw (a) (by omega) dX1_tryText_42 (fun z42 hz42 => ?_)
            refine ts_bipush hx hb dX1_tryText_43 (by decide) ?_
            refine ts_icmp_eq (tgt := 56) hx hb (by omega) dX1_tryText_45 (by decide) (fun c45 => ?_) (fun c45 => ?_)
            · skip
              exact cut56  (by omega) _ _ hw _ (lv_sub hl [1, 2, 3, 0] rfl)
            · skip
              have hok := ok_no1 (n := T.2.2.1) (tx := T.2.2.2) (a := a) (by omega) (by omega)
              have hO : oT T = (kz, 1, (a : Int), 0, S) := by rw [heq, goT_w (by omega) hok.1, hok.2]
              refine lv_aload_n hx hb dX1_tryText_48 rfl (lv_at hl 1 rfl) ?_
              refine lv_iload_n hx hb dX1_tryText_49 rfl (lv_at hl 2 rfl) ?_
              refine ts_iconst hx hb dX1_tryText_50 ?_
              refine ts_iconst hx hb dX1_tryText_51 ?_
              refine xm_calli (rest := []) cx hK hT hA hw hl (c_X1_keepFault l az 1 0 gc) tg_RX1_180 ⟨rfl, rfl⟩ 3 rfl (by decide +kernel) ⟨Nat.le_of_ble_eq_true rfl, Nat.le_of_ble_eq_true rfl⟩ ⟨Nat.zero_le _, Nat.zero_le _⟩ (Nat.le_of_ble_eq_true rfl) dX1_tryText_52 (rfl) (fun z52 ga52 g52 H locs hq52 hw => ?_)
              exact xm_ret cx hr hlocks hw (TP_f hfc hv hO (by decide) (by rw [← hak.1]; exact hq52)) dX1_tryText_55
  exact cut9 _ (0) (0) (0) (0) (T.1) (g1) (Nat.lt_succ_self _) (by omega) (hv.1) (hr1) (he1) (rfl) ga1 _ _ hw _ (lv_sub hl [2, 1, 0] rfl)
set_option maxHeartbeats 4000000 in
set_option maxRecDepth 100000 in
theorem c_X1_fault (l : Launch) (what : Int) (g : XS) (T : TT) (hf : FX g T) (hv : VT T) (hkb : (-2147483648 ≤ what ∧ what ≤ 2147483647)) : xmMi l yX1_fault (wU yX1_fault cX1_fault 2 (some .int)) ({ frames := 6, cells := 0, slots := 0, locals := 183 } : Room) [.int (iN what)] g (fun z g1 => z = faultR T what ∧ FX g1 T) := by
  refine xmMi_of (by decide) (Nat.le_of_ble_eq_true rfl) ?_
  intro p e s m args below meth c D ci tb ad ga A ls cx hr hlocks hK hA hT hw hl
  have hx := cx.1
  have hb := cx.2.1
  have hl : lv_has ls 2 [(0, .ref (ad 0)), (1, .int (iN what))] := hl
  refine lv_iload_n hx hb dX1_fault_0 rfl (lv_at hl 1 rfl) ?_
  refine ts_if_lt (tgt := 9) hx hb (by omega) dX1_fault_1 (by decide) (fun c1 => ?_) (fun c1 => ?_)
  · skip
    have hR : faultR T what = -1000001 := by
      unfold faultR
      rw [if_pos (by omega)]
    refine ts_ldc (z := -1000001) hx hb cx.2.2.2.1 cx.2.2.2.2 tk_RX1_55 dX1_fault_9 ?_
    exact xm_ret cx hr hlocks hw (⟨hR.symm, hf⟩) dX1_fault_11
  · skip
    refine lv_iload_n hx hb dX1_fault_4 rfl (lv_at hl 1 rfl) ?_
    refine ts_iconst hx hb dX1_fault_5 ?_
    refine ts_icmp_le (tgt := 12) hx hb (by omega) dX1_fault_6 (by decide) (fun c6 => ?_) (fun c6 => ?_)
    · skip
      refine lv_aload_n hx hb dX1_fault_12 rfl (lv_at hl 0 rfl) ?_
      refine xm_calli (rest := []) cx hK hT hA hw hl (c_X1_tryText l g T hf hv) tg_RX1_157 ⟨rfl, rfl⟩ 0 rfl (by decide +kernel) ⟨Nat.le_of_ble_eq_true rfl, Nat.le_of_ble_eq_true rfl⟩ ⟨Nat.zero_le _, Nat.zero_le _⟩ (Nat.le_of_ble_eq_true rfl) dX1_fault_13 (rfl) (fun z13 ga13 g13 H locs hq13 hw => ?_)
      have hbz : -1 ≤ z13 ∧ z13 ≤ 60 := by rcases hq13.2 with q | q <;> omega
      refine ts_iconst hx hb dX1_fault_16 ?_
      refine ts_icmp_eq (tgt := 23) hx hb (by omega) dX1_fault_17 (by decide) (fun c17 => ?_) (fun c17 => ?_)
      · skip
        have hF : (oT T).2.1 ≠ 0 ∧ z13 = -1 ∧ g13 6 4 6 = (oT T).2.2.1 ∧ g13 6 4 7 = (oT T).2.1 ∧ g13 6 4 8 = (oT T).2.2.2.1 := by
          rcases hq13.2 with q | q
          · omega
          · exact q
        refine lv_iload_n hx hb dX1_fault_23 rfl (lv_at hl 1 rfl) ?_
        refine ts_if_ne (tgt := 32) hx hb (by omega) dX1_fault_24 (by decide) (fun c24 => ?_) (fun c24 => ?_)
        · skip
          refine lv_iload_n hx hb dX1_fault_32 rfl (lv_at hl 1 rfl) ?_
          refine ts_iconst hx hb dX1_fault_33 ?_
          refine ts_icmp_ne (tgt := 44) hx hb (by omega) dX1_fault_34 (by decide) (fun c34 => ?_) (fun c34 => ?_)
          · skip
            refine lv_aload_n hx hb dX1_fault_44 rfl (lv_at hl 0 rfl) ?_
            refine xp_get8 cx hK hw tl_RX1_166 dX1_fault_45 (fun z45 hz45 => ?_)
            have hR : faultR T what = z45 := by
              unfold faultR
              rw [if_neg (by omega), if_neg hF.1, if_neg (by omega), if_neg (by omega)]
              omega
            exact xm_ret cx hr hlocks hw (⟨hR.symm, hq13.1⟩) dX1_fault_48
          · skip
            refine lv_aload_n hx hb dX1_fault_37 rfl (lv_at hl 0 rfl) ?_
            refine xp_get7 cx hK hw tl_RX1_163 dX1_fault_38 (fun z38 hz38 => ?_)
            have hR : faultR T what = z38 := by
              unfold faultR
              rw [if_neg (by omega), if_neg hF.1, if_neg (by omega), if_pos (by omega)]
              omega
            refine lv_goto (tgt := 48) hx hb dX1_fault_41 (by decide) ?_
            skip
            exact xm_ret cx hr hlocks hw (⟨hR.symm, hq13.1⟩) dX1_fault_48
        · skip
          refine lv_aload_n hx hb dX1_fault_27 rfl (lv_at hl 0 rfl) ?_
          refine xp_get6 cx hK hw tl_RX1_160 dX1_fault_28 (fun z28 hz28 => ?_)
          have hR : faultR T what = z28 := by
            unfold faultR
            rw [if_neg (by omega), if_neg hF.1, if_pos (by omega)]
            omega
          exact xm_ret cx hr hlocks hw (⟨hR.symm, hq13.1⟩) dX1_fault_31
      · skip
        have h0 : (oT T).2.1 = 0 := by rcases hq13.2 with q | q <;> omega
        have hR : faultR T what = -1000004 := by
          unfold faultR
          rw [if_neg (by omega), if_pos h0]
        refine ts_ldc (z := -1000004) hx hb cx.2.2.2.1 cx.2.2.2.2 tk_RX1_75 dX1_fault_20 ?_
        exact xm_ret cx hr hlocks hw (⟨hR.symm, hq13.1⟩) dX1_fault_22
    · skip
      have hR : faultR T what = -1000001 := by
        unfold faultR
        rw [if_pos (by omega)]
      refine ts_ldc (z := -1000001) hx hb cx.2.2.2.1 cx.2.2.2.2 tk_RX1_55 dX1_fault_9 ?_
      exact xm_ret cx hr hlocks hw (⟨hR.symm, hf⟩) dX1_fault_11
set_option maxHeartbeats 4000000 in
set_option maxRecDepth 100000 in
theorem c_X1_perform (l : Launch) (g : XS) (T : TT) (hf : FX g T) (hv : VT T) : xmMi l yX1_perform (wU yX1_perform cX1_perform 2 (some .int)) ({ frames := 6, cells := 0, slots := 0, locals := 183 } : Room) [] g (fun z g1 => z = (perfO T).1 ∧ FX g1 (stepT T (perfO T))) := by
  refine xmMi_of (by decide) (Nat.le_of_ble_eq_true rfl) ?_
  intro p e s m args below meth c D ci tb ad ga A ls cx hr hlocks hK hA hT hw hl
  have hx := cx.1
  have hb := cx.2.1
  have hl : lv_has ls 2 [(0, .ref (ad 0))] := hl
  refine lv_aload_n hx hb dX1_perform_0 rfl (lv_at hl 0 rfl) ?_
  refine xm_calli (rest := []) cx hK hT hA hw hl (c_X1_tryText l g T hf hv) tg_RX1_157 ⟨rfl, rfl⟩ 0 rfl (by decide +kernel) ⟨Nat.le_of_ble_eq_true rfl, Nat.le_of_ble_eq_true rfl⟩ ⟨Nat.zero_le _, Nat.zero_le _⟩ (Nat.le_of_ble_eq_true rfl) dX1_perform_1 (rfl) (fun z1 ga1 g1 H locs hq1 hw => ?_)
  have hbz : -1 ≤ z1 ∧ z1 ≤ 60 := by rcases hq1.2 with q | q <;> omega
  refine lv_istore_n (lv' := [(1, .int (iN z1)), (0, .ref (ad 0))]) hx hb dX1_perform_4 rfl hl (by decide) rfl (fun ls hl => ?_)
  refine lv_iload_n hx hb dX1_perform_5 rfl (lv_at hl 0 rfl) ?_
  refine ts_iconst hx hb dX1_perform_6 ?_
  refine ts_icmp_ne (tgt := 13) hx hb (by omega) dX1_perform_7 (by decide) (fun c7 => ?_) (fun c7 => ?_)
  · skip
    have hG : (oT T).2.1 = 0 ∧ z1 = (oT T).1 ∧ (0 ≤ z1 ∧ z1 ≤ 60) ∧ RX (g1 1) (oT T).2.2.2.2 := by
      rcases hq1.2 with q | q
      · exact q
      · omega
    have hR : perfO T = ((oT T).1, (oT T).2.2.2.2) := by
      unfold perfO
      rw [if_neg (fun w => w hG.1)]
    refine lv_aload_n hx hb dX1_perform_13 rfl (lv_at hl 1 rfl) ?_
    refine lv_iload_n hx hb dX1_perform_14 rfl (lv_at hl 0 rfl) ?_
    refine xm_calli (rest := []) cx hK hT hA hw hl (c_X1_settle l z1 g1 (FX_3 hq1.1 hv) (by omega)) tg_RX1_39 ⟨rfl, rfl⟩ 1 rfl (by decide +kernel) ⟨Nat.le_of_ble_eq_true rfl, Nat.le_of_ble_eq_true rfl⟩ ⟨Nat.zero_le _, Nat.zero_le _⟩ (Nat.le_of_ble_eq_true rfl) dX1_perform_15 (rfl) (fun z15 ga15 g15 H locs hq15 hw => ?_)
    exact xm_ret cx hr hlocks hw (by rw [hR]; exact ⟨by rw [hq15.1, hG.2.1], FX_SP hq1.1 hv.2.1 hG.2.2.2 hG.2.1 hq15.2⟩) dX1_perform_18
  · skip
    have hF : (oT T).2.1 ≠ 0 := by rcases hq1.2 with q | q <;> omega
    have hR : perfO T = (-1000002, T.1) := by
      unfold perfO
      rw [if_pos hF]
    refine ts_ldc (z := -1000002) hx hb cx.2.2.2.1 cx.2.2.2.2 tk_RX1_60 dX1_perform_10 ?_
    exact xm_ret cx hr hlocks hw (by rw [hR]; exact ⟨rfl, FX_er hq1.1 (show (-1000002 : Int) < 0 by decide)⟩) dX1_perform_12
