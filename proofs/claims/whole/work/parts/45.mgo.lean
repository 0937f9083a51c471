theorem numF_b {g : GS} {n : Nat} {tx : Nat → Int} (h : TXM g n tx) (a : Nat) : 0 ≤ numF n tx a ∧ numF n tx a ≤ 99 := by
  have h1 := chF_b h (a + 1)
  have h2 := chF_b h (a + 2)
  rcases dgs_c n tx a with q | q | q
  · obtain ⟨_, q1, q2, _, q3⟩ := q
    omega
  · obtain ⟨_, q1, _, _, q3⟩ := q
    omega
  · have := q.2.2
    omega
theorem goT_w {n : Nat} {tx : Nat → Int} {f a : Nat} {k : Int} {S : StT} (h : ¬ n ≤ a) (hok : okF n tx a = false) : goT n tx (f + 1) a k S = (k, 1, (a : Int), wrA n tx a, S) := by
  show (if n ≤ a then _ else if okF n tx a = true then _ else _) = _
  rw [if_neg h, hok, if_neg (by decide)]
theorem goT_f {n : Nat} {tx : Nat → Int} {f a : Nat} {k : Int} {S : StT} (h : ¬ n ≤ a) (hok : okF n tx a = true) (hO : (doO S (chF n tx a) (numF n tx a)).1 < 0) : goT n tx (f + 1) a k S = (k, 2, (a : Int), (doO S (chF n tx a) (numF n tx a)).1, S) := by
  show (if n ≤ a then _ else if okF n tx a = true then (if (doO S (chF n tx a) (numF n tx a)).1 < 0 then _ else _) else _) = _
  rw [if_neg h, if_pos hok, if_pos hO]
theorem goT_g {n : Nat} {tx : Nat → Int} {f a : Nat} {k : Int} {S : StT} (h : ¬ n ≤ a) (hok : okF n tx a = true) (hO : 0 ≤ (doO S (chF n tx a) (numF n tx a)).1) : goT n tx (f + 1) a k S = goT n tx f (beh n tx a + 1) (k + 1) (doO S (chF n tx a) (numF n tx a)).2 := by
  show (if n ≤ a then _ else if okF n tx a = true then (if (doO S (chF n tx a) (numF n tx a)).1 < 0 then _ else _) else _) = _
  rw [if_neg h, if_pos hok, if_neg (by omega)]
theorem TXM_MO {a b : GS} {n : Nat} {tx : Nat → Int} (h : TXM b n tx) (h1 : MO a b) : TXM a n tx := ⟨by rw [h1.2.2]; exact h.1, h.2.1, fun j hj => by rw [h1.2.1]; exact h.2.2.1 j hj, h.2.2.2⟩
theorem RM_row {a b : GS} {S : StT} (h : RM b S) (e : a 0 = b 0) : RM a S := RM_of h (fun j _ => by rw [e])
def oT (T : TT) : Int × (Int × (Int × (Int × StT))) := goT T.2.2.1 T.2.2.2 61 0 0 T.1
def faultR (T : TT) (what : Int) : Int := if ¬ (0 ≤ what ∧ what ≤ 2) then -1000001 else if (oT T).2.1 = 0 then -1000004 else if what = 0 then (oT T).2.2.1 else if what = 1 then (oT T).2.1 else (oT T).2.2.2.1
def perfO (T : TT) : Int × StT := if (oT T).2.1 ≠ 0 then (-1000002, T.1) else ((oT T).1, (oT T).2.2.2.2)
theorem FM_TXM {g : GS} {T : TT} (hf : FM g T) (hv : VT T) : TXM g T.2.2.1 T.2.2.2 := ⟨hf.2.2.2.1, hv.2.2.2.1, hf.2.2.2.2, hv.2.2.2.2⟩
theorem FM_step2 {g g1 g2 : GS} {T : TT} {O : Int × StT} (hf : FM g T) (h4 : T.2.1.1 ≤ 4) (hk : KN g1 g T.2.1.1) (hO : ¬ O.1 < 0) (hr : RM g2 O.2) (he : GO g2 g1) : FM g2 (stepT T O) := by
  have h1 : FM (fun a j => if a = 0 then g2 0 j else g1 a j) (stepT T O) := FM_step hf h4 hk hO (RM_of hr (fun j _ => rfl)) ⟨rfl, rfl, rfl, rfl⟩
  refine FM_keep h1 ?_ he.2.1 he.2.2.1 ⟨he.2.2.2.1, he.2.2.2.2⟩
  have e : (stepT T O).1 = O.2 := by
    unfold stepT
    rw [if_neg hO]
  rw [e]
  exact hr
set_option maxHeartbeats 4000000 in
set_option maxRecDepth 100000 in
theorem c_X2_go (l : Launch) (g : GS) (S : StT) (n : Nat) (tx : Nat → Int) (hx0 : RM g S) (hv0 : VS S) (ht0 : TXM g n tx) : mmMi l yX2_go (wU yX2_go cX2_go 2 (some .int)) ({ frames := 6, cells := 0, slots := 0, locals := 140 } : Room) [] g (fun z g1 => ((goT n tx 61 0 0 S).2.1 = 0 → z = (goT n tx 61 0 0 S).1) ∧ RM g1 (goT n tx 61 0 0 S).2.2.2.2 ∧ g1 4 11 = (goT n tx 61 0 0 S).2.1 ∧ ((goT n tx 61 0 0 S).2.1 ≠ 0 → g1 4 10 = (goT n tx 61 0 0 S).2.2.1 ∧ g1 4 12 = (goT n tx 61 0 0 S).2.2.2.1) ∧ GO g1 g ∧ (0 ≤ (goT n tx 61 0 0 S).2.1 ∧ (goT n tx 61 0 0 S).2.1 ≤ 2)) := by
  refine mmMi_of (by decide) (Nat.le_of_ble_eq_true rfl) ?_
  intro p e s m args below meth c D cI tb ad A ls cx hr hlocks hK hA hw hl
  have hx := cx.1
  have hb := cx.2.1
  have hl : lv_has ls 2 [(0, .ref (ad 0))] := hl
  have hn60 := ht0.2.1
  obtain ⟨R, hRR⟩ : ∃ R, R = goT n tx 61 0 0 S := ⟨_, rfl⟩
  refine ts_iconst hx hb dX2_go_0 ?_
  refine lv_istore_n (lv' := [(1, .int (iN 0)), (0, .ref (ad 0))]) hx hb dX2_go_1 rfl hl (by decide) rfl (fun ls hl => ?_)
  refine lv_aload_n hx hb dX2_go_2 rfl (lv_at hl 1 rfl) ?_
  refine ts_iconst hx hb dX2_go_3 ?_
  refine mm_put6 cx hK hw tl_RX2_167 dX2_go_4 (fun g4 H locs hg4 hw => ?_)
  refine lv_aload_n hx hb dX2_go_7 rfl (lv_at hl 1 rfl) ?_
  refine ts_iconst hx hb dX2_go_8 ?_
  refine mm_put11 cx hK hw tl_RX2_183 dX2_go_9 (fun g9 H locs hg9 hw => ?_)
  have h911 : g9 4 11 = 0 := by rw [hg9, u2_4, if_pos rfl]
  have h96 : g9 4 6 = ((0 : Nat) : Int) := by rw [hg9, u2_4, if_neg (by decide), hg4, u2_4, if_pos rfl]; rfl
  have hr9 : RM g9 S := RM_row hx0 (by rw [hg9, u2_row _ (by decide), hg4, u2_row _ (by decide)])
  have hGO9 : GO g9 g := by
    rw [hg9, hg4]
    exact GO_tr (GO_set _ _ _ (by decide)) (GO_set _ _ _ (by decide))
  have cut12 : ∀ (fu : Nat) (many : Int) (ga : GS) (ap : Nat) (Si : StT) (f : Nat) (mm : Nat) (hmu : mm < fu) (hGO : GO ga g) (hAB : (ga 4 11 = 0 ∧ ga 4 6 = (ap : Int) ∧ ap ≤ n ∧ R = goT n tx f ap many Si ∧ RM ga Si ∧ VS Si ∧ n ≤ ap + f ∧ mm = n - ap + 1) ∨ ((ga 4 11 = 1 ∨ ga 4 11 = 2) ∧ R.2.1 = ga 4 11 ∧ RM ga R.2.2.2.2 ∧ R.2.2.1 = ga 4 10 ∧ R.2.2.2.1 = ga 4 12 ∧ (0 ≤ ga 4 6 ∧ ga 4 6 ≤ 200) ∧ mm = 0)) (H : Heap) (locs : List Loc) (hw : mmB D A s cI ad ga H locs) (ls : Array Slot) (hl : lv_has ls 2 [(0, .ref (ad 0)), (1, .int (iN many))]), W p l e ({ frames := 6, cells := 0, slots := 0, locals := 140 } : Room) s m args below meth c H locs 0 0 (mmQi D cI ad A below args s (fun z g1 => ((goT n tx 61 0 0 S).2.1 = 0 → z = (goT n tx 61 0 0 S).1) ∧ RM g1 (goT n tx 61 0 0 S).2.2.2.2 ∧ g1 4 11 = (goT n tx 61 0 0 S).2.1 ∧ ((goT n tx 61 0 0 S).2.1 ≠ 0 → g1 4 10 = (goT n tx 61 0 0 S).2.2.1 ∧ g1 4 12 = (goT n tx 61 0 0 S).2.2.2.1) ∧ GO g1 g ∧ (0 ≤ (goT n tx 61 0 0 S).2.1 ∧ (goT n tx 61 0 0 S).2.1 ≤ 2))) (F0 m 12 ls []) := by
    intro fu
    induction fu with
    | zero => intro many ga ap Si f mm hmu; exact absurd hmu (Nat.not_lt_zero _)
    | succ fu ih12 =>
      intro many ga ap Si f mm hmu hGO hAB H locs hw ls hl
      
      refine lv_aload_n hx hb dX2_go_12 rfl (lv_at hl 0 rfl) ?_
      have h6b : 0 ≤ ga 4 6 ∧ ga 4 6 ≤ 200 := by
        rcases hAB with w | w
        · have w1 := w.2.1
          have w2 := w.2.2.1
          omega
        · exact w.2.2.2.2.2.1
      have h11b : ga 4 11 = 0 ∨ ga 4 11 = 1 ∨ ga 4 11 = 2 := by
        rcases hAB with w | w
        · exact Or.inl w.1
        · exact Or.inr w.1
      have h5 : ga 4 5 = (n : Int) := hGO.2.2.2.2.trans ht0.1
      refine mm_get6 cx hK hw tl_RX2_167 dX2_go_13 (fun z13 hz13 => ?_)
      refine lv_aload_n hx hb dX2_go_16 rfl (lv_at hl 0 rfl) ?_
      refine mm_get5 cx hK hw tl_RX2_163 dX2_go_17 (fun z17 hz17 => ?_)
      refine ts_icmp_ge (tgt := 102) hx hb (by omega) dX2_go_20 (by decide) (fun c20 => ?_) (fun c20 => ?_)
      · skip
        refine lv_iload_n hx hb dX2_go_102 rfl (lv_at hl 1 rfl) ?_
        have hfin : (R.2.1 = 0 → many = R.1) ∧ RM ga R.2.2.2.2 ∧ ga 4 11 = R.2.1 ∧ (R.2.1 ≠ 0 → ga 4 10 = R.2.2.1 ∧ ga 4 12 = R.2.2.2.1) ∧ GO ga g ∧ (0 ≤ R.2.1 ∧ R.2.1 ≤ 2) := by
          rcases hAB with w | w
          · have hRe := w.2.2.2.1
            have w1 := w.2.1
            have w0 := w.1
            rw [goT_end n tx f ap many Si (by omega)] at hRe
            have e1 : R.2.1 = 0 := by rw [hRe]
            have e2 : R.1 = many := by rw [hRe]
            have e3 : R.2.2.2.2 = Si := by rw [hRe]
            refine ⟨fun _ => e2.symm, by rw [e3]; exact w.2.2.2.2.1, by omega, fun q => absurd e1 q, hGO, by omega⟩
          · obtain ⟨w1, w2, w3, w4, w5, w6, w7⟩ := w
            refine ⟨fun q => by omega, w3, w2.symm, fun _ => ⟨w4.symm, w5.symm⟩, hGO, by omega⟩
        exact mm_ret cx hr hlocks hw (by rw [← hRR]; exact hfin) dX2_go_103
      · skip
        refine lv_aload_n hx hb dX2_go_23 rfl (lv_at hl 0 rfl) ?_
        refine mm_get11 cx hK hw tl_RX2_183 dX2_go_24 (fun z24 hz24 => ?_)
        refine ts_if_ne (tgt := 102) hx hb (by omega) dX2_go_27 (by decide) (fun c27 => ?_) (fun c27 => ?_)
        · skip
          refine lv_iload_n hx hb dX2_go_102 rfl (lv_at hl 1 rfl) ?_
          have hfin : (R.2.1 = 0 → many = R.1) ∧ RM ga R.2.2.2.2 ∧ ga 4 11 = R.2.1 ∧ (R.2.1 ≠ 0 → ga 4 10 = R.2.2.1 ∧ ga 4 12 = R.2.2.2.1) ∧ GO ga g ∧ (0 ≤ R.2.1 ∧ R.2.1 ≤ 2) := by
            rcases hAB with w | w
            · have hRe := w.2.2.2.1
              have w1 := w.2.1
              have w0 := w.1
              rw [goT_end n tx f ap many Si (by omega)] at hRe
              have e1 : R.2.1 = 0 := by rw [hRe]
              have e2 : R.1 = many := by rw [hRe]
              have e3 : R.2.2.2.2 = Si := by rw [hRe]
              refine ⟨fun _ => e2.symm, by rw [e3]; exact w.2.2.2.2.1, by omega, fun q => absurd e1 q, hGO, by omega⟩
            · obtain ⟨w1, w2, w3, w4, w5, w6, w7⟩ := w
              refine ⟨fun q => by omega, w3, w2.symm, fun _ => ⟨w4.symm, w5.symm⟩, hGO, by omega⟩
          exact mm_ret cx hr hlocks hw (by rw [← hRR]; exact hfin) dX2_go_103
        · skip
          obtain ⟨ha11, ha6, han, hRi, hri, hvs, hnf, hmm⟩ : ga 4 11 = 0 ∧ ga 4 6 = (ap : Int) ∧ ap ≤ n ∧ R = goT n tx f ap many Si ∧ RM ga Si ∧ VS Si ∧ n ≤ ap + f ∧ mm = n - ap + 1 := by
            rcases hAB with w | w
            · exact w
            · exfalso
              have := w.1
              omega
          obtain ⟨f1, hf1⟩ : ∃ f1 : Nat, f = f1 + 1 := ⟨f - 1, by omega⟩
          clear hAB
          refine lv_aload_n hx hb dX2_go_30 rfl (lv_at hl 0 rfl) ?_
          refine lv_aload_n hx hb dX2_go_31 rfl (lv_at hl 0 rfl) ?_
          refine mm_get6 cx hK hw tl_RX2_167 dX2_go_32 (fun z32 hz32 => ?_)
          refine mm_put10 cx hK hw tl_RX2_186 dX2_go_35 (fun g35 H locs hg35 hw => ?_)
          have hGO35 : GO g35 ga := by
            rw [hg35]
            exact GO_set _ _ _ (by decide)
          have h356 : g35 4 6 = (ap : Int) := by rw [hg35, u2_4, if_neg (by decide)]; exact ha6
          have h3510 : g35 4 10 = z32 := by rw [hg35, u2_4, if_pos rfl]
          refine lv_aload_n hx hb dX2_go_38 rfl (lv_at hl 0 rfl) ?_
          refine mm_callv (rest := []) cx hK hA hw hl (c_X2_read l g35 n tx ap (TXM_GO ht0 (GO_tr hGO35 hGO)) ⟨h356, by omega⟩) tg_RX2_189 ⟨rfl, rfl⟩ 0 rfl (by decide +kernel) ⟨Nat.le_of_ble_eq_true rfl, Nat.le_of_ble_eq_true rfl⟩ ⟨Nat.zero_le _, Nat.zero_le _⟩ (Nat.le_of_ble_eq_true rfl) dX2_go_39 (rfl) (fun g39 H locs hq39 hw => ?_)
          have h3910 := hq39.1.2.2.2.2 10 (by decide) (by decide) (by decide) (by decide)
          have hrs : RM g39 Si := RM_row hri (hq39.1.1.trans (by rw [hg35, u2_row _ (by decide)]))
          refine lv_aload_n hx hb dX2_go_42 rfl (lv_at hl 0 rfl) ?_
          refine lv_aload_n hx hb dX2_go_43 rfl (lv_at hl 0 rfl) ?_
          refine mm_get7 cx hK hw tl_RX2_170 dX2_go_44 (fun z44 hz44 => ?_)
          refine ts_if_eq (tgt := 62) hx hb (by omega) dX2_go_47 (by decide) (fun c47 => ?_) (fun c47 => ?_)
          · skip
            obtain ⟨hok, h7, h6, h9⟩ : okF n tx ap = true ∧ g39 4 7 = 0 ∧ g39 4 6 = (beh n tx ap : Int) + 1 ∧ g39 4 9 = numF n tx ap := by
              rcases hq39.2.2 with w | w
              · exact w
              · exfalso
                have := w.2.1
                omega
            have hnb := numF_b ht0 ap
            have hcb := chF_b ht0 ap
            refine lv_aload_n hx hb dX2_go_62 rfl (lv_at hl 0 rfl) ?_
            refine mm_calli (rest := [.ref (ad 0)]) cx hK hA hw hl (c_X2_does l g39 Si hrs hvs (chF n tx ap) (numF n tx ap) hq39.2.1 ⟨h9, by omega, by omega⟩ hcb) tg_RX2_192 ⟨rfl, rfl⟩ 0 rfl (by decide +kernel) ⟨Nat.le_of_ble_eq_true rfl, Nat.le_of_ble_eq_true rfl⟩ ⟨Nat.zero_le _, Nat.zero_le _⟩ (Nat.le_of_ble_eq_true rfl) dX2_go_63 (rfl) (fun z63 g63 H locs hq63 hw => ?_)
            have hdl := (VS_do hvs (chF n tx ap) (numF n tx ap)).2
            have hz63 : -1000002 ≤ z63 ∧ z63 ≤ 0 := by
              rcases hq63.1 with w | w <;> omega
            refine mm_put12 cx hK hw tl_RX2_195 dX2_go_66 (fun g66 H locs hg66 hw => ?_)
            have h667 : g66 4 7 = g39 4 7 := by rw [hg66, u2_4, if_neg (by decide)]; exact congrFun hq63.2.2.2.2.2 7
            have h6612 : g66 4 12 = z63 := by rw [hg66, u2_4, if_pos rfl]
            refine lv_aload_n hx hb dX2_go_69 rfl (lv_at hl 0 rfl) ?_
            refine lv_aload_n hx hb dX2_go_70 rfl (lv_at hl 0 rfl) ?_
            refine mm_get7 cx hK hw tl_RX2_170 dX2_go_71 (fun z71 hz71 => ?_)
            rw [h667] at hz71
            refine ts_if_eq (tgt := 81) hx hb (by omega) dX2_go_74 (by decide) (fun c74 => ?_) (fun c74 => ?_)
            · skip
              refine lv_aload_n hx hb dX2_go_81 rfl (lv_at hl 0 rfl) ?_
              refine mm_get12 cx hK hw tl_RX2_195 dX2_go_82 (fun z82 hz82 => ?_)
              rw [h6612] at hz82
              refine ts_if_ge (tgt := 92) hx hb (by omega) dX2_go_85 (by decide) (fun c85 => ?_) (fun c85 => ?_)
              · skip
                
                refine ts_iconst hx hb dX2_go_92 ?_
                refine mm_put11 cx hK hw tl_RX2_183 dX2_go_93 (fun g93 H locs hg93 hw => ?_)
                obtain ⟨z96, hz96⟩ : ∃ z : Int, z = many + 1 := ⟨_, rfl⟩
                refine lv_iinc (v := iN z96) (lv' := [(1, .int (iN z96)), (0, .ref (ad 0))]) hx hb dX2_go_96 hl (k := 1) rfl (by rw [hz96]; exact iN_add _ _) (by decide) rfl (fun ls hl => ?_)
                have h12 : g93 4 12 = g66 4 12 := by rw [hg93, u2_4, if_neg (by decide)]
                have h10 : g93 4 10 = g39 4 10 := by rw [hg93, u2_4, if_neg (by decide), hg66, u2_4, if_neg (by decide), congrFun hq63.2.2.2.2.2]
                have h106 : g93 4 6 = g39 4 6 := by rw [hg93, u2_4, if_neg (by decide), hg66, u2_4, if_neg (by decide), congrFun hq63.2.2.2.2.2]
                have h100 : g93 0 = g63 0 := by rw [hg93, u2_row _ (by decide), hg66, u2_row _ (by decide)]
                have hGOn : GO g93 g := by
                  rw [hg93, hg66]
                  exact GO_tr (GO_set _ _ _ (by decide)) (GO_tr (GO_set _ _ _ (by decide)) (GO_tr (GO_ME hq63.2.2) (GO_tr (GO_RG hq39.1) (GO_tr hGO35 hGO))))
                have h11 : g93 4 11 = 0 := by rw [hg93, u2_4, if_pos rfl]
                have hdf : z63 = 0 ∧ 0 ≤ (doO Si (chF n tx ap) (numF n tx ap)).1 := by
                  rcases hq63.1 with w | w
                  · exfalso; omega
                  · exact w
                have hbn := okF_n hok
                have hba : ap ≤ beh n tx ap := by unfold beh; omega
                obtain ⟨apn, hapn⟩ : ∃ x : Nat, x = beh n tx ap + 1 := ⟨_, rfl⟩
                obtain ⟨Sn, hSn⟩ : ∃ x : StT, x = (doO Si (chF n tx ap) (numF n tx ap)).2 := ⟨_, rfl⟩
                obtain ⟨fnn, hfnn⟩ : ∃ x : Nat, x = f1 := ⟨_, rfl⟩
                obtain ⟨mmn, hmmn⟩ : ∃ x : Nat, x = n - apn + 1 := ⟨_, rfl⟩
                have hRw := hRi
                rw [hf1, goT_g (by omega) hok hdf.2, ← hapn, ← hSn, ← hfnn, ← hz96] at hRw
                have hrm : RM g93 Sn := by
                  rw [hSn]
                  exact RM_row hq63.2.1 h100
                have hvn : VS Sn := by
                  rw [hSn]
                  exact (VS_do hvs _ _).1
                have hABn : (g93 4 11 = 0 ∧ g93 4 6 = (apn : Int) ∧ apn ≤ n ∧ R = goT n tx fnn apn z96 Sn ∧ RM g93 Sn ∧ VS Sn ∧ n ≤ apn + fnn ∧ mmn = n - apn + 1) ∨ ((g93 4 11 = 1 ∨ g93 4 11 = 2) ∧ R.2.1 = g93 4 11 ∧ RM g93 R.2.2.2.2 ∧ R.2.2.1 = g93 4 10 ∧ R.2.2.2.1 = g93 4 12 ∧ (0 ≤ g93 4 6 ∧ g93 4 6 ≤ 200) ∧ mmn = 0) := Or.inl ⟨h11, by omega, by omega, hRw, hrm, hvn, by omega, hmmn⟩
                refine lv_goto (tgt := 12) hx hb dX2_go_99 (by decide) ?_
                exact ih12 (z96) (g93) (apn) (Sn) (fnn) (mmn) (by omega) (hGOn) (hABn) _ _ hw _ (lv_sub hl [1, 0] rfl)
              · skip
                
                refine ts_iconst hx hb dX2_go_88 ?_
                refine lv_goto (tgt := 93) hx hb dX2_go_89 (by decide) ?_
                refine mm_put11 cx hK hw tl_RX2_183 dX2_go_93 (fun g93 H locs hg93 hw => ?_)
                obtain ⟨z96, hz96⟩ : ∃ z : Int, z = many + 1 := ⟨_, rfl⟩
                refine lv_iinc (v := iN z96) (lv' := [(1, .int (iN z96)), (0, .ref (ad 0))]) hx hb dX2_go_96 hl (k := 1) rfl (by rw [hz96]; exact iN_add _ _) (by decide) rfl (fun ls hl => ?_)
                have h12 : g93 4 12 = g66 4 12 := by rw [hg93, u2_4, if_neg (by decide)]
                have h10 : g93 4 10 = g39 4 10 := by rw [hg93, u2_4, if_neg (by decide), hg66, u2_4, if_neg (by decide), congrFun hq63.2.2.2.2.2]
                have h106 : g93 4 6 = g39 4 6 := by rw [hg93, u2_4, if_neg (by decide), hg66, u2_4, if_neg (by decide), congrFun hq63.2.2.2.2.2]
                have h100 : g93 0 = g63 0 := by rw [hg93, u2_row _ (by decide), hg66, u2_row _ (by decide)]
                have hGOn : GO g93 g := by
                  rw [hg93, hg66]
                  exact GO_tr (GO_set _ _ _ (by decide)) (GO_tr (GO_set _ _ _ (by decide)) (GO_tr (GO_ME hq63.2.2) (GO_tr (GO_RG hq39.1) (GO_tr hGO35 hGO))))
                have h11 : g93 4 11 = 2 := by rw [hg93, u2_4, if_pos rfl]
                obtain ⟨apn, hapn⟩ : ∃ x : Nat, x = 0 := ⟨_, rfl⟩
                obtain ⟨Sn, hSn⟩ : ∃ x : StT, x = S := ⟨_, rfl⟩
                obtain ⟨fnn, hfnn⟩ : ∃ x : Nat, x = 0 := ⟨_, rfl⟩
                obtain ⟨mmn, hmmn⟩ : ∃ x : Nat, x = 0 := ⟨_, rfl⟩
                have hdf : z63 < 0 ∧ (doO Si (chF n tx ap) (numF n tx ap)).1 = z63 ∧ (doO Si (chF n tx ap) (numF n tx ap)).2 = Si ∧ g63 = g39 := by
                  rcases hq63.1 with w | w
                  · exact w
                  · exfalso; omega
                have hRw := hRi
                rw [hf1, goT_f (by omega) hok (by omega)] at hRw
                have hR2 : R.2.1 = 2 := by rw [hRw]
                have hR3 : R.2.2.1 = (ap : Int) := by rw [hRw]
                have hR4 : R.2.2.2.1 = (doO Si (chF n tx ap) (numF n tx ap)).1 := by rw [hRw]
                have hR5 : R.2.2.2.2 = Si := by rw [hRw]
                have h125 : g66 4 12 = z63 := by rw [hg66, u2_4, if_pos rfl]
                have hrm : RM g93 R.2.2.2.2 := by
                  rw [hR5]
                  exact RM_row hrs (h100.trans (by rw [hdf.2.2.2]))
                have hbb : (beh n tx ap : Int) + 1 ≤ 200 := by
                  have := okF_n hok
                  omega
                have hABn : (g93 4 11 = 0 ∧ g93 4 6 = (apn : Int) ∧ apn ≤ n ∧ R = goT n tx fnn apn z96 Sn ∧ RM g93 Sn ∧ VS Sn ∧ n ≤ apn + fnn ∧ mmn = n - apn + 1) ∨ ((g93 4 11 = 1 ∨ g93 4 11 = 2) ∧ R.2.1 = g93 4 11 ∧ RM g93 R.2.2.2.2 ∧ R.2.2.1 = g93 4 10 ∧ R.2.2.2.1 = g93 4 12 ∧ (0 ≤ g93 4 6 ∧ g93 4 6 ≤ 200) ∧ mmn = 0) := Or.inr ⟨by omega, by omega, hrm, by omega, by omega, by omega, hmmn⟩
                refine lv_goto (tgt := 12) hx hb dX2_go_99 (by decide) ?_
                exact ih12 (z96) (g93) (apn) (Sn) (fnn) (mmn) (by omega) (hGOn) (hABn) _ _ hw _ (lv_sub hl [1, 0] rfl)
            · exfalso
              omega
          · skip
            obtain ⟨hok, h7, h6⟩ : okF n tx ap = false ∧ g39 4 7 = 1 ∧ g39 4 6 = (ap : Int) + wrA n tx ap := by
              rcases hq39.2.2 with w | w
              · exfalso
                have := w.2.1
                omega
              · exact w
            have hwb : 0 ≤ wrA n tx ap ∧ wrA n tx ap ≤ 3 := by
              have w1 := wrA_z n tx ap
              have w2 := dgs_z n tx ap
              rcases w2 with w2 | w2 | w2 <;> rcases w1 with w1 | w1 <;> omega
            refine lv_aload_n hx hb dX2_go_50 rfl (lv_at hl 0 rfl) ?_
            refine mm_get6 cx hK hw tl_RX2_167 dX2_go_51 (fun z51 hz51 => ?_)
            refine lv_aload_n hx hb dX2_go_54 rfl (lv_at hl 0 rfl) ?_
            refine mm_get10 cx hK hw tl_RX2_186 dX2_go_55 (fun z55 hz55 => ?_)
            refine ts_isub hx hb dX2_go_58 (fun z58 hz58 => ?_)
            refine lv_goto (tgt := 66) hx hb dX2_go_59 (by decide) ?_
            refine mm_put12 cx hK hw tl_RX2_195 dX2_go_66 (fun g66 H locs hg66 hw => ?_)
            have h667 : g66 4 7 = g39 4 7 := by rw [hg66, u2_4, if_neg (by decide)]
            refine lv_aload_n hx hb dX2_go_69 rfl (lv_at hl 0 rfl) ?_
            refine lv_aload_n hx hb dX2_go_70 rfl (lv_at hl 0 rfl) ?_
            refine mm_get7 cx hK hw tl_RX2_170 dX2_go_71 (fun z71 hz71 => ?_)
            rw [h667] at hz71
            refine ts_if_eq (tgt := 81) hx hb (by omega) dX2_go_74 (by decide) (fun c74 => ?_) (fun c74 => ?_)
            · exfalso
              omega
            · skip
              refine ts_iconst hx hb dX2_go_77 ?_
              refine lv_goto (tgt := 93) hx hb dX2_go_78 (by decide) ?_
              refine mm_put11 cx hK hw tl_RX2_183 dX2_go_93 (fun g93 H locs hg93 hw => ?_)
              obtain ⟨z96, hz96⟩ : ∃ z : Int, z = many + 1 := ⟨_, rfl⟩
              refine lv_iinc (v := iN z96) (lv' := [(1, .int (iN z96)), (0, .ref (ad 0))]) hx hb dX2_go_96 hl (k := 1) rfl (by rw [hz96]; exact iN_add _ _) (by decide) rfl (fun ls hl => ?_)
              have h12 : g93 4 12 = g66 4 12 := by rw [hg93, u2_4, if_neg (by decide)]
              have h10 : g93 4 10 = g39 4 10 := by rw [hg93, u2_4, if_neg (by decide), hg66, u2_4, if_neg (by decide)]
              have h106 : g93 4 6 = g39 4 6 := by rw [hg93, u2_4, if_neg (by decide), hg66, u2_4, if_neg (by decide)]
              have h100 : g93 0 = g39 0 := by rw [hg93, u2_row _ (by decide), hg66, u2_row _ (by decide)]
              have hGOn : GO g93 g := by
                rw [hg93, hg66]
                exact GO_tr (GO_set _ _ _ (by decide)) (GO_tr (GO_set _ _ _ (by decide)) (GO_tr (GO_RG hq39.1) (GO_tr hGO35 hGO)))
              have h11 : g93 4 11 = 1 := by rw [hg93, u2_4, if_pos rfl]
              obtain ⟨apn, hapn⟩ : ∃ x : Nat, x = 0 := ⟨_, rfl⟩
              obtain ⟨Sn, hSn⟩ : ∃ x : StT, x = S := ⟨_, rfl⟩
              obtain ⟨fnn, hfnn⟩ : ∃ x : Nat, x = 0 := ⟨_, rfl⟩
              obtain ⟨mmn, hmmn⟩ : ∃ x : Nat, x = 0 := ⟨_, rfl⟩
              have hRw := hRi
              rw [hf1, goT_w (by omega) hok] at hRw
              have hR2 : R.2.1 = 1 := by rw [hRw]
              have hR3 : R.2.2.1 = (ap : Int) := by rw [hRw]
              have hR4 : R.2.2.2.1 = wrA n tx ap := by rw [hRw]
              have hR5 : R.2.2.2.2 = Si := by rw [hRw]
              have h125 : g66 4 12 = z58 := by rw [hg66, u2_4, if_pos rfl]
              have hrm : RM g93 R.2.2.2.2 := by
                rw [hR5]
                exact RM_row hrs h100
              have hABn : (g93 4 11 = 0 ∧ g93 4 6 = (apn : Int) ∧ apn ≤ n ∧ R = goT n tx fnn apn z96 Sn ∧ RM g93 Sn ∧ VS Sn ∧ n ≤ apn + fnn ∧ mmn = n - apn + 1) ∨ ((g93 4 11 = 1 ∨ g93 4 11 = 2) ∧ R.2.1 = g93 4 11 ∧ RM g93 R.2.2.2.2 ∧ R.2.2.1 = g93 4 10 ∧ R.2.2.2.1 = g93 4 12 ∧ (0 ≤ g93 4 6 ∧ g93 4 6 ≤ 200) ∧ mmn = 0) := Or.inr ⟨by omega, by omega, hrm, by omega, by omega, by omega, hmmn⟩
              refine lv_goto (tgt := 12) hx hb dX2_go_99 (by decide) ?_
              exact ih12 (z96) (g93) (apn) (Sn) (fnn) (mmn) (by omega) (hGOn) (hABn) _ _ hw _ (lv_sub hl [1, 0] rfl)
  exact cut12 _ (0) (g9) (0) (S) (61) (n - 0 + 1) (Nat.lt_succ_self _) (hGO9) (Or.inl ⟨h911, h96, by omega, hRR, hr9, hv0, by omega, rfl⟩) _ _ hw _ (lv_sub hl [1, 0] rfl)
set_option maxHeartbeats 4000000 in
set_option maxRecDepth 100000 in
theorem c_X2_look (l : Launch) (g : GS) (S : StT) (n : Nat) (tx : Nat → Int) (hx0 : RM g S) (hv0 : VS S) (ht0 : TXM g n tx) : mmMv l yX2_look (wU yX2_look cX2_look 2 none) ({ frames := 7, cells := 0, slots := 0, locals := 161 } : Room) [] g (fun g1 => RM g1 S ∧ (g1 2 = g 2 ∧ g1 3 = g 3 ∧ g1 4 3 = g 4 3 ∧ g1 4 5 = g 4 5) ∧ g1 4 11 = (goT n tx 61 0 0 S).2.1 ∧ ((goT n tx 61 0 0 S).2.1 ≠ 0 → g1 4 10 = (goT n tx 61 0 0 S).2.2.1 ∧ g1 4 12 = (goT n tx 61 0 0 S).2.2.2.1) ∧ (0 ≤ (goT n tx 61 0 0 S).2.1 ∧ (goT n tx 61 0 0 S).2.1 ≤ 2)) := by
  refine mmMv_of (by decide) (Nat.le_of_ble_eq_true rfl) ?_
  intro p e s m args below meth c D cI tb ad A ls cx hr hlocks hK hA hw hl
  have hx := cx.1
  have hb := cx.2.1
  have hl : lv_has ls 2 [(0, .ref (ad 0))] := hl
  refine lv_aload_n hx hb dX2_look_0 rfl (lv_at hl 0 rfl) ?_
  refine mm_callv (rest := []) cx hK hA hw hl (c_X2_putAside l g) tg_RX2_141 ⟨rfl, rfl⟩ 0 rfl (by decide +kernel) ⟨Nat.le_of_ble_eq_true rfl, Nat.le_of_ble_eq_true rfl⟩ ⟨Nat.zero_le _, Nat.zero_le _⟩ (Nat.le_of_ble_eq_true rfl) dX2_look_1 (rfl) (fun g1 H locs hq1 hw => ?_)
  have hr1 : RM g1 S := RM_row hx0 hq1.2.1
  refine lv_aload_n hx hb dX2_look_4 rfl (lv_at hl 0 rfl) ?_
  refine mm_calli (rest := []) cx hK hA hw hl (c_X2_go l g1 S n tx hr1 hv0 (TXM_MO ht0 hq1.2.2)) tg_RX2_198 ⟨rfl, rfl⟩ 0 rfl (by decide +kernel) ⟨Nat.le_of_ble_eq_true rfl, Nat.le_of_ble_eq_true rfl⟩ ⟨Nat.zero_le _, Nat.zero_le _⟩ (Nat.le_of_ble_eq_true rfl) dX2_look_5 (rfl) (fun z5 g5 H locs hq5 hw => ?_)
  refine lv_istore_n (lv' := [(1, .int (iN z5)), (0, .ref (ad 0))]) hx hb dX2_look_8 rfl hl (by decide) rfl (fun ls hl => ?_)
  refine lv_aload_n hx hb dX2_look_9 rfl (lv_at hl 1 rfl) ?_
  refine mm_callv (rest := []) cx hK hA hw hl (c_X2_putBack l g5) tg_RX2_147 ⟨rfl, rfl⟩ 0 rfl (by decide +kernel) ⟨Nat.le_of_ble_eq_true rfl, Nat.le_of_ble_eq_true rfl⟩ ⟨Nat.zero_le _, Nat.zero_le _⟩ (Nat.le_of_ble_eq_true rfl) dX2_look_10 (rfl) (fun g10 H locs hq10 hw => ?_)
  obtain ⟨_, _, k1, k2, ⟨m1, m2, m3, m4, m5⟩, k3⟩ := hq5
  obtain ⟨b1, b2, b3, b4, b5⟩ := hq10
  obtain ⟨a1, a2, a3, a4, a5⟩ := hq1
  exact mm_vret cx hr hlocks hw (⟨RM_of hx0 (fun j hj => by rw [b1 j hj, m1, a1 j hj]), ⟨by rw [b3, m2, a3], by rw [b4, m3, a4], by rw [b5, m4, a5], by rw [b5, m5, a5]⟩, by rw [b5]; exact k1, fun q => by rw [b5]; exact k2 q, k3⟩) dX2_look_13
set_option maxHeartbeats 4000000 in
set_option maxRecDepth 100000 in
theorem c_X2_fault (l : Launch) (what : Int) (g : GS) (T : TT) (hf : FM g T) (hv : VT T) (hkb : (-2147483648 ≤ what ∧ what ≤ 2147483647)) : mmMi l yX2_fault (wU yX2_fault cX2_fault 2 (some .int)) ({ frames := 8, cells := 0, slots := 0, locals := 182 } : Room) [.int (iN what)] g (fun z g1 => z = faultR T what ∧ FM g1 T) := by
  refine mmMi_of (by decide) (Nat.le_of_ble_eq_true rfl) ?_
  intro p e s m args below meth c D cI tb ad A ls cx hr hlocks hK hA hw hl
  have hx := cx.1
  have hb := cx.2.1
  have hl : lv_has ls 2 [(0, .ref (ad 0)), (1, .int (iN what))] := hl
  refine lv_iload_n hx hb dX2_fault_0 rfl (lv_at hl 1 rfl) ?_
  refine ts_iconst hx hb dX2_fault_1 ?_
  refine ts_iconst hx hb dX2_fault_2 ?_
  refine ps_call (rest := []) cx hl (c_X2_in l what 0 2 (by omega)) tg_RX2_48 ⟨rfl, rfl⟩ 3 rfl (by decide +kernel) ⟨Nat.le_of_ble_eq_true rfl, Nat.le_of_ble_eq_true rfl⟩ ⟨Nat.zero_le _, Nat.zero_le _⟩ (Nat.le_of_ble_eq_true rfl) dX2_fault_3 (rfl) (fun z3 hz3 => ?_)
  refine ts_if_ne (tgt := 12) hx hb (by omega) dX2_fault_6 (by decide) (fun c6 => ?_) (fun c6 => ?_)
  · skip
    refine lv_aload_n hx hb dX2_fault_12 rfl (lv_at hl 0 rfl) ?_
    refine mm_callv (rest := []) cx hK hA hw hl (c_X2_look l g T.1 T.2.2.1 T.2.2.2 hf.1 hv.1 (FM_TXM hf hv)) tg_RX2_201 ⟨rfl, rfl⟩ 0 rfl (by decide +kernel) ⟨Nat.le_of_ble_eq_true rfl, Nat.le_of_ble_eq_true rfl⟩ ⟨Nat.zero_le _, Nat.zero_le _⟩ (Nat.le_of_ble_eq_true rfl) dX2_fault_13 (rfl) (fun g13 H locs hq13 hw => ?_)
    obtain ⟨k1, ⟨k2, k3, k4, k5⟩, k6, k7, k8⟩ := hq13
    rw [show goT T.2.2.1 T.2.2.2 61 0 0 T.1 = oT T from rfl] at k6 k7 k8
    have hfk : FM g13 T := FM_keep hf k1 k2 k3 ⟨k4, k5⟩
    refine lv_aload_n hx hb dX2_fault_16 rfl (lv_at hl 0 rfl) ?_
    refine mm_get11 cx hK hw tl_RX2_183 dX2_fault_17 (fun z17 hz17 => ?_)
    refine ts_if_ne (tgt := 28) hx hb (by omega) dX2_fault_20 (by decide) (fun c20 => ?_) (fun c20 => ?_)
    · skip
      refine lv_iload_n hx hb dX2_fault_28 rfl (lv_at hl 1 rfl) ?_
      refine ts_if_ne (tgt := 39) hx hb (by omega) dX2_fault_29 (by decide) (fun c29 => ?_) (fun c29 => ?_)
      · skip
        refine lv_iload_n hx hb dX2_fault_39 rfl (lv_at hl 1 rfl) ?_
        refine ts_iconst hx hb dX2_fault_40 ?_
        refine ts_icmp_ne (tgt := 51) hx hb (by omega) dX2_fault_41 (by decide) (fun c41 => ?_) (fun c41 => ?_)
        · skip
          refine lv_aload_n hx hb dX2_fault_51 rfl (lv_at hl 0 rfl) ?_
          refine mm_get12 cx hK hw tl_RX2_195 dX2_fault_52 (fun z52 hz52 => ?_)
          have hR : faultR T what = z52 := by
            unfold faultR
            rw [if_neg (by omega), if_neg (by omega), if_neg (by omega), if_neg (by omega)]
            exact (k7 (by omega)).2.symm.trans hz52.symm
          exact mm_ret cx hr hlocks hw (⟨hR.symm, hfk⟩) dX2_fault_55
        · skip
          refine lv_aload_n hx hb dX2_fault_44 rfl (lv_at hl 0 rfl) ?_
          refine mm_get11 cx hK hw tl_RX2_183 dX2_fault_45 (fun z45 hz45 => ?_)
          have hR : faultR T what = z45 := by
            unfold faultR
            rw [if_neg (by omega), if_neg (by omega), if_neg (by omega), if_pos (by omega)]
            omega
          refine lv_goto (tgt := 55) hx hb dX2_fault_48 (by decide) ?_
          
          exact mm_ret cx hr hlocks hw (⟨hR.symm, hfk⟩) dX2_fault_55
      · skip
        refine lv_aload_n hx hb dX2_fault_32 rfl (lv_at hl 0 rfl) ?_
        refine mm_get10 cx hK hw tl_RX2_186 dX2_fault_33 (fun z33 hz33 => ?_)
        have hR : faultR T what = z33 := by
          unfold faultR
          rw [if_neg (by omega), if_neg (by omega), if_pos (by omega)]
          exact (k7 (by omega)).1.symm.trans hz33.symm
        refine lv_goto (tgt := 55) hx hb dX2_fault_36 (by decide) ?_
        
        exact mm_ret cx hr hlocks hw (⟨hR.symm, hfk⟩) dX2_fault_55
    · skip
      refine ts_ldc (z := -1000004) hx hb cx.2.2.2.1 cx.2.2.2.2 tk_RX2_127 dX2_fault_23 ?_
      have hR : faultR T what = -1000004 := by
        unfold faultR
        rw [if_neg (by omega), if_pos (by omega)]
      refine lv_goto (tgt := 55) hx hb dX2_fault_25 (by decide) ?_
      
      exact mm_ret cx hr hlocks hw (⟨hR.symm, hfk⟩) dX2_fault_55
  · skip
    have hR : faultR T what = -1000001 := by
      unfold faultR
      rw [if_pos (by omega)]
    refine ts_ldc (z := -1000001) hx hb cx.2.2.2.1 cx.2.2.2.2 tk_RX2_63 dX2_fault_9 ?_
    exact mm_ret cx hr hlocks hw (⟨hR.symm, hf⟩) dX2_fault_11
set_option maxHeartbeats 4000000 in
set_option maxRecDepth 100000 in
theorem c_X2_perform (l : Launch) (g : GS) (T : TT) (hf : FM g T) (hv : VT T) : mmMi l yX2_perform (wU yX2_perform cX2_perform 1 (some .int)) ({ frames := 8, cells := 0, slots := 0, locals := 182 } : Room) [] g (fun z g1 => z = (perfO T).1 ∧ FM g1 (stepT T (perfO T))) := by
  refine mmMi_of (by decide) (Nat.le_of_ble_eq_true rfl) ?_
  intro p e s m args below meth c D cI tb ad A ls cx hr hlocks hK hA hw hl
  have hx := cx.1
  have hb := cx.2.1
  have hl : lv_has ls 1 [(0, .ref (ad 0))] := hl
  refine lv_aload_n hx hb dX2_perform_0 rfl (lv_at hl 0 rfl) ?_
  refine mm_callv (rest := []) cx hK hA hw hl (c_X2_look l g T.1 T.2.2.1 T.2.2.2 hf.1 hv.1 (FM_TXM hf hv)) tg_RX2_201 ⟨rfl, rfl⟩ 0 rfl (by decide +kernel) ⟨Nat.le_of_ble_eq_true rfl, Nat.le_of_ble_eq_true rfl⟩ ⟨Nat.zero_le _, Nat.zero_le _⟩ (Nat.le_of_ble_eq_true rfl) dX2_perform_1 (rfl) (fun g1 H locs hq1 hw => ?_)
  obtain ⟨k1, ⟨k2, k3, k4, k5⟩, k6, k7, k8⟩ := hq1
  rw [show goT T.2.2.1 T.2.2.2 61 0 0 T.1 = oT T from rfl] at k6 k7 k8
  have hfk : FM g1 T := FM_keep hf k1 k2 k3 ⟨k4, k5⟩
  refine lv_aload_n hx hb dX2_perform_4 rfl (lv_at hl 0 rfl) ?_
  refine mm_get11 cx hK hw tl_RX2_183 dX2_perform_5 (fun z5 hz5 => ?_)
  refine ts_if_le (tgt := 14) hx hb (by omega) dX2_perform_8 (by decide) (fun c8 => ?_) (fun c8 => ?_)
  · skip
    refine lv_aload_n hx hb dX2_perform_14 rfl (lv_at hl 0 rfl) ?_
    refine mm_callv (rest := []) cx hK hA hw hl (c_X2_know l g1 T.2.1.1 hfk.2.1 hv.2.1) tg_RX2_106 ⟨rfl, rfl⟩ 0 rfl (by decide +kernel) ⟨Nat.le_of_ble_eq_true rfl, Nat.le_of_ble_eq_true rfl⟩ ⟨Nat.zero_le _, Nat.zero_le _⟩ (Nat.le_of_ble_eq_true rfl) dX2_perform_15 (rfl) (fun g15 H locs hq15 hw => ?_)
    have hr15 : RM g15 T.1 := RM_row hfk.1 hq15.1
    have ht15 : TXM g15 T.2.2.1 T.2.2.2 := ⟨by rw [hq15.2.2.2.1, if_neg (by decide)]; exact hfk.2.2.2.1, hv.2.2.2.1, fun j hj => by rw [hq15.2.2.1]; exact hfk.2.2.2.2 j hj, hv.2.2.2.2⟩
    have hO : perfO T = ((oT T).1, (oT T).2.2.2.2) := by
      unfold perfO
      rw [if_neg (by omega)]
    have h0 : 0 ≤ (oT T).1 := (goT_VS T.2.2.1 T.2.2.2 61 0 0 T.1 hv.1 (by omega)).2
    refine lv_aload_n hx hb dX2_perform_18 rfl (lv_at hl 0 rfl) ?_
    refine mm_calli (rest := []) cx hK hA hw hl (c_X2_go l g15 T.1 T.2.2.1 T.2.2.2 hr15 hv.1 ht15) tg_RX2_198 ⟨rfl, rfl⟩ 0 rfl (by decide +kernel) ⟨Nat.le_of_ble_eq_true rfl, Nat.le_of_ble_eq_true rfl⟩ ⟨Nat.zero_le _, Nat.zero_le _⟩ (Nat.le_of_ble_eq_true rfl) dX2_perform_19 (rfl) (fun z19 g19 H locs hq19 hw => ?_)
    obtain ⟨j1, j2, _, _, j5, _⟩ := hq19
    rw [show goT T.2.2.1 T.2.2.2 61 0 0 T.1 = oT T from rfl] at j1 j2
    have hz19 := j1 (by omega)
    exact mm_ret cx hr hlocks hw (⟨by rw [hO]; exact hz19, FM_step2 hfk hv.2.1 hq15 (by rw [hO]; show ¬ (oT T).1 < 0; omega) (by rw [hO]; exact j2) j5⟩) dX2_perform_22
  · skip
    have hO1 : (perfO T).1 = -1000002 := by
      unfold perfO
      rw [if_pos (by omega)]
    refine ts_ldc (z := -1000002) hx hb cx.2.2.2.1 cx.2.2.2.2 tk_RX2_67 dX2_perform_11 ?_
    exact mm_ret cx hr hlocks hw (⟨hO1.symm, FM_err hfk (by rw [hO1]; decide)⟩) dX2_perform_13
