set_option maxHeartbeats 4000000 in
set_option maxRecDepth 100000 in
theorem c_X7_days (l : Launch) (D : KD) (x : Nat) (tx : Nat) (tr : Nat) (tb : Nat) (nw : Nat) (sp : Nat) (pa : Nat) (im : Nat) (ik : Nat) (no : Nat) (pr : Nat) (sg : Nat) (xfa : Int) (cf : Nat) (CF : Nat → Nat) (thd : Bool) (tlo : Nat) (te : Nat) (thn : Bool) (tcu : Nat) (tsc : Nat) (tfg : Nat) (ttv : Nat) (tpr : Nat) (tSC : Nat → Nat) (tTV : Nat → Nat) (nnf : Nat) (nlost : Nat) (ncost : Nat) (ndr : Nat) (nNF : Nat → Nat) (htSC : ∀ k, k < 4 → tSC k < 7) (htTV : ∀ k, k < 10 → tTV k < 10) (hnNF : ∀ k, k < 24 → nNF k < 10) (hlo : nlost < 16) (hcu : tcu ≤ 4) (hle : tlo ≤ te) (he : te ≤ 100) : cM l yX7_days cX7_days 1 (some .int) rm_X7_days D [(x, .inr (7, [.ref tx, .ref tr, .ref tb, .ref nw, .ref sp, .ref pa, .ref im, .ref ik, .ref no, .ref pr, .ref sg, .int (iI xfa)])), (tr, .inr (6, [.ref tb, .ref nw, .ref cf])), (cf, .inl (D.2.1, 10, .inl (nA CF))), (tb, .inr (0, [.int (nI thd.toNat), .int (nI tlo), .int (iI ((te : Int) - 1)), .int (nI thn.toNat), .int (nI tcu), .ref tsc, .ref tfg, .ref ttv, .ref tpr])), (tsc, .inl (D.2.1, 4, .inl (nA tSC))), (ttv, .inl (D.2.1, 10, .inl (nA tTV))), (nw, .inr (4, [.ref nnf, .int (nI nlost), .int (nI ncost), .int (nI ndr)])), (nnf, .inl (D.2.1, 24, .inl (nA nNF)))] [.ref x] (nI (cntTo (canS thn te (shN nlost tSC tTV nNF tcu)) tlo te)) [(x, .inr (7, [.ref tx, .ref tr, .ref tb, .ref nw, .ref sp, .ref pa, .ref im, .ref ik, .ref no, .ref pr, .ref sg, .int (iI xfa)])), (tr, .inr (6, [.ref tb, .ref nw, .ref cf])), (cf, .inl (D.2.1, 10, .inl (nA (cfOf (shN nlost tSC tTV nNF tcu))))), (tb, .inr (0, [.int (nI thd.toNat), .int (nI tlo), .int (iI ((te : Int) - 1)), .int (nI thn.toNat), .int (nI tcu), .ref tsc, .ref tfg, .ref ttv, .ref tpr])), (tsc, .inl (D.2.1, 4, .inl (nA tSC))), (ttv, .inl (D.2.1, 10, .inl (nA tTV))), (nw, .inr (4, [.ref nnf, .int (nI nlost), .int (nI ncost), .int (nI ndr)])), (nnf, .inl (D.2.1, 24, .inl (nA nNF)))] := by
  refine cM.mk (by decide) (retI _) (Nat.le_of_ble_eq_true rfl) ?_
  intro X A hx hL hA hW hret ls hl
  subst hL
  have hl : lv_has ls 1 [(0, .ref x)] := hl
  refine x_aload_n hx dX7_days_0 hl 0 rfl ?_
  refine x_get7 hx hW.1 0 rfl 1 (Nat.le_of_ble_eq_true rfl) wf_RX7_19 rfl dX7_days_1 ?_
  refine x_callVV (As := []) (rest := []) (wr := [(x, .inr (7, [.ref tx, .ref tr, .ref tb, .ref nw, .ref sp, .ref pa, .ref im, .ref ik, .ref no, .ref pr, .ref sg, .int (iI xfa)]))]) hx yv_X6_begin (c_X6_begin _ D tr nw cf CF tb thd tlo te thn tcu tsc tfg ttv tpr tSC tTV nnf nlost ncost ndr nNF (by first | assumption | omega | (simp [*]; done)) (by first | assumption | omega | (simp [*]; done)) (by first | assumption | omega | (simp [*]; done)) (by first | assumption | omega | (simp [*]; done)) (by first | assumption | omega | (simp [*]; done))) wm_RX7_198 hA hW [1, 2, 3, 4, 5, 6, 7] [0] rfl rfl rfl rfl rfl 1 rfl rfl ⟨rfl, rfl⟩ ⟨Nat.le_of_ble_eq_true rfl, Nat.le_of_ble_eq_true rfl⟩ ⟨Nat.zero_le _, Nat.zero_le _⟩ hl rfl rfl (Nat.le_of_ble_eq_true rfl) dX7_days_4 [(x, .inr (7, [.ref tx, .ref tr, .ref tb, .ref nw, .ref sp, .ref pa, .ref im, .ref ik, .ref no, .ref pr, .ref sg, .int (iI xfa)])), (tr, .inr (6, [.ref tb, .ref nw, .ref cf])), (cf, .inl (D.2.1, 10, .inl (nA (cfOf (shN nlost tSC tTV nNF tcu))))), (tb, .inr (0, [.int (nI thd.toNat), .int (nI tlo), .int (iI ((te : Int) - 1)), .int (nI thn.toNat), .int (nI tcu), .ref tsc, .ref tfg, .ref ttv, .ref tpr])), (tsc, .inl (D.2.1, 4, .inl (nA tSC))), (ttv, .inl (D.2.1, 10, .inl (nA tTV))), (nw, .inr (4, [.ref nnf, .int (nI nlost), .int (nI ncost), .int (nI ndr)])), (nnf, .inl (D.2.1, 24, .inl (nA nNF)))] rfl (fun H locs hW => ?_)
  refine x_aload_n hx dX7_days_7 hl 0 rfl ?_
  refine x_get7 hx hW.1 0 rfl 1 (Nat.le_of_ble_eq_true rfl) wf_RX7_19 rfl dX7_days_8 ?_
  refine x_callRV (As := []) (rest := []) hx yv_X6_countShown (c_X6_countShown _ D tr nw cf (shN nlost tSC tTV nNF tcu) tb thd tlo te thn tcu tsc tfg ttv tpr (by first | assumption | omega | (simp [*]; done)) (by first | assumption | omega | (simp [*]; done))) wm_RX7_206 hW.1 [1, 2, 3] rfl 1 rfl rfl ⟨rfl, rfl⟩ ⟨Nat.le_of_ble_eq_true rfl, Nat.le_of_ble_eq_true rfl⟩ ⟨Nat.zero_le _, Nat.zero_le _⟩ hl rfl rfl (Nat.le_of_ble_eq_true rfl) dX7_days_11 ?_
  exact hret _ _ _ _ _ dX7_days_14 (rfl) hW
set_option maxHeartbeats 4000000 in
set_option maxRecDepth 100000 in
theorem c_X7_gap (l : Launch) (D : KD) (x : Nat) (tx : Nat) (tr : Nat) (tb : Nat) (nw : Nat) (sp : Nat) (pa : Nat) (im : Nat) (ik : Nat) (no : Nat) (pr : Nat) (sg : Nat) (xfa : Int) (cf : Nat) (CF : Nat → Nat) (thd : Bool) (tlo : Nat) (te : Nat) (thn : Bool) (tcu : Nat) (tsc : Nat) (tfg : Nat) (ttv : Nat) (tpr : Nat) (tSC : Nat → Nat) (tTV : Nat → Nat) (nnf : Nat) (nlost : Nat) (ncost : Nat) (ndr : Nat) (nNF : Nat → Nat) (htSC : ∀ k, k < 4 → tSC k < 7) (htTV : ∀ k, k < 10 → tTV k < 10) (hnNF : ∀ k, k < 24 → nNF k < 10) (hlo : nlost < 16) (hcu : tcu ≤ 4) (hle : tlo ≤ te) (he : te ≤ 100) : cM l yX7_gap cX7_gap 1 (some .int) rm_X7_gap D [(x, .inr (7, [.ref tx, .ref tr, .ref tb, .ref nw, .ref sp, .ref pa, .ref im, .ref ik, .ref no, .ref pr, .ref sg, .int (iI xfa)])), (tr, .inr (6, [.ref tb, .ref nw, .ref cf])), (cf, .inl (D.2.1, 10, .inl (nA CF))), (tb, .inr (0, [.int (nI thd.toNat), .int (nI tlo), .int (iI ((te : Int) - 1)), .int (nI thn.toNat), .int (nI tcu), .ref tsc, .ref tfg, .ref ttv, .ref tpr])), (tsc, .inl (D.2.1, 4, .inl (nA tSC))), (ttv, .inl (D.2.1, 10, .inl (nA tTV))), (nw, .inr (4, [.ref nnf, .int (nI nlost), .int (nI ncost), .int (nI ndr)])), (nnf, .inl (D.2.1, 24, .inl (nA nNF)))] [.ref x] (iI (gapTo (canS thn te (shN nlost tSC tTV nNF tcu)) tlo (te - tlo))) [(x, .inr (7, [.ref tx, .ref tr, .ref tb, .ref nw, .ref sp, .ref pa, .ref im, .ref ik, .ref no, .ref pr, .ref sg, .int (iI xfa)])), (tr, .inr (6, [.ref tb, .ref nw, .ref cf])), (cf, .inl (D.2.1, 10, .inl (nA (cfOf (shN nlost tSC tTV nNF tcu))))), (tb, .inr (0, [.int (nI thd.toNat), .int (nI tlo), .int (iI ((te : Int) - 1)), .int (nI thn.toNat), .int (nI tcu), .ref tsc, .ref tfg, .ref ttv, .ref tpr])), (tsc, .inl (D.2.1, 4, .inl (nA tSC))), (ttv, .inl (D.2.1, 10, .inl (nA tTV))), (nw, .inr (4, [.ref nnf, .int (nI nlost), .int (nI ncost), .int (nI ndr)])), (nnf, .inl (D.2.1, 24, .inl (nA nNF)))] := by
  refine cM.mk (by decide) (retI _) (Nat.le_of_ble_eq_true rfl) ?_
  intro X A hx hL hA hW hret ls hl
  subst hL
  have hl : lv_has ls 1 [(0, .ref x)] := hl
  refine x_aload_n hx dX7_gap_0 hl 0 rfl ?_
  refine x_get7 hx hW.1 0 rfl 1 (Nat.le_of_ble_eq_true rfl) wf_RX7_19 rfl dX7_gap_1 ?_
  refine x_callVV (As := []) (rest := []) (wr := [(x, .inr (7, [.ref tx, .ref tr, .ref tb, .ref nw, .ref sp, .ref pa, .ref im, .ref ik, .ref no, .ref pr, .ref sg, .int (iI xfa)]))]) hx yv_X6_begin (c_X6_begin _ D tr nw cf CF tb thd tlo te thn tcu tsc tfg ttv tpr tSC tTV nnf nlost ncost ndr nNF (by first | assumption | omega | (simp [*]; done)) (by first | assumption | omega | (simp [*]; done)) (by first | assumption | omega | (simp [*]; done)) (by first | assumption | omega | (simp [*]; done)) (by first | assumption | omega | (simp [*]; done))) wm_RX7_198 hA hW [1, 2, 3, 4, 5, 6, 7] [0] rfl rfl rfl rfl rfl 1 rfl rfl ⟨rfl, rfl⟩ ⟨Nat.le_of_ble_eq_true rfl, Nat.le_of_ble_eq_true rfl⟩ ⟨Nat.zero_le _, Nat.zero_le _⟩ hl rfl rfl (Nat.le_of_ble_eq_true rfl) dX7_gap_4 [(x, .inr (7, [.ref tx, .ref tr, .ref tb, .ref nw, .ref sp, .ref pa, .ref im, .ref ik, .ref no, .ref pr, .ref sg, .int (iI xfa)])), (tr, .inr (6, [.ref tb, .ref nw, .ref cf])), (cf, .inl (D.2.1, 10, .inl (nA (cfOf (shN nlost tSC tTV nNF tcu))))), (tb, .inr (0, [.int (nI thd.toNat), .int (nI tlo), .int (iI ((te : Int) - 1)), .int (nI thn.toNat), .int (nI tcu), .ref tsc, .ref tfg, .ref ttv, .ref tpr])), (tsc, .inl (D.2.1, 4, .inl (nA tSC))), (ttv, .inl (D.2.1, 10, .inl (nA tTV))), (nw, .inr (4, [.ref nnf, .int (nI nlost), .int (nI ncost), .int (nI ndr)])), (nnf, .inl (D.2.1, 24, .inl (nA nNF)))] rfl (fun H locs hW => ?_)
  refine x_aload_n hx dX7_gap_7 hl 0 rfl ?_
  refine x_get7 hx hW.1 0 rfl 1 (Nat.le_of_ble_eq_true rfl) wf_RX7_19 rfl dX7_gap_8 ?_
  refine x_callRV (As := []) (rest := []) hx yv_X6_firstGap (c_X6_firstGap _ D tr nw cf (shN nlost tSC tTV nNF tcu) tb thd tlo te thn tcu tsc tfg ttv tpr (by first | assumption | omega | (simp [*]; done)) (by first | assumption | omega | (simp [*]; done))) wm_RX7_210 hW.1 [1, 2, 3] rfl 1 rfl rfl ⟨rfl, rfl⟩ ⟨Nat.le_of_ble_eq_true rfl, Nat.le_of_ble_eq_true rfl⟩ ⟨Nat.zero_le _, Nat.zero_le _⟩ hl rfl rfl (Nat.le_of_ble_eq_true rfl) dX7_gap_11 ?_
  exact hret _ _ _ _ _ dX7_gap_14 (rfl) hW
set_option maxHeartbeats 4000000 in
set_option maxRecDepth 100000 in
theorem c_X7_shown_no (l : Launch) (D : KD) (x : Nat) (tx : Nat) (tr : Nat) (tb : Nat) (nw : Nat) (sp : Nat) (pa : Nat) (im : Nat) (ik : Nat) (no : Nat) (pr : Nat) (sg : Nat) (xfa : Int) (thd : Bool) (tlo : Nat) (te : Nat) (thn : Bool) (tcu : Nat) (tsc : Nat) (tfg : Nat) (ttv : Nat) (tpr : Nat) (z : Int) (w : Int) (hlo : tlo ≤ 99) (he : te ≤ 100) (hz : -2147483648 ≤ z ∧ z < 2147483648) (hw : -2147483648 ≤ w ∧ w < 2147483648) (hno : ¬ ((tlo : Int) ≤ z ∧ z < (te : Int))) : cR l yX7_shown cX7_shown 3 (some .int) rm_X7_shown D [(x, .inr (7, [.ref tx, .ref tr, .ref tb, .ref nw, .ref sp, .ref pa, .ref im, .ref ik, .ref no, .ref pr, .ref sg, .int (iI xfa)])), (tb, .inr (0, [.int (nI thd.toNat), .int (nI tlo), .int (iI ((te : Int) - 1)), .int (nI thn.toNat), .int (nI tcu), .ref tsc, .ref tfg, .ref ttv, .ref tpr]))] [.ref x, .int (iI z), .int (iI w)] (iI (-1000000002)) := by
  refine cR.mk (by decide) (retI _) (Nat.le_of_ble_eq_true rfl) ?_
  intro X hx hL hP hret ls hl
  subst hL
  have hl : lv_has ls 3 [(0, .ref x), (1, .int (iI z)), (2, .int (iI w))] := hl
  refine x_aload_n hx dX7_shown_0 hl 0 rfl ?_
  refine x_get7 hx hP 0 rfl 2 (Nat.le_of_ble_eq_true rfl) wf_RX7_27 rfl dX7_shown_1 ?_
  refine x_iload_n hx dX7_shown_4 hl 1 rfl ?_
  refine x_callRV (As := [.int (iI z)]) (rest := []) hx yv_X0_hasDay (c_X0_hasDay _ D tb thd tlo te thn tcu tsc tfg ttv tpr z (by first | assumption | omega | (simp [*]; done)) (by first | assumption | omega | (simp [*]; done)) (by first | assumption | omega | (simp [*]; done))) wm_RX7_195 hP [1] rfl 1 rfl rfl ⟨rfl, rfl⟩ ⟨Nat.le_of_ble_eq_true rfl, Nat.le_of_ble_eq_true rfl⟩ ⟨Nat.zero_le _, Nat.zero_le _⟩ hl rfl rfl (Nat.le_of_ble_eq_true rfl) dX7_shown_5 ?_
  refine x_if_ne_B (tgt := 14) hx dX7_shown_8 (by decide) (fun h_1 => ?_) (fun h_1 => ?_)
  · have hd_2 := of_decide_eq_true h_1
    omega
  · have hd_3 := of_decide_eq_false h_1
    refine x_ldc (u := iI (-1000000002)) hx wk_RX7_83 (by decide) dX7_shown_11 ?_
    exact hret _ _ _ dX7_shown_13 (rfl)
def shownF (hn : Bool) (e : Nat) (sh : Nat → Nat) (d : Nat) (i : Int) : Int := if i = -1 then ((canS hn e sh d).toNat : Int) else if canS hn e sh d then cubeS hn e sh d i else -1
set_option maxHeartbeats 4000000 in
set_option maxRecDepth 100000 in
theorem c_X7_shown (l : Launch) (D : KD) (x : Nat) (tx : Nat) (tr : Nat) (tb : Nat) (nw : Nat) (sp : Nat) (pa : Nat) (im : Nat) (ik : Nat) (no : Nat) (pr : Nat) (sg : Nat) (xfa : Int) (cf : Nat) (CF : Nat → Nat) (thd : Bool) (tlo : Nat) (te : Nat) (thn : Bool) (tcu : Nat) (tsc : Nat) (tfg : Nat) (ttv : Nat) (tpr : Nat) (tSC : Nat → Nat) (tTV : Nat → Nat) (nnf : Nat) (nlost : Nat) (ncost : Nat) (ndr : Nat) (nNF : Nat → Nat) (d : Nat) (w : Int) (htSC : ∀ k, k < 4 → tSC k < 7) (htTV : ∀ k, k < 10 → tTV k < 10) (hnNF : ∀ k, k < 24 → nNF k < 10) (hlo : nlost < 16) (hcu : tcu ≤ 4) (hle : tlo ≤ te) (he : te ≤ 100) (hd1 : tlo ≤ d) (hd2 : d < te) (hw : -2147483648 ≤ w ∧ w < 2147483648) : cM l yX7_shown cX7_shown 3 (some .int) rm_X7_shown D [(x, .inr (7, [.ref tx, .ref tr, .ref tb, .ref nw, .ref sp, .ref pa, .ref im, .ref ik, .ref no, .ref pr, .ref sg, .int (iI xfa)])), (tr, .inr (6, [.ref tb, .ref nw, .ref cf])), (cf, .inl (D.2.1, 10, .inl (nA CF))), (tb, .inr (0, [.int (nI thd.toNat), .int (nI tlo), .int (iI ((te : Int) - 1)), .int (nI thn.toNat), .int (nI tcu), .ref tsc, .ref tfg, .ref ttv, .ref tpr])), (tsc, .inl (D.2.1, 4, .inl (nA tSC))), (ttv, .inl (D.2.1, 10, .inl (nA tTV))), (nw, .inr (4, [.ref nnf, .int (nI nlost), .int (nI ncost), .int (nI ndr)])), (nnf, .inl (D.2.1, 24, .inl (nA nNF)))] [.ref x, .int (nI d), .int (iI w)] (iI (shownF thn te (shN nlost tSC tTV nNF tcu) d w)) [(x, .inr (7, [.ref tx, .ref tr, .ref tb, .ref nw, .ref sp, .ref pa, .ref im, .ref ik, .ref no, .ref pr, .ref sg, .int (iI xfa)])), (tr, .inr (6, [.ref tb, .ref nw, .ref cf])), (cf, .inl (D.2.1, 10, .inl (nA (cfOf (shN nlost tSC tTV nNF tcu))))), (tb, .inr (0, [.int (nI thd.toNat), .int (nI tlo), .int (iI ((te : Int) - 1)), .int (nI thn.toNat), .int (nI tcu), .ref tsc, .ref tfg, .ref ttv, .ref tpr])), (tsc, .inl (D.2.1, 4, .inl (nA tSC))), (ttv, .inl (D.2.1, 10, .inl (nA tTV))), (nw, .inr (4, [.ref nnf, .int (nI nlost), .int (nI ncost), .int (nI ndr)])), (nnf, .inl (D.2.1, 24, .inl (nA nNF)))] := by
  refine cM.mk (by decide) (retI _) (Nat.le_of_ble_eq_true rfl) ?_
  intro X A hx hL hA hW hret ls hl
  subst hL
  have hl : lv_has ls 3 [(0, .ref x), (1, .int (nI d)), (2, .int (iI w))] := hl
  refine x_aload_n hx dX7_shown_0 hl 0 rfl ?_
  refine x_get7 hx hW.1 0 rfl 2 (Nat.le_of_ble_eq_true rfl) wf_RX7_27 rfl dX7_shown_1 ?_
  refine x_iload_n hx dX7_shown_4 hl 1 rfl ?_
  refine x_callRV (As := [.int (nI d)]) (rest := []) hx yv_X0_hasDay (c_X0_hasDay _ D tb thd tlo te thn tcu tsc tfg ttv tpr (d : Int) (by first | assumption | omega | (simp [*]; done)) (by first | assumption | omega | (simp [*]; done)) (by first | assumption | omega | (simp [*]; done))) wm_RX7_195 hW.1 [3] rfl 3 rfl rfl ⟨rfl, rfl⟩ ⟨Nat.le_of_ble_eq_true rfl, Nat.le_of_ble_eq_true rfl⟩ ⟨Nat.zero_le _, Nat.zero_le _⟩ hl rfl rfl (Nat.le_of_ble_eq_true rfl) dX7_shown_5 ?_
  refine x_if_ne_B (tgt := 14) hx dX7_shown_8 (by decide) (fun h_1 => ?_) (fun h_1 => ?_)
  · have hd_2 := of_decide_eq_true h_1
    refine x_aload_n hx dX7_shown_14 hl 0 rfl ?_
    refine x_get7 hx hW.1 0 rfl 1 (Nat.le_of_ble_eq_true rfl) wf_RX7_19 rfl dX7_shown_15 ?_
    refine x_callVV (As := []) (rest := []) (wr := [(x, .inr (7, [.ref tx, .ref tr, .ref tb, .ref nw, .ref sp, .ref pa, .ref im, .ref ik, .ref no, .ref pr, .ref sg, .int (iI xfa)]))]) hx yv_X6_begin (c_X6_begin _ D tr nw cf CF tb thd tlo te thn tcu tsc tfg ttv tpr tSC tTV nnf nlost ncost ndr nNF (by first | assumption | omega | (simp [*]; done)) (by first | assumption | omega | (simp [*]; done)) (by first | assumption | omega | (simp [*]; done)) (by first | assumption | omega | (simp [*]; done)) (by first | assumption | omega | (simp [*]; done))) wm_RX7_198 hA hW [1, 2, 3, 4, 5, 6, 7] [0] rfl rfl rfl rfl rfl 1 rfl rfl ⟨rfl, rfl⟩ ⟨Nat.le_of_ble_eq_true rfl, Nat.le_of_ble_eq_true rfl⟩ ⟨Nat.zero_le _, Nat.zero_le _⟩ hl rfl rfl (Nat.le_of_ble_eq_true rfl) dX7_shown_18 [(x, .inr (7, [.ref tx, .ref tr, .ref tb, .ref nw, .ref sp, .ref pa, .ref im, .ref ik, .ref no, .ref pr, .ref sg, .int (iI xfa)])), (tr, .inr (6, [.ref tb, .ref nw, .ref cf])), (cf, .inl (D.2.1, 10, .inl (nA (cfOf (shN nlost tSC tTV nNF tcu))))), (tb, .inr (0, [.int (nI thd.toNat), .int (nI tlo), .int (iI ((te : Int) - 1)), .int (nI thn.toNat), .int (nI tcu), .ref tsc, .ref tfg, .ref ttv, .ref tpr])), (tsc, .inl (D.2.1, 4, .inl (nA tSC))), (ttv, .inl (D.2.1, 10, .inl (nA tTV))), (nw, .inr (4, [.ref nnf, .int (nI nlost), .int (nI ncost), .int (nI ndr)])), (nnf, .inl (D.2.1, 24, .inl (nA nNF)))] rfl (fun H locs hW => ?_)
    refine x_iload_n hx dX7_shown_21 hl 2 rfl ?_
    refine x_iconst (v := iI (-1)) hx dX7_shown_22 (by decide) ?_
    refine x_icmp_ne_Z (a := w) (b := (-1)) (tgt := 43) hx dX7_shown_23 (by decide) (by omega) (by omega) (fun h_3 => ?_) (fun h_3 => ?_)
    · refine x_aload_n hx dX7_shown_43 hl 0 rfl ?_
      refine x_get7 hx hW.1 0 rfl 1 (Nat.le_of_ble_eq_true rfl) wf_RX7_19 rfl dX7_shown_44 ?_
      refine x_iload_n hx dX7_shown_47 hl 1 rfl ?_
      refine x_callRV (As := [.int (nI d)]) (rest := []) hx yv_X6_canShow (c_X6_canShow _ D tr nw cf (shN nlost tSC tTV nNF tcu) tb thd tlo te thn tcu tsc tfg ttv tpr d (by first | assumption | omega | (simp [*]; done)) (by first | assumption | omega | (simp [*]; done))) wm_RX7_200 hW.1 [1, 2, 3] rfl 1 rfl rfl ⟨rfl, rfl⟩ ⟨Nat.le_of_ble_eq_true rfl, Nat.le_of_ble_eq_true rfl⟩ ⟨Nat.zero_le _, Nat.zero_le _⟩ hl rfl rfl (Nat.le_of_ble_eq_true rfl) dX7_shown_48 ?_
      refine x_if_eq_B (tgt := 66) hx dX7_shown_51 (by decide) (fun h_4 => ?_) (fun h_4 => ?_)
      · refine x_iconst (v := iI (-1)) hx dX7_shown_66 (by decide) ?_
        exact hret _ _ _ _ _ dX7_shown_67 (by first | (simp [shownF, *]; done) | (simp [shownF, *]; rfl)) hW
      · refine x_aload_n hx dX7_shown_54 hl 0 rfl ?_
        refine x_get7 hx hW.1 0 rfl 1 (Nat.le_of_ble_eq_true rfl) wf_RX7_19 rfl dX7_shown_55 ?_
        refine x_iload_n hx dX7_shown_58 hl 1 rfl ?_
        refine x_iload_n hx dX7_shown_59 hl 2 rfl ?_
        refine x_callRV (As := [.int (nI d), .int (iI w)]) (rest := []) hx yv_X6_cubeFor (c_X6_cubeFor _ D tr nw cf (shN nlost tSC tTV nNF tcu) tb thd tlo te thn tcu tsc tfg ttv tpr d w (by first | assumption | omega | (simp [*]; done)) (by first | assumption | omega | (simp [*]; done)) (by first | assumption | omega | (simp [*]; done)) (by first | assumption | omega | (simp [*]; done))) wm_RX7_203 hW.1 [1, 2, 3] rfl 1 rfl rfl ⟨rfl, rfl⟩ ⟨Nat.le_of_ble_eq_true rfl, Nat.le_of_ble_eq_true rfl⟩ ⟨Nat.zero_le _, Nat.zero_le _⟩ hl rfl rfl (Nat.le_of_ble_eq_true rfl) dX7_shown_60 ?_
        refine x_goto (tgt := 67) hx dX7_shown_63 (by decide) ?_
        exact hret _ _ _ _ _ dX7_shown_67 (by first | (simp [shownF, *]; done) | (simp [shownF, *]; rfl)) hW
    · refine x_aload_n hx dX7_shown_26 hl 0 rfl ?_
      refine x_get7 hx hW.1 0 rfl 1 (Nat.le_of_ble_eq_true rfl) wf_RX7_19 rfl dX7_shown_27 ?_
      refine x_iload_n hx dX7_shown_30 hl 1 rfl ?_
      refine x_callRV (As := [.int (nI d)]) (rest := []) hx yv_X6_canShow (c_X6_canShow _ D tr nw cf (shN nlost tSC tTV nNF tcu) tb thd tlo te thn tcu tsc tfg ttv tpr d (by first | assumption | omega | (simp [*]; done)) (by first | assumption | omega | (simp [*]; done))) wm_RX7_200 hW.1 [1, 2, 3] rfl 1 rfl rfl ⟨rfl, rfl⟩ ⟨Nat.le_of_ble_eq_true rfl, Nat.le_of_ble_eq_true rfl⟩ ⟨Nat.zero_le _, Nat.zero_le _⟩ hl rfl rfl (Nat.le_of_ble_eq_true rfl) dX7_shown_31 ?_
      refine x_if_eq_B (tgt := 41) hx dX7_shown_34 (by decide) (fun h_5 => ?_) (fun h_5 => ?_)
      · refine x_iconst (v := nI 0) hx dX7_shown_41 (by decide) ?_
        exact hret _ _ _ _ _ dX7_shown_42 (by first | (simp [shownF, *]; done) | (simp [shownF, *]; rfl)) hW
      · refine x_iconst (v := nI 1) hx dX7_shown_37 (by decide) ?_
        refine x_goto (tgt := 42) hx dX7_shown_38 (by decide) ?_
        exact hret _ _ _ _ _ dX7_shown_42 (by first | (simp [shownF, *]; done) | (simp [shownF, *]; rfl)) hW
  · have hd_6 := of_decide_eq_false h_1
    omega
set_option maxHeartbeats 4000000 in
set_option maxRecDepth 100000 in
theorem c_X7_gone_no (l : Launch) (D : KD) (x : Nat) (tx : Nat) (tr : Nat) (tb : Nat) (nw : Nat) (sp : Nat) (pa : Nat) (im : Nat) (ik : Nat) (no : Nat) (pr : Nat) (sg : Nat) (xfa : Int) (thd : Bool) (tlo : Nat) (te : Nat) (thn : Bool) (tcu : Nat) (tsc : Nat) (tfg : Nat) (ttv : Nat) (tpr : Nat) (tSC : Nat → Nat) (z : Int) (w : Int) (htSC : ∀ k, k < 4 → tSC k < 7) (hcu : tcu ≤ 4) (hz : -2147483648 ≤ z ∧ z < 2147483648) (hw : -2147483648 ≤ w ∧ w < 2147483648) (hno : ¬ ((0 ≤ z ∧ z < (tcu : Int)) ∧ 0 ≤ w ∧ w < (tSC z.toNat : Int))) : cR l yX7_gone cX7_gone 3 (some .int) rm_X7_gone D [(x, .inr (7, [.ref tx, .ref tr, .ref tb, .ref nw, .ref sp, .ref pa, .ref im, .ref ik, .ref no, .ref pr, .ref sg, .int (iI xfa)])), (tb, .inr (0, [.int (nI thd.toNat), .int (nI tlo), .int (iI ((te : Int) - 1)), .int (nI thn.toNat), .int (nI tcu), .ref tsc, .ref tfg, .ref ttv, .ref tpr])), (tsc, .inl (D.2.1, 4, .inl (nA tSC)))] [.ref x, .int (iI z), .int (iI w)] (iI (if 0 ≤ z ∧ z < (tcu : Int) then -1000000002 else -1000000001)) := by
  refine cR.mk (by decide) (retI _) (Nat.le_of_ble_eq_true rfl) ?_
  intro X hx hL hP hret ls hl
  subst hL
  have hl : lv_has ls 3 [(0, .ref x), (1, .int (iI z)), (2, .int (iI w))] := hl
  refine x_aload_n hx dX7_gone_0 hl 0 rfl ?_
  refine x_get7 hx hP 0 rfl 2 (Nat.le_of_ble_eq_true rfl) wf_RX7_27 rfl dX7_gone_1 ?_
  refine x_iload_n hx dX7_gone_4 hl 1 rfl ?_
  refine x_callRV (As := [.int (iI z)]) (rest := []) hx yv_X0_hasCube (c_X0_hasCube _ D tb thd tlo te thn tcu tsc tfg ttv tpr z (by first | assumption | omega | (simp [*]; done)) (by first | assumption | omega | (simp [*]; done))) wm_RX7_146 hP [1] rfl 1 rfl rfl ⟨rfl, rfl⟩ ⟨Nat.le_of_ble_eq_true rfl, Nat.le_of_ble_eq_true rfl⟩ ⟨Nat.zero_le _, Nat.zero_le _⟩ hl rfl rfl (Nat.le_of_ble_eq_true rfl) dX7_gone_5 ?_
  refine x_if_ne_B (tgt := 14) hx dX7_gone_8 (by decide) (fun h_1 => ?_) (fun h_1 => ?_)
  · have hd_2 := of_decide_eq_true h_1
    refine x_aload_n hx dX7_gone_14 hl 0 rfl ?_
    refine x_get7 hx hP 0 rfl 2 (Nat.le_of_ble_eq_true rfl) wf_RX7_27 rfl dX7_gone_15 ?_
    refine x_iload_n hx dX7_gone_18 hl 1 rfl ?_
    refine x_iload_n hx dX7_gone_19 hl 2 rfl ?_
    refine x_callRV (As := [.int (iI z), .int (iI w)]) (rest := []) hx yv_X0_hasSide (c_X0_hasSide _ D tb thd tlo te thn tcu tsc tfg ttv tpr tSC z w (by first | assumption | omega | (simp [*]; done)) (by first | assumption | omega | (simp [*]; done)) (by first | assumption | omega | (simp [*]; done)) (by first | assumption | omega | (simp [*]; done))) wm_RX7_154 hP [1, 2] rfl 1 rfl rfl ⟨rfl, rfl⟩ ⟨Nat.le_of_ble_eq_true rfl, Nat.le_of_ble_eq_true rfl⟩ ⟨Nat.zero_le _, Nat.zero_le _⟩ hl rfl rfl (Nat.le_of_ble_eq_true rfl) dX7_gone_20 ?_
    refine x_if_ne_B (tgt := 29) hx dX7_gone_23 (by decide) (fun h_3 => ?_) (fun h_3 => ?_)
    · simp only [sideB, decide_eq_true_eq, decide_eq_false_iff_not, Int.toNat_natCast] at h_3
      omega
    · simp only [sideB, decide_eq_true_eq, decide_eq_false_iff_not, Int.toNat_natCast] at h_3
      refine x_ldc (u := iI (-1000000002)) hx wk_RX7_83 (by decide) dX7_gone_26 ?_
      exact hret _ _ _ dX7_gone_28 (by congr 1; first | (rw [if_pos (by omega)]; done) | (rw [if_neg (by omega)]; done))
  · have hd_4 := of_decide_eq_false h_1
    refine x_ldc (u := iI (-1000000001)) hx wk_RX7_150 (by decide) dX7_gone_11 ?_
    exact hret _ _ _ dX7_gone_13 (by congr 1; first | (rw [if_pos (by omega)]; done) | (rw [if_neg (by omega)]; done))
theorem shN_back {lost : Nat} {SC TV NF : Nat → Nat} {cu c v : Nat} (hc : c < cu) (k : Nat) : cfOf (va_up (va_up (shN lost SC TV NF cu) c v) c (lz lost c (seen SC TV NF c (-1)))) k = cfOf (shN lost SC TV NF cu) k := by
  refine cfOf_cong (fun i _ => ?_) k
  by_cases h : i = c
  · subst h; simp [va_up, shN, hc]
  · simp [va_up, h]
theorem shN_back1 {lost : Nat} {SC TV NF : Nat → Nat} {cu c : Nat} (hc : c < cu) (k : Nat) : cfOf (va_up (shN lost SC TV NF cu) c (lz lost c (seen SC TV NF c (-1)))) k = cfOf (shN lost SC TV NF cu) k := by
  refine cfOf_cong (fun i _ => ?_) k
  by_cases h : i = c
  · subst h; simp [va_up, shN, hc]
  · simp [va_up, h]
set_option maxHeartbeats 4000000 in
set_option maxRecDepth 100000 in
theorem c_X7_gone (l : Launch) (D : KD) (x : Nat) (tx : Nat) (tr : Nat) (tb : Nat) (nw : Nat) (sp : Nat) (pa : Nat) (im : Nat) (ik : Nat) (no : Nat) (pr : Nat) (sg : Nat) (xfa : Int) (cf : Nat) (CF : Nat → Nat) (thd : Bool) (tlo : Nat) (te : Nat) (thn : Bool) (tcu : Nat) (tsc : Nat) (tfg : Nat) (ttv : Nat) (tpr : Nat) (tSC : Nat → Nat) (tTV : Nat → Nat) (nnf : Nat) (nlost : Nat) (ncost : Nat) (ndr : Nat) (nNF : Nat → Nat) (c : Nat) (f : Nat) (htSC : ∀ k, k < 4 → tSC k < 7) (htTV : ∀ k, k < 10 → tTV k < 10) (hnNF : ∀ k, k < 24 → nNF k < 10) (hlo : nlost < 16) (hcu : tcu ≤ 4) (hle : tlo ≤ te) (he : te ≤ 100) (hc : c < tcu) (hf : f < tSC c) : cM l yX7_gone cX7_gone 3 (some .int) rm_X7_gone D [(x, .inr (7, [.ref tx, .ref tr, .ref tb, .ref nw, .ref sp, .ref pa, .ref im, .ref ik, .ref no, .ref pr, .ref sg, .int (iI xfa)])), (tr, .inr (6, [.ref tb, .ref nw, .ref cf])), (cf, .inl (D.2.1, 10, .inl (nA CF))), (tb, .inr (0, [.int (nI thd.toNat), .int (nI tlo), .int (iI ((te : Int) - 1)), .int (nI thn.toNat), .int (nI tcu), .ref tsc, .ref tfg, .ref ttv, .ref tpr])), (tsc, .inl (D.2.1, 4, .inl (nA tSC))), (ttv, .inl (D.2.1, 10, .inl (nA tTV))), (nw, .inr (4, [.ref nnf, .int (nI nlost), .int (nI ncost), .int (nI ndr)])), (nnf, .inl (D.2.1, 24, .inl (nA nNF)))] [.ref x, .int (nI c), .int (nI f)] (iI ((cntTo (canS thn te (shN nlost tSC tTV nNF tcu)) tlo te : Int) - (cntTo (canS thn te (va_up (shN nlost tSC tTV nNF tcu) c (lz nlost c (seen tSC tTV nNF c (f : Int))))) tlo te : Int))) [(x, .inr (7, [.ref tx, .ref tr, .ref tb, .ref nw, .ref sp, .ref pa, .ref im, .ref ik, .ref no, .ref pr, .ref sg, .int (iI xfa)])), (tr, .inr (6, [.ref tb, .ref nw, .ref cf])), (cf, .inl (D.2.1, 10, .inl (nA (cfOf (shN nlost tSC tTV nNF tcu))))), (tb, .inr (0, [.int (nI thd.toNat), .int (nI tlo), .int (iI ((te : Int) - 1)), .int (nI thn.toNat), .int (nI tcu), .ref tsc, .ref tfg, .ref ttv, .ref tpr])), (tsc, .inl (D.2.1, 4, .inl (nA tSC))), (ttv, .inl (D.2.1, 10, .inl (nA tTV))), (nw, .inr (4, [.ref nnf, .int (nI nlost), .int (nI ncost), .int (nI ndr)])), (nnf, .inl (D.2.1, 24, .inl (nA nNF)))] := by
  refine cM.mk (by decide) (retI _) (Nat.le_of_ble_eq_true rfl) ?_
  intro X A hx hL hA hW hret ls hl
  subst hL
  have hl : lv_has ls 3 [(0, .ref x), (1, .int (nI c)), (2, .int (nI f))] := hl
  have hsc := htSC c (by omega)
  refine x_aload_n hx dX7_gone_0 hl 0 rfl ?_
  refine x_get7 hx hW.1 0 rfl 2 (Nat.le_of_ble_eq_true rfl) wf_RX7_27 rfl dX7_gone_1 ?_
  refine x_iload_n hx dX7_gone_4 hl 1 rfl ?_
  refine x_callRV (As := [.int (nI c)]) (rest := []) hx yv_X0_hasCube (c_X0_hasCube _ D tb thd tlo te thn tcu tsc tfg ttv tpr (c : Int) (by first | assumption | omega | (simp [*]; done)) (by first | assumption | omega | (simp [*]; done))) wm_RX7_146 hW.1 [3] rfl 3 rfl rfl ⟨rfl, rfl⟩ ⟨Nat.le_of_ble_eq_true rfl, Nat.le_of_ble_eq_true rfl⟩ ⟨Nat.zero_le _, Nat.zero_le _⟩ hl rfl rfl (Nat.le_of_ble_eq_true rfl) dX7_gone_5 ?_
  refine x_if_ne_B (tgt := 14) hx dX7_gone_8 (by decide) (fun h_1 => ?_) (fun h_1 => ?_)
  · have hd_2 := of_decide_eq_true h_1
    refine x_aload_n hx dX7_gone_14 hl 0 rfl ?_
    refine x_get7 hx hW.1 0 rfl 2 (Nat.le_of_ble_eq_true rfl) wf_RX7_27 rfl dX7_gone_15 ?_
    refine x_iload_n hx dX7_gone_18 hl 1 rfl ?_
    refine x_iload_n hx dX7_gone_19 hl 2 rfl ?_
    refine x_callRV (As := [.int (nI c), .int (nI f)]) (rest := []) hx yv_X0_hasSide (c_X0_hasSide _ D tb thd tlo te thn tcu tsc tfg ttv tpr tSC (c : Int) (f : Int) (by first | assumption | omega | (simp [*]; done)) (by first | assumption | omega | (simp [*]; done)) (by first | assumption | omega | (simp [*]; done)) (by first | assumption | omega | (simp [*]; done))) wm_RX7_154 hW.1 [3, 4] rfl 3 rfl rfl ⟨rfl, rfl⟩ ⟨Nat.le_of_ble_eq_true rfl, Nat.le_of_ble_eq_true rfl⟩ ⟨Nat.zero_le _, Nat.zero_le _⟩ hl rfl rfl (Nat.le_of_ble_eq_true rfl) dX7_gone_20 ?_
    refine x_if_ne_B (tgt := 29) hx dX7_gone_23 (by decide) (fun h_3 => ?_) (fun h_3 => ?_)
    · simp only [sideB, decide_eq_true_eq, decide_eq_false_iff_not, Int.toNat_natCast] at h_3
      refine x_aload_n hx dX7_gone_29 hl 0 rfl ?_
      refine x_get7 hx hW.1 0 rfl 1 (Nat.le_of_ble_eq_true rfl) wf_RX7_19 rfl dX7_gone_30 ?_
      refine x_callVV (As := []) (rest := []) (wr := [(x, .inr (7, [.ref tx, .ref tr, .ref tb, .ref nw, .ref sp, .ref pa, .ref im, .ref ik, .ref no, .ref pr, .ref sg, .int (iI xfa)]))]) hx yv_X6_begin (c_X6_begin _ D tr nw cf CF tb thd tlo te thn tcu tsc tfg ttv tpr tSC tTV nnf nlost ncost ndr nNF (by first | assumption | omega | (simp [*]; done)) (by first | assumption | omega | (simp [*]; done)) (by first | assumption | omega | (simp [*]; done)) (by first | assumption | omega | (simp [*]; done)) (by first | assumption | omega | (simp [*]; done))) wm_RX7_198 hA hW [1, 2, 3, 4, 5, 6, 7] [0] rfl rfl rfl rfl rfl 1 rfl rfl ⟨rfl, rfl⟩ ⟨Nat.le_of_ble_eq_true rfl, Nat.le_of_ble_eq_true rfl⟩ ⟨Nat.zero_le _, Nat.zero_le _⟩ hl rfl rfl (Nat.le_of_ble_eq_true rfl) dX7_gone_33 [(x, .inr (7, [.ref tx, .ref tr, .ref tb, .ref nw, .ref sp, .ref pa, .ref im, .ref ik, .ref no, .ref pr, .ref sg, .int (iI xfa)])), (tr, .inr (6, [.ref tb, .ref nw, .ref cf])), (cf, .inl (D.2.1, 10, .inl (nA (cfOf (shN nlost tSC tTV nNF tcu))))), (tb, .inr (0, [.int (nI thd.toNat), .int (nI tlo), .int (iI ((te : Int) - 1)), .int (nI thn.toNat), .int (nI tcu), .ref tsc, .ref tfg, .ref ttv, .ref tpr])), (tsc, .inl (D.2.1, 4, .inl (nA tSC))), (ttv, .inl (D.2.1, 10, .inl (nA tTV))), (nw, .inr (4, [.ref nnf, .int (nI nlost), .int (nI ncost), .int (nI ndr)])), (nnf, .inl (D.2.1, 24, .inl (nA nNF)))] rfl (fun H locs hW => ?_)
      refine x_aload_n hx dX7_gone_36 hl 0 rfl ?_
      refine x_get7 hx hW.1 0 rfl 1 (Nat.le_of_ble_eq_true rfl) wf_RX7_19 rfl dX7_gone_37 ?_
      refine x_callRV (As := []) (rest := []) hx yv_X6_countShown (c_X6_countShown _ D tr nw cf (shN nlost tSC tTV nNF tcu) tb thd tlo te thn tcu tsc tfg ttv tpr (by first | assumption | omega | (simp [*]; done)) (by first | assumption | omega | (simp [*]; done))) wm_RX7_206 hW.1 [1, 2, 3] rfl 1 rfl rfl ⟨rfl, rfl⟩ ⟨Nat.le_of_ble_eq_true rfl, Nat.le_of_ble_eq_true rfl⟩ ⟨Nat.zero_le _, Nat.zero_le _⟩ hl rfl rfl (Nat.le_of_ble_eq_true rfl) dX7_gone_40 ?_
      refine x_aload_n hx dX7_gone_43 hl 0 rfl ?_
      refine x_get7 hx hW.1 0 rfl 1 (Nat.le_of_ble_eq_true rfl) wf_RX7_19 rfl dX7_gone_44 ?_
      refine x_iload_n hx dX7_gone_47 hl 1 rfl ?_
      refine x_iload_n hx dX7_gone_48 hl 2 rfl ?_
      refine x_callMV (As := [.int (nI c), .int (nI f)]) (rest := [.int (nI (cntTo (canS thn te (shN nlost tSC tTV nNF tcu)) tlo te))]) (wr := [(x, .inr (7, [.ref tx, .ref tr, .ref tb, .ref nw, .ref sp, .ref pa, .ref im, .ref ik, .ref no, .ref pr, .ref sg, .int (iI xfa)]))]) hx yv_X6_countShownWithout (c_X6_countShownWithout _ D tr nw cf (shN nlost tSC tTV nNF tcu) tb thd tlo te thn tcu tsc tfg ttv tpr tSC tTV nnf nlost ncost ndr nNF c f (by first | assumption | omega | (simp [*]; done)) (by first | assumption | omega | (simp [*]; done)) (by first | assumption | omega | (simp [*]; done)) (by first | assumption | omega | (simp [*]; done)) (by first | assumption | omega | (simp [*]; done)) (by first | assumption | omega | (simp [*]; done)) (by first | assumption | omega | (simp [*]; done)) (by first | assumption | omega | (simp [*]; done)) (by first | assumption | omega | (simp [*]; done))) wm_RX7_229 hA hW [1, 2, 3, 4, 5, 6, 7] [0] rfl rfl rfl rfl rfl 1 rfl rfl ⟨rfl, rfl⟩ ⟨Nat.le_of_ble_eq_true rfl, Nat.le_of_ble_eq_true rfl⟩ ⟨Nat.zero_le _, Nat.zero_le _⟩ hl rfl rfl (Nat.le_of_ble_eq_true rfl) dX7_gone_49 [(x, .inr (7, [.ref tx, .ref tr, .ref tb, .ref nw, .ref sp, .ref pa, .ref im, .ref ik, .ref no, .ref pr, .ref sg, .int (iI xfa)])), (tr, .inr (6, [.ref tb, .ref nw, .ref cf])), (cf, .inl (D.2.1, 10, .inl (nA (cfOf (va_up (va_up (shN nlost tSC tTV nNF tcu) c (lz nlost c (seen tSC tTV nNF c (f : Int)))) c (lz nlost c (seen tSC tTV nNF c (-1)))))))), (tb, .inr (0, [.int (nI thd.toNat), .int (nI tlo), .int (iI ((te : Int) - 1)), .int (nI thn.toNat), .int (nI tcu), .ref tsc, .ref tfg, .ref ttv, .ref tpr])), (tsc, .inl (D.2.1, 4, .inl (nA tSC))), (ttv, .inl (D.2.1, 10, .inl (nA tTV))), (nw, .inr (4, [.ref nnf, .int (nI nlost), .int (nI ncost), .int (nI ndr)])), (nnf, .inl (D.2.1, 24, .inl (nA nNF)))] rfl (fun H locs hW => ?_)
      refine x_isub (v := iI (((cntTo (canS thn te (shN nlost tSC tTV nNF tcu)) tlo te : Nat) : Int) - ((cntTo (canS thn te (va_up (shN nlost tSC tTV nNF tcu) c (lz nlost c (seen tSC tTV nNF c (f : Int))))) tlo te : Nat) : Int))) hx dX7_gone_52 (iI_sub ((cntTo (canS thn te (shN nlost tSC tTV nNF tcu)) tlo te : Nat) : Int) ((cntTo (canS thn te (va_up (shN nlost tSC tTV nNF tcu) c (lz nlost c (seen tSC tTV nNF c (f : Int))))) tlo te : Nat) : Int)) ?_
      have e_4 : ∀ k, k < 10 → (cfOf (va_up (va_up (shN nlost tSC tTV nNF tcu) c (lz nlost c (seen tSC tTV nNF c (f : Int)))) c (lz nlost c (seen tSC tTV nNF c (-1))))) k = (cfOf (shN nlost tSC tTV nNF tcu)) k := by
        intro k hk
        exact shN_back hc k
      have hW : Wd X D A [(x, .inr (7, [.ref tx, .ref tr, .ref tb, .ref nw, .ref sp, .ref pa, .ref im, .ref ik, .ref no, .ref pr, .ref sg, .int (iI xfa)])), (tr, .inr (6, [.ref tb, .ref nw, .ref cf])), (cf, .inl (D.2.1, 10, .inl (nA (cfOf (shN nlost tSC tTV nNF tcu))))), (tb, .inr (0, [.int (nI thd.toNat), .int (nI tlo), .int (iI ((te : Int) - 1)), .int (nI thn.toNat), .int (nI tcu), .ref tsc, .ref tfg, .ref ttv, .ref tpr])), (tsc, .inl (D.2.1, 4, .inl (nA tSC))), (ttv, .inl (D.2.1, 10, .inl (nA tTV))), (nw, .inr (4, [.ref nnf, .int (nI nlost), .int (nI ncost), .int (nI ndr)])), (nnf, .inl (D.2.1, 24, .inl (nA nNF)))] _ _ := hW.row 2 rfl (fun j hj => congrArg (nI) (e_4 j hj)) rfl
      exact hret _ _ _ _ _ dX7_gone_53 (by rfl) hW
    · simp only [sideB, decide_eq_true_eq, decide_eq_false_iff_not, Int.toNat_natCast] at h_3
      omega
  · have hd_5 := of_decide_eq_false h_1
    omega
/-- the least over the first f sides of cube c, from (least, found) -/
def wrSt (q : Nat → Nat → Nat) (c : Nat) (s : Nat × Int) : Nat → Nat × Int
  | 0 => s
  | f + 1 => if q c f < (wrSt q c s f).1 then (q c f, ((10 * c + f : Nat) : Int)) else wrSt q c s f
def worstS (q : Nat → Nat → Nat) (lost : Nat) (SC : Nat → Nat) : Nat → Nat × Int
  | 0 => (101, -1)
  | c + 1 => if lost.testBit c then worstS q lost SC c else wrSt q c (worstS q lost SC c) (SC c)
set_option maxHeartbeats 4000000 in
set_option maxRecDepth 100000 in
theorem c_X7_wrong_no (l : Launch) (D : KD) (x : Nat) (tx : Nat) (tr : Nat) (tb : Nat) (nw : Nat) (sp : Nat) (pa : Nat) (im : Nat) (ik : Nat) (no : Nat) (pr : Nat) (sg : Nat) (xfa : Int) (thd : Bool) (tlo : Nat) (te : Nat) (thn : Bool) (tcu : Nat) (tsc : Nat) (tfg : Nat) (ttv : Nat) (tpr : Nat) (wn : Nat) (bn : Nat) (nwd : Nat) (nws : Nat) (nbk : Nat) (z : Int) (b : Bool) (hlo : tlo ≤ 99) (he : te ≤ 100) (hz : -2147483648 ≤ z ∧ z < 2147483648) (hw : wn ≤ 6) (hno : ¬ (((tlo : Int) ≤ z ∧ z < (te : Int)) ∧ wn < 6)) : cR l yX7_wrong cX7_wrong 3 (some .int) rm_X7_wrong D [(x, .inr (7, [.ref tx, .ref tr, .ref tb, .ref nw, .ref sp, .ref pa, .ref im, .ref ik, .ref no, .ref pr, .ref sg, .int (iI xfa)])), (tb, .inr (0, [.int (nI thd.toNat), .int (nI tlo), .int (iI ((te : Int) - 1)), .int (nI thn.toNat), .int (nI tcu), .ref tsc, .ref tfg, .ref ttv, .ref tpr])), (no, .inr (1, [.int (nI wn), .int (nI bn), .ref nwd, .ref nws, .ref nbk]))] [.ref x, .int (iI z), .int (nI b.toNat)] (iI (if (tlo : Int) ≤ z ∧ z < (te : Int) then -1000000004 else -1000000002)) := by
  refine cR.mk (by decide) (retI _) (Nat.le_of_ble_eq_true rfl) ?_
  intro X hx hL hP hret ls hl
  subst hL
  have hl : lv_has ls 3 [(0, .ref x), (1, .int (iI z)), (2, .int (nI b.toNat))] := hl
  refine x_aload_n hx dX7_wrong_0 hl 0 rfl ?_
  refine x_get7 hx hP 0 rfl 2 (Nat.le_of_ble_eq_true rfl) wf_RX7_27 rfl dX7_wrong_1 ?_
  refine x_iload_n hx dX7_wrong_4 hl 1 rfl ?_
  refine x_callRV (As := [.int (iI z)]) (rest := []) hx yv_X0_hasDay (c_X0_hasDay _ D tb thd tlo te thn tcu tsc tfg ttv tpr z (by first | assumption | omega | (simp [*]; done)) (by first | assumption | omega | (simp [*]; done)) (by first | assumption | omega | (simp [*]; done))) wm_RX7_195 hP [1] rfl 1 rfl rfl ⟨rfl, rfl⟩ ⟨Nat.le_of_ble_eq_true rfl, Nat.le_of_ble_eq_true rfl⟩ ⟨Nat.zero_le _, Nat.zero_le _⟩ hl rfl rfl (Nat.le_of_ble_eq_true rfl) dX7_wrong_5 ?_
  refine x_if_ne_B (tgt := 14) hx dX7_wrong_8 (by decide) (fun h_1 => ?_) (fun h_1 => ?_)
  · have hd_2 := of_decide_eq_true h_1
    refine x_aload_n hx dX7_wrong_14 hl 0 rfl ?_
    refine x_get7 hx hP 0 rfl 8 (Nat.le_of_ble_eq_true rfl) wf_RX7_63 rfl dX7_wrong_15 ?_
    refine x_get1 hx hP 2 rfl 0 (Nat.le_of_ble_eq_true rfl) wf_RX7_137 rfl dX7_wrong_18 ?_
    refine x_bipush (v := nI 6) hx dX7_wrong_21 (by decide) ?_
    refine x_icmp_lt_N (a := wn) (b := 6) (tgt := 29) hx dX7_wrong_23 (by decide) (by omega) (by omega) (fun h_3 => ?_) (fun h_3 => ?_)
    · omega
    · refine x_ldc (u := iI (-1000000004)) hx wk_RX7_88 (by decide) dX7_wrong_26 ?_
      exact hret _ _ _ dX7_wrong_28 (by congr 1; first | (rw [if_pos (by omega)]; done) | (rw [if_neg (by omega)]; done))
  · have hd_4 := of_decide_eq_false h_1
    refine x_ldc (u := iI (-1000000002)) hx wk_RX7_83 (by decide) dX7_wrong_11 ?_
    exact hret _ _ _ dX7_wrong_13 (by congr 1; first | (rw [if_pos (by omega)]; done) | (rw [if_neg (by omega)]; done))
set_option maxHeartbeats 4000000 in
set_option maxRecDepth 100000 in
theorem c_X7_wrong (l : Launch) (D : KD) (x : Nat) (tx : Nat) (tr : Nat) (tb : Nat) (nw : Nat) (sp : Nat) (pa : Nat) (im : Nat) (ik : Nat) (no : Nat) (pr : Nat) (sg : Nat) (xfa : Int) (thd : Bool) (tlo : Nat) (te : Nat) (thn : Bool) (tcu : Nat) (tsc : Nat) (tfg : Nat) (ttv : Nat) (tpr : Nat) (wn : Nat) (bn : Nat) (nwd : Nat) (nws : Nat) (nbk : Nat) (WD : Nat → Nat) (WS : Nat → Bool) (d : Nat) (b : Bool) (he : te ≤ 100) (hd1 : tlo ≤ d) (hd2 : d < te) (hw : wn < 6) : cM l yX7_wrong cX7_wrong 3 (some .int) rm_X7_wrong D [(x, .inr (7, [.ref tx, .ref tr, .ref tb, .ref nw, .ref sp, .ref pa, .ref im, .ref ik, .ref no, .ref pr, .ref sg, .int (iI xfa)])), (tb, .inr (0, [.int (nI thd.toNat), .int (nI tlo), .int (iI ((te : Int) - 1)), .int (nI thn.toNat), .int (nI tcu), .ref tsc, .ref tfg, .ref ttv, .ref tpr])), (no, .inr (1, [.int (nI wn), .int (nI bn), .ref nwd, .ref nws, .ref nbk])), (nwd, .inl (D.2.1, 6, .inl (nA WD))), (nws, .inl (D.2.2.1, 6, .inl (bA WS)))] [.ref x, .int (nI d), .int (nI b.toNat)] (nI (wn + 1)) [(x, .inr (7, [.ref tx, .ref tr, .ref tb, .ref nw, .ref sp, .ref pa, .ref im, .ref ik, .ref no, .ref pr, .ref sg, .int (iI xfa)])), (tb, .inr (0, [.int (nI thd.toNat), .int (nI tlo), .int (iI ((te : Int) - 1)), .int (nI thn.toNat), .int (nI tcu), .ref tsc, .ref tfg, .ref ttv, .ref tpr])), (no, .inr (1, [.int (nI (wn + 1)), .int (nI bn), .ref nwd, .ref nws, .ref nbk])), (nwd, .inl (D.2.1, 6, .inl (nA (va_up WD wn d)))), (nws, .inl (D.2.2.1, 6, .inl (bA (va_up WS wn b))))] := by
  refine cM.mk (by decide) (retI _) (Nat.le_of_ble_eq_true rfl) ?_
  intro X A hx hL hA hW hret ls hl
  subst hL
  have hl : lv_has ls 3 [(0, .ref x), (1, .int (nI d)), (2, .int (nI b.toNat))] := hl
  refine x_aload_n hx dX7_wrong_0 hl 0 rfl ?_
  refine x_get7 hx hW.1 0 rfl 2 (Nat.le_of_ble_eq_true rfl) wf_RX7_27 rfl dX7_wrong_1 ?_
  refine x_iload_n hx dX7_wrong_4 hl 1 rfl ?_
  refine x_callRV (As := [.int (nI d)]) (rest := []) hx yv_X0_hasDay (c_X0_hasDay _ D tb thd tlo te thn tcu tsc tfg ttv tpr (d : Int) (by first | assumption | omega | (simp [*]; done)) (by first | assumption | omega | (simp [*]; done)) (by first | assumption | omega | (simp [*]; done))) wm_RX7_195 hW.1 [1] rfl 1 rfl rfl ⟨rfl, rfl⟩ ⟨Nat.le_of_ble_eq_true rfl, Nat.le_of_ble_eq_true rfl⟩ ⟨Nat.zero_le _, Nat.zero_le _⟩ hl rfl rfl (Nat.le_of_ble_eq_true rfl) dX7_wrong_5 ?_
  refine x_if_ne_B (tgt := 14) hx dX7_wrong_8 (by decide) (fun h_1 => ?_) (fun h_1 => ?_)
  · have hd_2 := of_decide_eq_true h_1
    refine x_aload_n hx dX7_wrong_14 hl 0 rfl ?_
    refine x_get7 hx hW.1 0 rfl 8 (Nat.le_of_ble_eq_true rfl) wf_RX7_63 rfl dX7_wrong_15 ?_
    refine x_get1 hx hW.1 2 rfl 0 (Nat.le_of_ble_eq_true rfl) wf_RX7_137 rfl dX7_wrong_18 ?_
    refine x_bipush (v := nI 6) hx dX7_wrong_21 (by decide) ?_
    refine x_icmp_lt_N (a := wn) (b := 6) (tgt := 29) hx dX7_wrong_23 (by decide) (by omega) (by omega) (fun h_3 => ?_) (fun h_3 => ?_)
    · refine x_aload_n hx dX7_wrong_29 hl 0 rfl ?_
      refine x_get7 hx hW.1 0 rfl 8 (Nat.le_of_ble_eq_true rfl) wf_RX7_63 rfl dX7_wrong_30 ?_
      refine x_iload_n hx dX7_wrong_33 hl 1 rfl ?_
      refine x_iload_n hx dX7_wrong_34 hl 2 rfl ?_
      refine x_callVV (As := [.int (nI d), .int (nI b.toNat)]) (rest := []) (wr := [(x, .inr (7, [.ref tx, .ref tr, .ref tb, .ref nw, .ref sp, .ref pa, .ref im, .ref ik, .ref no, .ref pr, .ref sg, .int (iI xfa)])), (tb, .inr (0, [.int (nI thd.toNat), .int (nI tlo), .int (iI ((te : Int) - 1)), .int (nI thn.toNat), .int (nI tcu), .ref tsc, .ref tfg, .ref ttv, .ref tpr]))]) hx yv_X1_addWrong (c_X1_addWrong _ D no wn bn nwd nws nbk WD WS d b (by first | assumption | omega | (simp [*]; done))) wm_RX7_246 hA hW [2, 3, 4] [0, 1] rfl rfl rfl rfl rfl 2 rfl rfl ⟨rfl, rfl⟩ ⟨Nat.le_of_ble_eq_true rfl, Nat.le_of_ble_eq_true rfl⟩ ⟨Nat.zero_le _, Nat.zero_le _⟩ hl rfl rfl (Nat.le_of_ble_eq_true rfl) dX7_wrong_35 [(x, .inr (7, [.ref tx, .ref tr, .ref tb, .ref nw, .ref sp, .ref pa, .ref im, .ref ik, .ref no, .ref pr, .ref sg, .int (iI xfa)])), (tb, .inr (0, [.int (nI thd.toNat), .int (nI tlo), .int (iI ((te : Int) - 1)), .int (nI thn.toNat), .int (nI tcu), .ref tsc, .ref tfg, .ref ttv, .ref tpr])), (no, .inr (1, [.int (nI (wn + 1)), .int (nI bn), .ref nwd, .ref nws, .ref nbk])), (nwd, .inl (D.2.1, 6, .inl (nA (va_up WD wn d)))), (nws, .inl (D.2.2.1, 6, .inl (bA (va_up WS wn b))))] rfl (fun H locs hW => ?_)
      refine x_aload_n hx dX7_wrong_38 hl 0 rfl ?_
      refine x_get7 hx hW.1 0 rfl 8 (Nat.le_of_ble_eq_true rfl) wf_RX7_63 rfl dX7_wrong_39 ?_
      refine x_get1 hx hW.1 2 rfl 0 (Nat.le_of_ble_eq_true rfl) wf_RX7_137 rfl dX7_wrong_42 ?_
      exact hret _ _ _ _ _ dX7_wrong_45 (rfl) hW
    · omega
  · have hd_4 := of_decide_eq_false h_1
    omega
set_option maxHeartbeats 4000000 in
set_option maxRecDepth 100000 in
theorem c_X7_write_no (l : Launch) (D : KD) (x : Nat) (tx : Nat) (tr : Nat) (tb : Nat) (nw : Nat) (sp : Nat) (pa : Nat) (im : Nat) (ik : Nat) (no : Nat) (pr : Nat) (sg : Nat) (xfa : Int) (wn : Nat) (bn : Nat) (nwd : Nat) (nws : Nat) (nbk : Nat) (z : Int) (hz : -2147483648 ≤ z ∧ z < 2147483648) (hw : bn ≤ 15) (hno : ¬ ((0 ≤ z ∧ z ≤ 100) ∧ bn < 15)) : cR l yX7_write cX7_write 2 (some .int) rm_X7_write D [(x, .inr (7, [.ref tx, .ref tr, .ref tb, .ref nw, .ref sp, .ref pa, .ref im, .ref ik, .ref no, .ref pr, .ref sg, .int (iI xfa)])), (no, .inr (1, [.int (nI wn), .int (nI bn), .ref nwd, .ref nws, .ref nbk]))] [.ref x, .int (iI z)] (iI (if 0 ≤ z ∧ z ≤ 100 then -1000000004 else -1000000002)) := by
  refine cR.mk (by decide) (retI _) (Nat.le_of_ble_eq_true rfl) ?_
  intro X hx hL hP hret ls hl
  subst hL
  have hl : lv_has ls 2 [(0, .ref x), (1, .int (iI z))] := hl
  refine x_iload_n hx dX7_write_0 hl 1 rfl ?_
  refine x_if_lt_Z (a := z) (tgt := 10) hx dX7_write_1 (by decide) (by omega) (fun h_1 => ?_) (fun h_1 => ?_)
  · refine x_ldc (u := iI (-1000000002)) hx wk_RX7_83 (by decide) dX7_write_10 ?_
    exact hret _ _ _ dX7_write_12 (by congr 1; first | (rw [if_pos (by omega)]; done) | (rw [if_neg (by omega)]; done))
  · refine x_iload_n hx dX7_write_4 hl 1 rfl ?_
    refine x_bipush (v := nI 100) hx dX7_write_5 (by decide) ?_
    refine x_icmp_le_Z (a := z) (b := 100) (tgt := 13) hx dX7_write_7 (by decide) (by omega) (by omega) (fun h_2 => ?_) (fun h_2 => ?_)
    · refine x_aload_n hx dX7_write_13 hl 0 rfl ?_
      refine x_get7 hx hP 0 rfl 8 (Nat.le_of_ble_eq_true rfl) wf_RX7_63 rfl dX7_write_14 ?_
      refine x_get1 hx hP 1 rfl 1 (Nat.le_of_ble_eq_true rfl) wf_RX7_140 rfl dX7_write_17 ?_
      refine x_bipush (v := nI 15) hx dX7_write_20 (by decide) ?_
      refine x_icmp_lt_N (a := bn) (b := 15) (tgt := 28) hx dX7_write_22 (by decide) (by omega) (by omega) (fun h_3 => ?_) (fun h_3 => ?_)
      · omega
      · refine x_ldc (u := iI (-1000000004)) hx wk_RX7_88 (by decide) dX7_write_25 ?_
        exact hret _ _ _ dX7_write_27 (by congr 1; first | (rw [if_pos (by omega)]; done) | (rw [if_neg (by omega)]; done))
    · refine x_ldc (u := iI (-1000000002)) hx wk_RX7_83 (by decide) dX7_write_10 ?_
      exact hret _ _ _ dX7_write_12 (by congr 1; first | (rw [if_pos (by omega)]; done) | (rw [if_neg (by omega)]; done))
set_option maxHeartbeats 4000000 in
set_option maxRecDepth 100000 in
theorem c_X7_write (l : Launch) (D : KD) (x : Nat) (tx : Nat) (tr : Nat) (tb : Nat) (nw : Nat) (sp : Nat) (pa : Nat) (im : Nat) (ik : Nat) (no : Nat) (pr : Nat) (sg : Nat) (xfa : Int) (wn : Nat) (bn : Nat) (nwd : Nat) (nws : Nat) (nbk : Nat) (BK : Nat → Nat) (d : Nat) (hd : d ≤ 100) (hw : bn < 15) : cM l yX7_write cX7_write 2 (some .int) rm_X7_write D [(x, .inr (7, [.ref tx, .ref tr, .ref tb, .ref nw, .ref sp, .ref pa, .ref im, .ref ik, .ref no, .ref pr, .ref sg, .int (iI xfa)])), (no, .inr (1, [.int (nI wn), .int (nI bn), .ref nwd, .ref nws, .ref nbk])), (nbk, .inl (D.2.1, 15, .inl (nA BK)))] [.ref x, .int (nI d)] (nI (bn + 1)) [(x, .inr (7, [.ref tx, .ref tr, .ref tb, .ref nw, .ref sp, .ref pa, .ref im, .ref ik, .ref no, .ref pr, .ref sg, .int (iI xfa)])), (no, .inr (1, [.int (nI wn), .int (nI (bn + 1)), .ref nwd, .ref nws, .ref nbk])), (nbk, .inl (D.2.1, 15, .inl (nA (va_up BK bn d))))] := by
  refine cM.mk (by decide) (retI _) (Nat.le_of_ble_eq_true rfl) ?_
  intro X A hx hL hA hW hret ls hl
  subst hL
  have hl : lv_has ls 2 [(0, .ref x), (1, .int (nI d))] := hl
  refine x_iload_n hx dX7_write_0 hl 1 rfl ?_
  refine x_if_lt_N (a := d) (tgt := 10) hx dX7_write_1 (by decide) (by omega) (fun h_1 => ?_) (fun h_1 => ?_)
  · omega
  · refine x_iload_n hx dX7_write_4 hl 1 rfl ?_
    refine x_bipush (v := nI 100) hx dX7_write_5 (by decide) ?_
    refine x_icmp_le_N (a := d) (b := 100) (tgt := 13) hx dX7_write_7 (by decide) (by omega) (by omega) (fun h_2 => ?_) (fun h_2 => ?_)
    · refine x_aload_n hx dX7_write_13 hl 0 rfl ?_
      refine x_get7 hx hW.1 0 rfl 8 (Nat.le_of_ble_eq_true rfl) wf_RX7_63 rfl dX7_write_14 ?_
      refine x_get1 hx hW.1 1 rfl 1 (Nat.le_of_ble_eq_true rfl) wf_RX7_140 rfl dX7_write_17 ?_
      refine x_bipush (v := nI 15) hx dX7_write_20 (by decide) ?_
      refine x_icmp_lt_N (a := bn) (b := 15) (tgt := 28) hx dX7_write_22 (by decide) (by omega) (by omega) (fun h_3 => ?_) (fun h_3 => ?_)
      · refine x_aload_n hx dX7_write_28 hl 0 rfl ?_
        refine x_get7 hx hW.1 0 rfl 8 (Nat.le_of_ble_eq_true rfl) wf_RX7_63 rfl dX7_write_29 ?_
        refine x_iload_n hx dX7_write_32 hl 1 rfl ?_
        refine x_callVV (As := [.int (nI d)]) (rest := []) (wr := [(x, .inr (7, [.ref tx, .ref tr, .ref tb, .ref nw, .ref sp, .ref pa, .ref im, .ref ik, .ref no, .ref pr, .ref sg, .int (iI xfa)]))]) hx yv_X1_addEntry (c_X1_addEntry _ D no wn bn nwd nws nbk BK d (by first | assumption | omega | (simp [*]; done))) wm_RX7_281 hA hW [1, 2] [0] rfl rfl rfl rfl rfl 1 rfl rfl ⟨rfl, rfl⟩ ⟨Nat.le_of_ble_eq_true rfl, Nat.le_of_ble_eq_true rfl⟩ ⟨Nat.zero_le _, Nat.zero_le _⟩ hl rfl rfl (Nat.le_of_ble_eq_true rfl) dX7_write_33 [(x, .inr (7, [.ref tx, .ref tr, .ref tb, .ref nw, .ref sp, .ref pa, .ref im, .ref ik, .ref no, .ref pr, .ref sg, .int (iI xfa)])), (no, .inr (1, [.int (nI wn), .int (nI (bn + 1)), .ref nwd, .ref nws, .ref nbk])), (nbk, .inl (D.2.1, 15, .inl (nA (va_up BK bn d))))] rfl (fun H locs hW => ?_)
        refine x_aload_n hx dX7_write_36 hl 0 rfl ?_
        refine x_get7 hx hW.1 0 rfl 8 (Nat.le_of_ble_eq_true rfl) wf_RX7_63 rfl dX7_write_37 ?_
        refine x_get1 hx hW.1 1 rfl 1 (Nat.le_of_ble_eq_true rfl) wf_RX7_140 rfl dX7_write_40 ?_
        exact hret _ _ _ _ _ dX7_write_43 (rfl) hW
      · omega
    · omega
set_option maxHeartbeats 4000000 in
set_option maxRecDepth 100000 in
theorem c_X7_tear (l : Launch) (D : KD) (x : Nat) (tx : Nat) (tr : Nat) (tb : Nat) (nw : Nat) (sp : Nat) (pa : Nat) (im : Nat) (ik : Nat) (no : Nat) (pr : Nat) (sg : Nat) (xfa : Int) (wn : Nat) (bn : Nat) (nwd : Nat) (nws : Nat) (nbk : Nat)  : cM l yX7_tear cX7_tear 2 (some .int) rm_X7_tear D [(x, .inr (7, [.ref tx, .ref tr, .ref tb, .ref nw, .ref sp, .ref pa, .ref im, .ref ik, .ref no, .ref pr, .ref sg, .int (iI xfa)])), (no, .inr (1, [.int (nI wn), .int (nI bn), .ref nwd, .ref nws, .ref nbk]))] [.ref x] (nI (wn + bn)) [(x, .inr (7, [.ref tx, .ref tr, .ref tb, .ref nw, .ref sp, .ref pa, .ref im, .ref ik, .ref no, .ref pr, .ref sg, .int (iI xfa)])), (no, .inr (1, [.int (nI 0), .int (nI 0), .ref nwd, .ref nws, .ref nbk]))] := by
  refine cM.mk (by decide) (retI _) (Nat.le_of_ble_eq_true rfl) ?_
  intro X A hx hL hA hW hret ls hl
  subst hL
  have hl : lv_has ls 2 [(0, .ref x)] := hl
  refine x_aload_n hx dX7_tear_0 hl 0 rfl ?_
  refine x_get7 hx hW.1 0 rfl 8 (Nat.le_of_ble_eq_true rfl) wf_RX7_63 rfl dX7_tear_1 ?_
  refine x_get1 hx hW.1 1 rfl 0 (Nat.le_of_ble_eq_true rfl) wf_RX7_137 rfl dX7_tear_4 ?_
  refine x_aload_n hx dX7_tear_7 hl 0 rfl ?_
  refine x_get7 hx hW.1 0 rfl 8 (Nat.le_of_ble_eq_true rfl) wf_RX7_63 rfl dX7_tear_8 ?_
  refine x_get1 hx hW.1 1 rfl 1 (Nat.le_of_ble_eq_true rfl) wf_RX7_140 rfl dX7_tear_11 ?_
  refine x_iadd (v := nI (wn + bn)) hx dX7_tear_14 (nI_add _ _) ?_
  refine x_istore_n (lv' := [(1, .int (nI (wn + bn))), (0, .ref x)]) hx dX7_tear_15 hl (Nat.le_of_ble_eq_true rfl) rfl (fun ls hl => ?_)
  refine x_aload_n hx dX7_tear_16 hl 1 rfl ?_
  refine x_get7 hx hW.1 0 rfl 8 (Nat.le_of_ble_eq_true rfl) wf_RX7_63 rfl dX7_tear_17 ?_
  refine x_callVV (As := []) (rest := []) (wr := [(x, .inr (7, [.ref tx, .ref tr, .ref tb, .ref nw, .ref sp, .ref pa, .ref im, .ref ik, .ref no, .ref pr, .ref sg, .int (iI xfa)]))]) hx yv_X1_clear (c_X1_clear _ D no wn bn nwd nws nbk ) wm_RX7_111 hA hW [1] [0] rfl rfl rfl rfl rfl 1 rfl rfl ⟨rfl, rfl⟩ ⟨Nat.le_of_ble_eq_true rfl, Nat.le_of_ble_eq_true rfl⟩ ⟨Nat.zero_le _, Nat.zero_le _⟩ hl rfl rfl (Nat.le_of_ble_eq_true rfl) dX7_tear_20 [(x, .inr (7, [.ref tx, .ref tr, .ref tb, .ref nw, .ref sp, .ref pa, .ref im, .ref ik, .ref no, .ref pr, .ref sg, .int (iI xfa)])), (no, .inr (1, [.int (nI 0), .int (nI 0), .ref nwd, .ref nws, .ref nbk]))] rfl (fun H locs hW => ?_)
  refine x_iload_n hx dX7_tear_23 hl 0 rfl ?_
  exact hret _ _ _ _ _ dX7_tear_24 (rfl) hW
set_option maxHeartbeats 4000000 in
set_option maxRecDepth 100000 in
theorem c_X7_judge (l : Launch) (D : KD) (x : Nat) (tx : Nat) (tr : Nat) (tb : Nat) (nw : Nat) (sp : Nat) (pa : Nat) (im : Nat) (ik : Nat) (no : Nat) (pr : Nat) (sg : Nat) (xfa : Int) (cf : Nat) (CF : Nat → Nat) (thd : Bool) (tlo : Nat) (te : Nat) (thn : Bool) (tcu : Nat) (tsc : Nat) (tfg : Nat) (ttv : Nat) (tpr : Nat) (tSC : Nat → Nat) (tTV : Nat → Nat) (nnf : Nat) (nlost : Nat) (ncost : Nat) (ndr : Nat) (nNF : Nat → Nat) (wn : Nat) (bn : Nat) (nwd : Nat) (nws : Nat) (nbk : Nat) (BK : Nat → Nat) (htSC : ∀ k, k < 4 → tSC k < 7) (htTV : ∀ k, k < 10 → tTV k < 10) (hnNF : ∀ k, k < 24 → nNF k < 10) (hlo : nlost < 16) (hcu : tcu ≤ 4) (hle : tlo ≤ te) (he : te ≤ 100) (hBK : ∀ k, k < 15 → BK k < 101) (hw : bn ≤ 15) : cM l yX7_judge cX7_judge 1 (some .int) rm_X7_judge D [(x, .inr (7, [.ref tx, .ref tr, .ref tb, .ref nw, .ref sp, .ref pa, .ref im, .ref ik, .ref no, .ref pr, .ref sg, .int (iI xfa)])), (tr, .inr (6, [.ref tb, .ref nw, .ref cf])), (cf, .inl (D.2.1, 10, .inl (nA CF))), (tb, .inr (0, [.int (nI thd.toNat), .int (nI tlo), .int (iI ((te : Int) - 1)), .int (nI thn.toNat), .int (nI tcu), .ref tsc, .ref tfg, .ref ttv, .ref tpr])), (tsc, .inl (D.2.1, 4, .inl (nA tSC))), (ttv, .inl (D.2.1, 10, .inl (nA tTV))), (nw, .inr (4, [.ref nnf, .int (nI nlost), .int (nI ncost), .int (nI ndr)])), (nnf, .inl (D.2.1, 24, .inl (nA nNF))), (no, .inr (1, [.int (nI wn), .int (nI bn), .ref nwd, .ref nws, .ref nbk])), (nbk, .inl (D.2.1, 15, .inl (nA BK)))] [.ref x] (iI (firstNot BK (cntTo (canS thn te (shN nlost tSC tTV nNF tcu)) tlo te) 0 bn)) [(x, .inr (7, [.ref tx, .ref tr, .ref tb, .ref nw, .ref sp, .ref pa, .ref im, .ref ik, .ref no, .ref pr, .ref sg, .int (iI xfa)])), (tr, .inr (6, [.ref tb, .ref nw, .ref cf])), (cf, .inl (D.2.1, 10, .inl (nA (cfOf (shN nlost tSC tTV nNF tcu))))), (tb, .inr (0, [.int (nI thd.toNat), .int (nI tlo), .int (iI ((te : Int) - 1)), .int (nI thn.toNat), .int (nI tcu), .ref tsc, .ref tfg, .ref ttv, .ref tpr])), (tsc, .inl (D.2.1, 4, .inl (nA tSC))), (ttv, .inl (D.2.1, 10, .inl (nA tTV))), (nw, .inr (4, [.ref nnf, .int (nI nlost), .int (nI ncost), .int (nI ndr)])), (nnf, .inl (D.2.1, 24, .inl (nA nNF))), (no, .inr (1, [.int (nI wn), .int (nI bn), .ref nwd, .ref nws, .ref nbk])), (nbk, .inl (D.2.1, 15, .inl (nA BK)))] := by
  refine cM.mk (by decide) (retI _) (Nat.le_of_ble_eq_true rfl) ?_
  intro X A hx hL hA hW hret ls hl
  subst hL
  have hl : lv_has ls 1 [(0, .ref x)] := hl
  refine x_aload_n hx dX7_judge_0 hl 0 rfl ?_
  refine x_get7 hx hW.1 0 rfl 1 (Nat.le_of_ble_eq_true rfl) wf_RX7_19 rfl dX7_judge_1 ?_
  refine x_callVV (As := []) (rest := []) (wr := [(x, .inr (7, [.ref tx, .ref tr, .ref tb, .ref nw, .ref sp, .ref pa, .ref im, .ref ik, .ref no, .ref pr, .ref sg, .int (iI xfa)])), (no, .inr (1, [.int (nI wn), .int (nI bn), .ref nwd, .ref nws, .ref nbk])), (nbk, .inl (D.2.1, 15, .inl (nA BK)))]) hx yv_X6_begin (c_X6_begin _ D tr nw cf CF tb thd tlo te thn tcu tsc tfg ttv tpr tSC tTV nnf nlost ncost ndr nNF (by first | assumption | omega | (simp [*]; done)) (by first | assumption | omega | (simp [*]; done)) (by first | assumption | omega | (simp [*]; done)) (by first | assumption | omega | (simp [*]; done)) (by first | assumption | omega | (simp [*]; done))) wm_RX7_198 hA hW [1, 2, 3, 4, 5, 6, 7] [0, 8, 9] rfl rfl rfl rfl rfl 1 rfl rfl ⟨rfl, rfl⟩ ⟨Nat.le_of_ble_eq_true rfl, Nat.le_of_ble_eq_true rfl⟩ ⟨Nat.zero_le _, Nat.zero_le _⟩ hl rfl rfl (Nat.le_of_ble_eq_true rfl) dX7_judge_4 [(x, .inr (7, [.ref tx, .ref tr, .ref tb, .ref nw, .ref sp, .ref pa, .ref im, .ref ik, .ref no, .ref pr, .ref sg, .int (iI xfa)])), (no, .inr (1, [.int (nI wn), .int (nI bn), .ref nwd, .ref nws, .ref nbk])), (nbk, .inl (D.2.1, 15, .inl (nA BK))), (tr, .inr (6, [.ref tb, .ref nw, .ref cf])), (cf, .inl (D.2.1, 10, .inl (nA (cfOf (shN nlost tSC tTV nNF tcu))))), (tb, .inr (0, [.int (nI thd.toNat), .int (nI tlo), .int (iI ((te : Int) - 1)), .int (nI thn.toNat), .int (nI tcu), .ref tsc, .ref tfg, .ref ttv, .ref tpr])), (tsc, .inl (D.2.1, 4, .inl (nA tSC))), (ttv, .inl (D.2.1, 10, .inl (nA tTV))), (nw, .inr (4, [.ref nnf, .int (nI nlost), .int (nI ncost), .int (nI ndr)])), (nnf, .inl (D.2.1, 24, .inl (nA nNF)))] rfl (fun H locs hW => ?_)
  refine x_aload_n hx dX7_judge_7 hl 0 rfl ?_
  refine x_get7 hx hW.1 0 rfl 8 (Nat.le_of_ble_eq_true rfl) wf_RX7_63 rfl dX7_judge_8 ?_
  refine x_aload_n hx dX7_judge_11 hl 0 rfl ?_
  refine x_get7 hx hW.1 0 rfl 1 (Nat.le_of_ble_eq_true rfl) wf_RX7_19 rfl dX7_judge_12 ?_
  refine x_callRV (As := []) (rest := [.ref no]) hx yv_X6_countShown (c_X6_countShown _ D tr nw cf (shN nlost tSC tTV nNF tcu) tb thd tlo te thn tcu tsc tfg ttv tpr (by first | assumption | omega | (simp [*]; done)) (by first | assumption | omega | (simp [*]; done))) wm_RX7_206 hW.1 [3, 4, 5] rfl 3 rfl rfl ⟨rfl, rfl⟩ ⟨Nat.le_of_ble_eq_true rfl, Nat.le_of_ble_eq_true rfl⟩ ⟨Nat.zero_le _, Nat.zero_le _⟩ hl rfl rfl (Nat.le_of_ble_eq_true rfl) dX7_judge_15 ?_
  have hct := cntTo_le (canS thn te (shN nlost tSC tTV nNF tcu)) tlo te
  refine x_callRV (As := [.int (nI (cntTo (canS thn te (shN nlost tSC tTV nNF tcu)) tlo te))]) (rest := []) hx yv_X1_firstEntryNot (c_X1_firstEntryNot _ D no wn bn nwd nws nbk BK (cntTo (canS thn te (shN nlost tSC tTV nNF tcu)) tlo te) (by first | assumption | omega | (simp [*]; done)) (by first | assumption | omega | (simp [*]; done)) (by first | assumption | omega | (simp [*]; done))) wm_RX7_284 hW.1 [1, 2] rfl 1 rfl rfl ⟨rfl, rfl⟩ ⟨Nat.le_of_ble_eq_true rfl, Nat.le_of_ble_eq_true rfl⟩ ⟨Nat.zero_le _, Nat.zero_le _⟩ hl rfl rfl (Nat.le_of_ble_eq_true rfl) dX7_judge_18 ?_
  exact hret _ _ _ _ _ dX7_judge_21 (rfl) (hW.conv [0, 3, 4, 5, 6, 7, 8, 9, 1, 2] (w1 := [(x, .inr (7, [.ref tx, .ref tr, .ref tb, .ref nw, .ref sp, .ref pa, .ref im, .ref ik, .ref no, .ref pr, .ref sg, .int (iI xfa)])), (tr, .inr (6, [.ref tb, .ref nw, .ref cf])), (cf, .inl (D.2.1, 10, .inl (nA (cfOf (shN nlost tSC tTV nNF tcu))))), (tb, .inr (0, [.int (nI thd.toNat), .int (nI tlo), .int (iI ((te : Int) - 1)), .int (nI thn.toNat), .int (nI tcu), .ref tsc, .ref tfg, .ref ttv, .ref tpr])), (tsc, .inl (D.2.1, 4, .inl (nA tSC))), (ttv, .inl (D.2.1, 10, .inl (nA tTV))), (nw, .inr (4, [.ref nnf, .int (nI nlost), .int (nI ncost), .int (nI ndr)])), (nnf, .inl (D.2.1, 24, .inl (nA nNF))), (no, .inr (1, [.int (nI wn), .int (nI bn), .ref nwd, .ref nws, .ref nbk])), (nbk, .inl (D.2.1, 15, .inl (nA BK)))]) (w2 := [(x, .inr (7, [.ref tx, .ref tr, .ref tb, .ref nw, .ref sp, .ref pa, .ref im, .ref ik, .ref no, .ref pr, .ref sg, .int (iI xfa)])), (tr, .inr (6, [.ref tb, .ref nw, .ref cf])), (cf, .inl (D.2.1, 10, .inl (nA (cfOf (shN nlost tSC tTV nNF tcu))))), (tb, .inr (0, [.int (nI thd.toNat), .int (nI tlo), .int (iI ((te : Int) - 1)), .int (nI thn.toNat), .int (nI tcu), .ref tsc, .ref tfg, .ref ttv, .ref tpr])), (tsc, .inl (D.2.1, 4, .inl (nA tSC))), (ttv, .inl (D.2.1, 10, .inl (nA tTV))), (nw, .inr (4, [.ref nnf, .int (nI nlost), .int (nI ncost), .int (nI ndr)])), (nnf, .inl (D.2.1, 24, .inl (nA nNF))), (no, .inr (1, [.int (nI wn), .int (nI bn), .ref nwd, .ref nws, .ref nbk])), (nbk, .inl (D.2.1, 15, .inl (nA BK)))]) rfl rfl rfl)
set_option maxHeartbeats 4000000 in
set_option maxRecDepth 100000 in
theorem c_X7_seed_no (l : Launch) (D : KD) (x : Nat) (tx : Nat) (tr : Nat) (tb : Nat) (nw : Nat) (sp : Nat) (pa : Nat) (im : Nat) (ik : Nat) (no : Nat) (pr : Nat) (sg : Nat) (xfa : Int) (nnf : Nat) (nlost : Nat) (ncost : Nat) (ndr : Nat) (z : Int) (hz : -2147483648 ≤ z ∧ z < 2147483648) (hno : z < 0) : cR l yX7_seed cX7_seed 3 (some .int) rm_X7_seed D [(x, .inr (7, [.ref tx, .ref tr, .ref tb, .ref nw, .ref sp, .ref pa, .ref im, .ref ik, .ref no, .ref pr, .ref sg, .int (iI xfa)])), (nw, .inr (4, [.ref nnf, .int (nI nlost), .int (nI ncost), .int (nI ndr)]))] [.ref x, .int (iI z)] (iI (-1000000002)) := by
  refine cR.mk (by decide) (retI _) (Nat.le_of_ble_eq_true rfl) ?_
  intro X hx hL hP hret ls hl
  subst hL
  have hl : lv_has ls 3 [(0, .ref x), (1, .int (iI z))] := hl
  refine x_iload_n hx dX7_seed_0 hl 1 rfl ?_
  refine x_if_ge_Z (a := z) (tgt := 7) hx dX7_seed_1 (by decide) (by omega) (fun h_1 => ?_) (fun h_1 => ?_)
  · omega
  · refine x_ldc (u := iI (-1000000002)) hx wk_RX7_83 (by decide) dX7_seed_4 ?_
    exact hret _ _ _ dX7_seed_6 (rfl)
set_option maxHeartbeats 4000000 in
set_option maxRecDepth 100000 in
theorem c_X7_seed (l : Launch) (D : KD) (x : Nat) (tx : Nat) (tr : Nat) (tb : Nat) (nw : Nat) (sp : Nat) (pa : Nat) (im : Nat) (ik : Nat) (no : Nat) (pr : Nat) (sg : Nat) (xfa : Int) (nnf : Nat) (nlost : Nat) (ncost : Nat) (ndr : Nat) (v : Nat) (hv : v < 2147483648) : cM l yX7_seed cX7_seed 3 (some .int) rm_X7_seed D [(x, .inr (7, [.ref tx, .ref tr, .ref tb, .ref nw, .ref sp, .ref pa, .ref im, .ref ik, .ref no, .ref pr, .ref sg, .int (iI xfa)])), (nw, .inr (4, [.ref nnf, .int (nI nlost), .int (nI ncost), .int (nI ndr)]))] [.ref x, .int (nI v)] (nI ndr) [(x, .inr (7, [.ref tx, .ref tr, .ref tb, .ref nw, .ref sp, .ref pa, .ref im, .ref ik, .ref no, .ref pr, .ref sg, .int (iI xfa)])), (nw, .inr (4, [.ref nnf, .int (nI nlost), .int (nI ncost), .int (nI v)]))] := by
  refine cM.mk (by decide) (retI _) (Nat.le_of_ble_eq_true rfl) ?_
  intro X A hx hL hA hW hret ls hl
  subst hL
  have hl : lv_has ls 3 [(0, .ref x), (1, .int (nI v))] := hl
  refine x_iload_n hx dX7_seed_0 hl 1 rfl ?_
  refine x_if_ge_N (a := v) (tgt := 7) hx dX7_seed_1 (by decide) (by omega) (fun h_1 => ?_) (fun h_1 => ?_)
  · refine x_aload_n hx dX7_seed_7 hl 0 rfl ?_
    refine x_get7 hx hW.1 0 rfl 3 (Nat.le_of_ble_eq_true rfl) wf_RX7_34 rfl dX7_seed_8 ?_
    refine x_get4 hx hW.1 1 rfl 3 (Nat.le_of_ble_eq_true rfl) wf_RX7_287 rfl dX7_seed_11 ?_
    refine x_istore_n (lv' := [(2, .int (nI ndr)), (0, .ref x), (1, .int (nI v))]) hx dX7_seed_14 hl (Nat.le_of_ble_eq_true rfl) rfl (fun ls hl => ?_)
    refine x_aload_n hx dX7_seed_15 hl 1 rfl ?_
    refine x_get7 hx hW.1 0 rfl 3 (Nat.le_of_ble_eq_true rfl) wf_RX7_34 rfl dX7_seed_16 ?_
    refine x_iload_n hx dX7_seed_19 hl 2 rfl ?_
    refine x_put4 hx hW 1 rfl 3 (Nat.le_of_ble_eq_true rfl) wf_RX7_287 rfl rfl rfl (Nat.le_of_ble_eq_true rfl) dX7_seed_20 [(x, .inr (7, [.ref tx, .ref tr, .ref tb, .ref nw, .ref sp, .ref pa, .ref im, .ref ik, .ref no, .ref pr, .ref sg, .int (iI xfa)])), (nw, .inr (4, [.ref nnf, .int (nI nlost), .int (nI ncost), .int (nI v)]))] rfl (fun H locs hW => ?_)
    refine x_iload_n hx dX7_seed_23 hl 0 rfl ?_
    exact hret _ _ _ _ _ dX7_seed_24 (rfl) hW
  · omega
set_option maxHeartbeats 4000000 in
set_option maxRecDepth 100000 in
theorem c_X7_keep_no (l : Launch) (D : KD) (x : Nat) (tx : Nat) (tr : Nat) (tb : Nat) (nw : Nat) (sp : Nat) (pa : Nat) (im : Nat) (ik : Nat) (no : Nat) (pr : Nat) (sg : Nat) (xfa : Int) (z : Int) (hz : -2147483648 ≤ z ∧ z < 2147483648) (hno : ¬ (0 ≤ z ∧ z < 2)) : cR l yX7_keep cX7_keep 2 (some .int) rm_X7_keep D [(x, .inr (7, [.ref tx, .ref tr, .ref tb, .ref nw, .ref sp, .ref pa, .ref im, .ref ik, .ref no, .ref pr, .ref sg, .int (iI xfa)]))] [.ref x, .int (iI z)] (iI (-1000000001)) := by
  refine cR.mk (by decide) (retI _) (Nat.le_of_ble_eq_true rfl) ?_
  intro X hx hL hP hret ls hl
  subst hL
  have hl : lv_has ls 2 [(0, .ref x), (1, .int (iI z))] := hl
  refine x_iload_n hx dX7_keep_0 hl 1 rfl ?_
  refine x_if_lt_Z (a := z) (tgt := 9) hx dX7_keep_1 (by decide) (by omega) (fun h_1 => ?_) (fun h_1 => ?_)
  · refine x_ldc (u := iI (-1000000001)) hx wk_RX7_150 (by decide) dX7_keep_9 ?_
    exact hret _ _ _ dX7_keep_11 (rfl)
  · refine x_iload_n hx dX7_keep_4 hl 1 rfl ?_
    refine x_iconst (v := nI 2) hx dX7_keep_5 (by decide) ?_
    refine x_icmp_lt_Z (a := z) (b := 2) (tgt := 12) hx dX7_keep_6 (by decide) (by omega) (by omega) (fun h_2 => ?_) (fun h_2 => ?_)
    · omega
    · refine x_ldc (u := iI (-1000000001)) hx wk_RX7_150 (by decide) dX7_keep_9 ?_
      exact hret _ _ _ dX7_keep_11 (rfl)
set_option maxHeartbeats 4000000 in
set_option maxRecDepth 100000 in
theorem c_X7_keep (l : Launch) (D : KD) (x : Nat) (tx : Nat) (tr : Nat) (tb : Nat) (nw : Nat) (sp : Nat) (pa : Nat) (im : Nat) (ik : Nat) (no : Nat) (pr : Nat) (sg : Nat) (xfa : Int) (i0 : Nat) (i1 : Nat) (j0 : Nat) (j1 : Nat) (IL : Nat → Nat) (IC : Nat → Nat) (ID : Nat → Nat) (IF : Nat → Nat → Nat) (KP : Nat → Bool) (nnf : Nat) (nlost : Nat) (ncost : Nat) (ndr : Nat) (nNF : Nat → Nat) (pss : Nat) (psz : Nat) (pnx : Nat) (i : Nat) (hi : i < 2) : cM l yX7_keep cX7_keep 2 (some .int) rm_X7_keep D [(x, .inr (7, [.ref tx, .ref tr, .ref tb, .ref nw, .ref sp, .ref pa, .ref im, .ref ik, .ref no, .ref pr, .ref sg, .int (iI xfa)])), (im, .inl (D.2.2.2.2, 2, .inr (.inr (.inr (.inr (fun k => ([some i0, some i1] : List (Option Nat)).getD k none)))))), (ik, .inl (D.2.2.1, 2, .inl (bA KP))), (i0, .inr (4, [.ref j0, .int (nI (IL 0)), .int (nI (IC 0)), .int (nI (ID 0))])), (i1, .inr (4, [.ref j1, .int (nI (IL 1)), .int (nI (IC 1)), .int (nI (ID 1))])), (j0, .inl (D.2.1, 24, .inl (nA (IF 0)))), (j1, .inl (D.2.1, 24, .inl (nA (IF 1)))), (nw, .inr (4, [.ref nnf, .int (nI nlost), .int (nI ncost), .int (nI ndr)])), (nnf, .inl (D.2.1, 24, .inl (nA nNF))), (pa, .inr (3, [.int (nI psz), .int (nI pnx), .ref pss]))] [.ref x, .int (nI i)] (nI 1) [(x, .inr (7, [.ref tx, .ref tr, .ref tb, .ref nw, .ref sp, .ref pa, .ref im, .ref ik, .ref no, .ref pr, .ref sg, .int (iI xfa)])), (im, .inl (D.2.2.2.2, 2, .inr (.inr (.inr (.inr (fun k => ([some i0, some i1] : List (Option Nat)).getD k none)))))), (ik, .inl (D.2.2.1, 2, .inl (bA (va_up KP i true)))), (i0, .inr (4, [.ref j0, .int (nI ((va_up IL i nlost) 0)), .int (nI ((va_up IC i ncost) 0)), .int (nI ((va_up ID i ndr) 0))])), (i1, .inr (4, [.ref j1, .int (nI ((va_up IL i nlost) 1)), .int (nI ((va_up IC i ncost) 1)), .int (nI ((va_up ID i ndr) 1))])), (j0, .inl (D.2.1, 24, .inl (nA ((va_up IF i nNF) 0)))), (j1, .inl (D.2.1, 24, .inl (nA ((va_up IF i nNF) 1)))), (nw, .inr (4, [.ref nnf, .int (nI nlost), .int (nI ncost), .int (nI ndr)])), (nnf, .inl (D.2.1, 24, .inl (nA nNF))), (pa, .inr (3, [.int (nI 0), .int (nI pnx), .ref pss]))] := by
  refine cM.mk (by decide) (retI _) (Nat.le_of_ble_eq_true rfl) ?_
  intro X A hx hL hA hW hret ls hl
  subst hL
  have hl : lv_has ls 2 [(0, .ref x), (1, .int (nI i))] := hl
  rcases (show i = 0 ∨ i = 1 from by omega) with rfl | rfl
  · have hsplit : True := trivial
    refine x_iload_n hx dX7_keep_0 hl 1 rfl ?_
    refine x_if_lt_N (a := 0) (tgt := 9) hx dX7_keep_1 (by decide) (by omega) (fun h_1 => ?_) (fun h_1 => ?_)
    · omega
    · refine x_iload_n hx dX7_keep_4 hl 1 rfl ?_
      refine x_iconst (v := nI 2) hx dX7_keep_5 (by decide) ?_
      refine x_icmp_lt_N (a := 0) (b := 2) (tgt := 12) hx dX7_keep_6 (by decide) (by omega) (by omega) (fun h_2 => ?_) (fun h_2 => ?_)
      · refine x_aload_n hx dX7_keep_12 hl 0 rfl ?_
        refine x_get7 hx hW.1 0 rfl 6 (Nat.le_of_ble_eq_true rfl) wf_RX7_52 rfl dX7_keep_13 ?_
        refine x_iload_n hx dX7_keep_16 hl 1 rfl ?_
        have hj_17 : 0 < 2 := by decide
        refine x_aldq (b := i0) hx hW.1 1 rfl hj_17 (by decide) rfl dX7_keep_17 ?_
        refine x_aload_n hx dX7_keep_18 hl 0 rfl ?_
        refine x_get7 hx hW.1 0 rfl 3 (Nat.le_of_ble_eq_true rfl) wf_RX7_34 rfl dX7_keep_19 ?_
        refine x_callVV (As := [.ref nw]) (rest := []) (wr := [(x, .inr (7, [.ref tx, .ref tr, .ref tb, .ref nw, .ref sp, .ref pa, .ref im, .ref ik, .ref no, .ref pr, .ref sg, .int (iI xfa)])), (im, .inl (D.2.2.2.2, 2, .inr (.inr (.inr (.inr (fun k => ([some i0, some i1] : List (Option Nat)).getD k none)))))), (ik, .inl (D.2.2.1, 2, .inl (bA KP))), (i1, .inr (4, [.ref j1, .int (nI (IL 1)), .int (nI (IC 1)), .int (nI (ID 1))])), (j1, .inl (D.2.1, 24, .inl (nA (IF 1)))), (pa, .inr (3, [.int (nI psz), .int (nI pnx), .ref pss]))]) hx yv_X4_takeAll (c_X4_takeAll _ D i0 j0 (IL 0) (IC 0) (ID 0) (IF 0) nw nnf nlost ncost ndr nNF ) wm_RX7_290 hA hW [3, 5, 7, 8] [0, 1, 2, 4, 6, 9] rfl rfl rfl rfl rfl 3 rfl rfl ⟨rfl, rfl⟩ ⟨Nat.le_of_ble_eq_true rfl, Nat.le_of_ble_eq_true rfl⟩ ⟨Nat.zero_le _, Nat.zero_le _⟩ hl rfl rfl (Nat.le_of_ble_eq_true rfl) dX7_keep_22 [(x, .inr (7, [.ref tx, .ref tr, .ref tb, .ref nw, .ref sp, .ref pa, .ref im, .ref ik, .ref no, .ref pr, .ref sg, .int (iI xfa)])), (im, .inl (D.2.2.2.2, 2, .inr (.inr (.inr (.inr (fun k => ([some i0, some i1] : List (Option Nat)).getD k none)))))), (ik, .inl (D.2.2.1, 2, .inl (bA KP))), (i1, .inr (4, [.ref j1, .int (nI (IL 1)), .int (nI (IC 1)), .int (nI (ID 1))])), (j1, .inl (D.2.1, 24, .inl (nA (IF 1)))), (pa, .inr (3, [.int (nI psz), .int (nI pnx), .ref pss])), (i0, .inr (4, [.ref j0, .int (nI nlost), .int (nI ncost), .int (nI ndr)])), (j0, .inl (D.2.1, 24, .inl (nA nNF))), (nw, .inr (4, [.ref nnf, .int (nI nlost), .int (nI ncost), .int (nI ndr)])), (nnf, .inl (D.2.1, 24, .inl (nA nNF)))] rfl (fun H locs hW => ?_)
        refine x_aload_n hx dX7_keep_25 hl 0 rfl ?_
        refine x_get7 hx hW.1 0 rfl 7 (Nat.le_of_ble_eq_true rfl) wf_RX7_56 rfl dX7_keep_26 ?_
        refine x_iload_n hx dX7_keep_29 hl 1 rfl ?_
        refine x_iconst (v := nI 1) hx dX7_keep_30 (by decide) ?_
        have hj_31 : 0 < 2 := by omega
        refine x_zast hx hW 2 rfl hj_31 (by decide) (upd_bA _ _ true) dX7_keep_31 [(x, .inr (7, [.ref tx, .ref tr, .ref tb, .ref nw, .ref sp, .ref pa, .ref im, .ref ik, .ref no, .ref pr, .ref sg, .int (iI xfa)])), (im, .inl (D.2.2.2.2, 2, .inr (.inr (.inr (.inr (fun k => ([some i0, some i1] : List (Option Nat)).getD k none)))))), (ik, .inl (D.2.2.1, 2, .inl (bA (va_up KP 0 true)))), (i1, .inr (4, [.ref j1, .int (nI (IL 1)), .int (nI (IC 1)), .int (nI (ID 1))])), (j1, .inl (D.2.1, 24, .inl (nA (IF 1)))), (pa, .inr (3, [.int (nI psz), .int (nI pnx), .ref pss])), (i0, .inr (4, [.ref j0, .int (nI nlost), .int (nI ncost), .int (nI ndr)])), (j0, .inl (D.2.1, 24, .inl (nA nNF))), (nw, .inr (4, [.ref nnf, .int (nI nlost), .int (nI ncost), .int (nI ndr)])), (nnf, .inl (D.2.1, 24, .inl (nA nNF)))] rfl (fun H locs hW => ?_)
        refine x_aload_n hx dX7_keep_32 hl 0 rfl ?_
        refine x_get7 hx hW.1 0 rfl 5 (Nat.le_of_ble_eq_true rfl) wf_RX7_46 rfl dX7_keep_33 ?_
        refine x_callVV (As := []) (rest := []) (wr := [(x, .inr (7, [.ref tx, .ref tr, .ref tb, .ref nw, .ref sp, .ref pa, .ref im, .ref ik, .ref no, .ref pr, .ref sg, .int (iI xfa)])), (im, .inl (D.2.2.2.2, 2, .inr (.inr (.inr (.inr (fun k => ([some i0, some i1] : List (Option Nat)).getD k none)))))), (ik, .inl (D.2.2.1, 2, .inl (bA (va_up KP 0 true)))), (i1, .inr (4, [.ref j1, .int (nI (IL 1)), .int (nI (IC 1)), .int (nI (ID 1))])), (j1, .inl (D.2.1, 24, .inl (nA (IF 1)))), (i0, .inr (4, [.ref j0, .int (nI nlost), .int (nI ncost), .int (nI ndr)])), (j0, .inl (D.2.1, 24, .inl (nA nNF))), (nw, .inr (4, [.ref nnf, .int (nI nlost), .int (nI ncost), .int (nI ndr)])), (nnf, .inl (D.2.1, 24, .inl (nA nNF)))]) hx yv_X3_clear (c_X3_clear _ D pa pss psz pnx ) wm_RX7_108 hA hW [5] [0, 1, 2, 3, 4, 6, 7, 8, 9] rfl rfl rfl rfl rfl 5 rfl rfl ⟨rfl, rfl⟩ ⟨Nat.le_of_ble_eq_true rfl, Nat.le_of_ble_eq_true rfl⟩ ⟨Nat.zero_le _, Nat.zero_le _⟩ hl rfl rfl (Nat.le_of_ble_eq_true rfl) dX7_keep_36 [(x, .inr (7, [.ref tx, .ref tr, .ref tb, .ref nw, .ref sp, .ref pa, .ref im, .ref ik, .ref no, .ref pr, .ref sg, .int (iI xfa)])), (im, .inl (D.2.2.2.2, 2, .inr (.inr (.inr (.inr (fun k => ([some i0, some i1] : List (Option Nat)).getD k none)))))), (ik, .inl (D.2.2.1, 2, .inl (bA (va_up KP 0 true)))), (i1, .inr (4, [.ref j1, .int (nI (IL 1)), .int (nI (IC 1)), .int (nI (ID 1))])), (j1, .inl (D.2.1, 24, .inl (nA (IF 1)))), (i0, .inr (4, [.ref j0, .int (nI nlost), .int (nI ncost), .int (nI ndr)])), (j0, .inl (D.2.1, 24, .inl (nA nNF))), (nw, .inr (4, [.ref nnf, .int (nI nlost), .int (nI ncost), .int (nI ndr)])), (nnf, .inl (D.2.1, 24, .inl (nA nNF))), (pa, .inr (3, [.int (nI 0), .int (nI pnx), .ref pss]))] rfl (fun H locs hW => ?_)
        refine x_iconst (v := nI 1) hx dX7_keep_39 (by decide) ?_
        have hW : Wd X D A [(x, .inr (7, [.ref tx, .ref tr, .ref tb, .ref nw, .ref sp, .ref pa, .ref im, .ref ik, .ref no, .ref pr, .ref sg, .int (iI xfa)])), (im, .inl (D.2.2.2.2, 2, .inr (.inr (.inr (.inr (fun k => ([some i0, some i1] : List (Option Nat)).getD k none)))))), (ik, .inl (D.2.2.1, 2, .inl (bA (va_up KP 0 true)))), (i0, .inr (4, [.ref j0, .int (nI nlost), .int (nI ncost), .int (nI ndr)])), (i1, .inr (4, [.ref j1, .int (nI (IL 1)), .int (nI (IC 1)), .int (nI (ID 1))])), (j0, .inl (D.2.1, 24, .inl (nA nNF))), (j1, .inl (D.2.1, 24, .inl (nA (IF 1)))), (nw, .inr (4, [.ref nnf, .int (nI nlost), .int (nI ncost), .int (nI ndr)])), (nnf, .inl (D.2.1, 24, .inl (nA nNF))), (pa, .inr (3, [.int (nI 0), .int (nI pnx), .ref pss]))] _ _ := hW.conv [0, 1, 2, 5, 3, 6, 4, 7, 8, 9] rfl rfl rfl
        exact hret _ _ _ _ _ dX7_keep_40 (rfl) hW
      · omega
  · have hsplit : True := trivial
    refine x_iload_n hx dX7_keep_0 hl 1 rfl ?_
    refine x_if_lt_N (a := 1) (tgt := 9) hx dX7_keep_1 (by decide) (by omega) (fun h_3 => ?_) (fun h_3 => ?_)
    · omega
    · refine x_iload_n hx dX7_keep_4 hl 1 rfl ?_
      refine x_iconst (v := nI 2) hx dX7_keep_5 (by decide) ?_
      refine x_icmp_lt_N (a := 1) (b := 2) (tgt := 12) hx dX7_keep_6 (by decide) (by omega) (by omega) (fun h_4 => ?_) (fun h_4 => ?_)
      · refine x_aload_n hx dX7_keep_12 hl 0 rfl ?_
        refine x_get7 hx hW.1 0 rfl 6 (Nat.le_of_ble_eq_true rfl) wf_RX7_52 rfl dX7_keep_13 ?_
        refine x_iload_n hx dX7_keep_16 hl 1 rfl ?_
        have hj_17 : 1 < 2 := by decide
        refine x_aldq (b := i1) hx hW.1 1 rfl hj_17 (by decide) rfl dX7_keep_17 ?_
        refine x_aload_n hx dX7_keep_18 hl 0 rfl ?_
        refine x_get7 hx hW.1 0 rfl 3 (Nat.le_of_ble_eq_true rfl) wf_RX7_34 rfl dX7_keep_19 ?_
        refine x_callVV (As := [.ref nw]) (rest := []) (wr := [(x, .inr (7, [.ref tx, .ref tr, .ref tb, .ref nw, .ref sp, .ref pa, .ref im, .ref ik, .ref no, .ref pr, .ref sg, .int (iI xfa)])), (im, .inl (D.2.2.2.2, 2, .inr (.inr (.inr (.inr (fun k => ([some i0, some i1] : List (Option Nat)).getD k none)))))), (ik, .inl (D.2.2.1, 2, .inl (bA KP))), (i0, .inr (4, [.ref j0, .int (nI (IL 0)), .int (nI (IC 0)), .int (nI (ID 0))])), (j0, .inl (D.2.1, 24, .inl (nA (IF 0)))), (pa, .inr (3, [.int (nI psz), .int (nI pnx), .ref pss]))]) hx yv_X4_takeAll (c_X4_takeAll _ D i1 j1 (IL 1) (IC 1) (ID 1) (IF 1) nw nnf nlost ncost ndr nNF ) wm_RX7_290 hA hW [4, 6, 7, 8] [0, 1, 2, 3, 5, 9] rfl rfl rfl rfl rfl 4 rfl rfl ⟨rfl, rfl⟩ ⟨Nat.le_of_ble_eq_true rfl, Nat.le_of_ble_eq_true rfl⟩ ⟨Nat.zero_le _, Nat.zero_le _⟩ hl rfl rfl (Nat.le_of_ble_eq_true rfl) dX7_keep_22 [(x, .inr (7, [.ref tx, .ref tr, .ref tb, .ref nw, .ref sp, .ref pa, .ref im, .ref ik, .ref no, .ref pr, .ref sg, .int (iI xfa)])), (im, .inl (D.2.2.2.2, 2, .inr (.inr (.inr (.inr (fun k => ([some i0, some i1] : List (Option Nat)).getD k none)))))), (ik, .inl (D.2.2.1, 2, .inl (bA KP))), (i0, .inr (4, [.ref j0, .int (nI (IL 0)), .int (nI (IC 0)), .int (nI (ID 0))])), (j0, .inl (D.2.1, 24, .inl (nA (IF 0)))), (pa, .inr (3, [.int (nI psz), .int (nI pnx), .ref pss])), (i1, .inr (4, [.ref j1, .int (nI nlost), .int (nI ncost), .int (nI ndr)])), (j1, .inl (D.2.1, 24, .inl (nA nNF))), (nw, .inr (4, [.ref nnf, .int (nI nlost), .int (nI ncost), .int (nI ndr)])), (nnf, .inl (D.2.1, 24, .inl (nA nNF)))] rfl (fun H locs hW => ?_)
        refine x_aload_n hx dX7_keep_25 hl 0 rfl ?_
        refine x_get7 hx hW.1 0 rfl 7 (Nat.le_of_ble_eq_true rfl) wf_RX7_56 rfl dX7_keep_26 ?_
        refine x_iload_n hx dX7_keep_29 hl 1 rfl ?_
        refine x_iconst (v := nI 1) hx dX7_keep_30 (by decide) ?_
        have hj_31 : 1 < 2 := by omega
        refine x_zast hx hW 2 rfl hj_31 (by decide) (upd_bA _ _ true) dX7_keep_31 [(x, .inr (7, [.ref tx, .ref tr, .ref tb, .ref nw, .ref sp, .ref pa, .ref im, .ref ik, .ref no, .ref pr, .ref sg, .int (iI xfa)])), (im, .inl (D.2.2.2.2, 2, .inr (.inr (.inr (.inr (fun k => ([some i0, some i1] : List (Option Nat)).getD k none)))))), (ik, .inl (D.2.2.1, 2, .inl (bA (va_up KP 1 true)))), (i0, .inr (4, [.ref j0, .int (nI (IL 0)), .int (nI (IC 0)), .int (nI (ID 0))])), (j0, .inl (D.2.1, 24, .inl (nA (IF 0)))), (pa, .inr (3, [.int (nI psz), .int (nI pnx), .ref pss])), (i1, .inr (4, [.ref j1, .int (nI nlost), .int (nI ncost), .int (nI ndr)])), (j1, .inl (D.2.1, 24, .inl (nA nNF))), (nw, .inr (4, [.ref nnf, .int (nI nlost), .int (nI ncost), .int (nI ndr)])), (nnf, .inl (D.2.1, 24, .inl (nA nNF)))] rfl (fun H locs hW => ?_)
        refine x_aload_n hx dX7_keep_32 hl 0 rfl ?_
        refine x_get7 hx hW.1 0 rfl 5 (Nat.le_of_ble_eq_true rfl) wf_RX7_46 rfl dX7_keep_33 ?_
        refine x_callVV (As := []) (rest := []) (wr := [(x, .inr (7, [.ref tx, .ref tr, .ref tb, .ref nw, .ref sp, .ref pa, .ref im, .ref ik, .ref no, .ref pr, .ref sg, .int (iI xfa)])), (im, .inl (D.2.2.2.2, 2, .inr (.inr (.inr (.inr (fun k => ([some i0, some i1] : List (Option Nat)).getD k none)))))), (ik, .inl (D.2.2.1, 2, .inl (bA (va_up KP 1 true)))), (i0, .inr (4, [.ref j0, .int (nI (IL 0)), .int (nI (IC 0)), .int (nI (ID 0))])), (j0, .inl (D.2.1, 24, .inl (nA (IF 0)))), (i1, .inr (4, [.ref j1, .int (nI nlost), .int (nI ncost), .int (nI ndr)])), (j1, .inl (D.2.1, 24, .inl (nA nNF))), (nw, .inr (4, [.ref nnf, .int (nI nlost), .int (nI ncost), .int (nI ndr)])), (nnf, .inl (D.2.1, 24, .inl (nA nNF)))]) hx yv_X3_clear (c_X3_clear _ D pa pss psz pnx ) wm_RX7_108 hA hW [5] [0, 1, 2, 3, 4, 6, 7, 8, 9] rfl rfl rfl rfl rfl 5 rfl rfl ⟨rfl, rfl⟩ ⟨Nat.le_of_ble_eq_true rfl, Nat.le_of_ble_eq_true rfl⟩ ⟨Nat.zero_le _, Nat.zero_le _⟩ hl rfl rfl (Nat.le_of_ble_eq_true rfl) dX7_keep_36 [(x, .inr (7, [.ref tx, .ref tr, .ref tb, .ref nw, .ref sp, .ref pa, .ref im, .ref ik, .ref no, .ref pr, .ref sg, .int (iI xfa)])), (im, .inl (D.2.2.2.2, 2, .inr (.inr (.inr (.inr (fun k => ([some i0, some i1] : List (Option Nat)).getD k none)))))), (ik, .inl (D.2.2.1, 2, .inl (bA (va_up KP 1 true)))), (i0, .inr (4, [.ref j0, .int (nI (IL 0)), .int (nI (IC 0)), .int (nI (ID 0))])), (j0, .inl (D.2.1, 24, .inl (nA (IF 0)))), (i1, .inr (4, [.ref j1, .int (nI nlost), .int (nI ncost), .int (nI ndr)])), (j1, .inl (D.2.1, 24, .inl (nA nNF))), (nw, .inr (4, [.ref nnf, .int (nI nlost), .int (nI ncost), .int (nI ndr)])), (nnf, .inl (D.2.1, 24, .inl (nA nNF))), (pa, .inr (3, [.int (nI 0), .int (nI pnx), .ref pss]))] rfl (fun H locs hW => ?_)
        refine x_iconst (v := nI 1) hx dX7_keep_39 (by decide) ?_
        have hW : Wd X D A [(x, .inr (7, [.ref tx, .ref tr, .ref tb, .ref nw, .ref sp, .ref pa, .ref im, .ref ik, .ref no, .ref pr, .ref sg, .int (iI xfa)])), (im, .inl (D.2.2.2.2, 2, .inr (.inr (.inr (.inr (fun k => ([some i0, some i1] : List (Option Nat)).getD k none)))))), (ik, .inl (D.2.2.1, 2, .inl (bA (va_up KP 1 true)))), (i0, .inr (4, [.ref j0, .int (nI (IL 0)), .int (nI (IC 0)), .int (nI (ID 0))])), (i1, .inr (4, [.ref j1, .int (nI nlost), .int (nI ncost), .int (nI ndr)])), (j0, .inl (D.2.1, 24, .inl (nA (IF 0)))), (j1, .inl (D.2.1, 24, .inl (nA nNF))), (nw, .inr (4, [.ref nnf, .int (nI nlost), .int (nI ncost), .int (nI ndr)])), (nnf, .inl (D.2.1, 24, .inl (nA nNF))), (pa, .inr (3, [.int (nI 0), .int (nI pnx), .ref pss]))] _ _ := hW.conv [0, 1, 2, 3, 5, 4, 6, 7, 8, 9] rfl rfl rfl
        exact hret _ _ _ _ _ dX7_keep_40 (rfl) hW
      · omega
set_option maxHeartbeats 4000000 in
set_option maxRecDepth 100000 in
theorem c_X7_goBack_no (l : Launch) (D : KD) (x : Nat) (tx : Nat) (tr : Nat) (tb : Nat) (nw : Nat) (sp : Nat) (pa : Nat) (im : Nat) (ik : Nat) (no : Nat) (pr : Nat) (sg : Nat) (xfa : Int) (z : Int) (KP : Nat → Bool) (hz : -2147483648 ≤ z ∧ z < 2147483648) (hno : ¬ ((0 ≤ z ∧ z < 2) ∧ KP z.toNat = true)) : cR l yX7_goBack cX7_goBack 2 (some .int) rm_X7_goBack D [(x, .inr (7, [.ref tx, .ref tr, .ref tb, .ref nw, .ref sp, .ref pa, .ref im, .ref ik, .ref no, .ref pr, .ref sg, .int (iI xfa)])), (ik, .inl (D.2.2.1, 2, .inl (bA KP)))] [.ref x, .int (iI z)] (iI (if 0 ≤ z ∧ z < 2 then -1000000003 else -1000000001)) := by
  refine cR.mk (by decide) (retI _) (Nat.le_of_ble_eq_true rfl) ?_
  intro X hx hL hP hret ls hl
  subst hL
  have hl : lv_has ls 2 [(0, .ref x), (1, .int (iI z))] := hl
  refine x_iload_n hx dX7_goBack_0 hl 1 rfl ?_
  refine x_if_lt_Z (a := z) (tgt := 9) hx dX7_goBack_1 (by decide) (by omega) (fun h_1 => ?_) (fun h_1 => ?_)
  · refine x_ldc (u := iI (-1000000001)) hx wk_RX7_150 (by decide) dX7_goBack_9 ?_
    exact hret _ _ _ dX7_goBack_11 (by congr 1; first | (rw [if_pos (by omega)]; done) | (rw [if_neg (by omega)]; done))
  · refine x_iload_n hx dX7_goBack_4 hl 1 rfl ?_
    refine x_iconst (v := nI 2) hx dX7_goBack_5 (by decide) ?_
    refine x_icmp_lt_Z (a := z) (b := 2) (tgt := 12) hx dX7_goBack_6 (by decide) (by omega) (by omega) (fun h_2 => ?_) (fun h_2 => ?_)
    · obtain ⟨i, rfl⟩ := Int.eq_ofNat_of_zero_le (show 0 ≤ z from by omega)
      have hl : lv_has ls 2 [(0, .ref x), (1, .int (nI i))] := hl
      refine x_aload_n hx dX7_goBack_12 hl 0 rfl ?_
      refine x_get7 hx hP 0 rfl 7 (Nat.le_of_ble_eq_true rfl) wf_RX7_56 rfl dX7_goBack_13 ?_
      refine x_iload_n hx dX7_goBack_16 hl 1 rfl ?_
      have hj_17 : i < 2 := by omega
      refine x_zald (v := nI (KP i).toNat) hx hP 1 rfl hj_17 (by decide) (rfl) dX7_goBack_17 ?_
      refine x_if_ne_B (tgt := 24) hx dX7_goBack_18 (by decide) (fun h_3 => ?_) (fun h_3 => ?_)
      · exact absurd ⟨⟨by omega, by omega⟩, by simpa using h_3⟩ hno
      · refine x_ldc (u := iI (-1000000003)) hx wk_RX7_186 (by decide) dX7_goBack_21 ?_
        exact hret _ _ _ dX7_goBack_23 (by congr 1; first | (rw [if_pos (by omega)]; done) | (rw [if_neg (by omega)]; done))
    · refine x_ldc (u := iI (-1000000001)) hx wk_RX7_150 (by decide) dX7_goBack_9 ?_
      exact hret _ _ _ dX7_goBack_11 (by congr 1; first | (rw [if_pos (by omega)]; done) | (rw [if_neg (by omega)]; done))
set_option maxHeartbeats 4000000 in
set_option maxRecDepth 100000 in
theorem c_X7_goBack (l : Launch) (D : KD) (x : Nat) (tx : Nat) (tr : Nat) (tb : Nat) (nw : Nat) (sp : Nat) (pa : Nat) (im : Nat) (ik : Nat) (no : Nat) (pr : Nat) (sg : Nat) (xfa : Int) (i0 : Nat) (i1 : Nat) (j0 : Nat) (j1 : Nat) (IL : Nat → Nat) (IC : Nat → Nat) (ID : Nat → Nat) (IF : Nat → Nat → Nat) (KP : Nat → Bool) (nnf : Nat) (nlost : Nat) (ncost : Nat) (ndr : Nat) (nNF : Nat → Nat) (pss : Nat) (psz : Nat) (pnx : Nat) (i : Nat) (hi : i < 2) (hk : KP i = true) : cM l yX7_goBack cX7_goBack 2 (some .int) rm_X7_goBack D [(x, .inr (7, [.ref tx, .ref tr, .ref tb, .ref nw, .ref sp, .ref pa, .ref im, .ref ik, .ref no, .ref pr, .ref sg, .int (iI xfa)])), (im, .inl (D.2.2.2.2, 2, .inr (.inr (.inr (.inr (fun k => ([some i0, some i1] : List (Option Nat)).getD k none)))))), (ik, .inl (D.2.2.1, 2, .inl (bA KP))), (i0, .inr (4, [.ref j0, .int (nI (IL 0)), .int (nI (IC 0)), .int (nI (ID 0))])), (i1, .inr (4, [.ref j1, .int (nI (IL 1)), .int (nI (IC 1)), .int (nI (ID 1))])), (j0, .inl (D.2.1, 24, .inl (nA (IF 0)))), (j1, .inl (D.2.1, 24, .inl (nA (IF 1)))), (nw, .inr (4, [.ref nnf, .int (nI nlost), .int (nI ncost), .int (nI ndr)])), (nnf, .inl (D.2.1, 24, .inl (nA nNF))), (pa, .inr (3, [.int (nI psz), .int (nI pnx), .ref pss]))] [.ref x, .int (nI i)] (nI 1) [(x, .inr (7, [.ref tx, .ref tr, .ref tb, .ref nw, .ref sp, .ref pa, .ref im, .ref ik, .ref no, .ref pr, .ref sg, .int (iI xfa)])), (im, .inl (D.2.2.2.2, 2, .inr (.inr (.inr (.inr (fun k => ([some i0, some i1] : List (Option Nat)).getD k none)))))), (ik, .inl (D.2.2.1, 2, .inl (bA KP))), (i0, .inr (4, [.ref j0, .int (nI (IL 0)), .int (nI (IC 0)), .int (nI (ID 0))])), (i1, .inr (4, [.ref j1, .int (nI (IL 1)), .int (nI (IC 1)), .int (nI (ID 1))])), (j0, .inl (D.2.1, 24, .inl (nA (IF 0)))), (j1, .inl (D.2.1, 24, .inl (nA (IF 1)))), (nw, .inr (4, [.ref nnf, .int (nI (IL i)), .int (nI (IC i)), .int (nI (ID i))])), (nnf, .inl (D.2.1, 24, .inl (nA (IF i)))), (pa, .inr (3, [.int (nI 0), .int (nI pnx), .ref pss]))] := by
  refine cM.mk (by decide) (retI _) (Nat.le_of_ble_eq_true rfl) ?_
  intro X A hx hL hA hW hret ls hl
  subst hL
  have hl : lv_has ls 2 [(0, .ref x), (1, .int (nI i))] := hl
  rcases (show i = 0 ∨ i = 1 from by omega) with rfl | rfl
  · have hsplit : True := trivial
    refine x_iload_n hx dX7_goBack_0 hl 1 rfl ?_
    refine x_if_lt_N (a := 0) (tgt := 9) hx dX7_goBack_1 (by decide) (by omega) (fun h_1 => ?_) (fun h_1 => ?_)
    · omega
    · refine x_iload_n hx dX7_goBack_4 hl 1 rfl ?_
      refine x_iconst (v := nI 2) hx dX7_goBack_5 (by decide) ?_
      refine x_icmp_lt_N (a := 0) (b := 2) (tgt := 12) hx dX7_goBack_6 (by decide) (by omega) (by omega) (fun h_2 => ?_) (fun h_2 => ?_)
      · refine x_aload_n hx dX7_goBack_12 hl 0 rfl ?_
        refine x_get7 hx hW.1 0 rfl 7 (Nat.le_of_ble_eq_true rfl) wf_RX7_56 rfl dX7_goBack_13 ?_
        refine x_iload_n hx dX7_goBack_16 hl 1 rfl ?_
        have hj_17 : 0 < 2 := by decide
        refine x_zald (v := nI (KP 0).toNat) hx hW.1 2 rfl hj_17 (by decide) (rfl) dX7_goBack_17 ?_
        refine x_if_ne_B (tgt := 24) hx dX7_goBack_18 (by decide) (fun h_3 => ?_) (fun h_3 => ?_)
        · refine x_aload_n hx dX7_goBack_24 hl 0 rfl ?_
          refine x_get7 hx hW.1 0 rfl 3 (Nat.le_of_ble_eq_true rfl) wf_RX7_34 rfl dX7_goBack_25 ?_
          refine x_aload_n hx dX7_goBack_28 hl 0 rfl ?_
          refine x_get7 hx hW.1 0 rfl 6 (Nat.le_of_ble_eq_true rfl) wf_RX7_52 rfl dX7_goBack_29 ?_
          refine x_iload_n hx dX7_goBack_32 hl 1 rfl ?_
          have hj_33 : 0 < 2 := by decide
          refine x_aldq (b := i0) hx hW.1 1 rfl hj_33 (by decide) rfl dX7_goBack_33 ?_
          refine x_callVV (As := [.ref i0]) (rest := []) (wr := [(x, .inr (7, [.ref tx, .ref tr, .ref tb, .ref nw, .ref sp, .ref pa, .ref im, .ref ik, .ref no, .ref pr, .ref sg, .int (iI xfa)])), (im, .inl (D.2.2.2.2, 2, .inr (.inr (.inr (.inr (fun k => ([some i0, some i1] : List (Option Nat)).getD k none)))))), (ik, .inl (D.2.2.1, 2, .inl (bA KP))), (i1, .inr (4, [.ref j1, .int (nI (IL 1)), .int (nI (IC 1)), .int (nI (ID 1))])), (j1, .inl (D.2.1, 24, .inl (nA (IF 1)))), (pa, .inr (3, [.int (nI psz), .int (nI pnx), .ref pss]))]) hx yv_X4_takeAll (c_X4_takeAll _ D nw nnf nlost ncost ndr nNF i0 j0 (IL 0) (IC 0) (ID 0) (IF 0) ) wm_RX7_290 hA hW [7, 8, 3, 5] [0, 1, 2, 4, 6, 9] rfl rfl rfl rfl rfl 7 rfl rfl ⟨rfl, rfl⟩ ⟨Nat.le_of_ble_eq_true rfl, Nat.le_of_ble_eq_true rfl⟩ ⟨Nat.zero_le _, Nat.zero_le _⟩ hl rfl rfl (Nat.le_of_ble_eq_true rfl) dX7_goBack_34 [(x, .inr (7, [.ref tx, .ref tr, .ref tb, .ref nw, .ref sp, .ref pa, .ref im, .ref ik, .ref no, .ref pr, .ref sg, .int (iI xfa)])), (im, .inl (D.2.2.2.2, 2, .inr (.inr (.inr (.inr (fun k => ([some i0, some i1] : List (Option Nat)).getD k none)))))), (ik, .inl (D.2.2.1, 2, .inl (bA KP))), (i1, .inr (4, [.ref j1, .int (nI (IL 1)), .int (nI (IC 1)), .int (nI (ID 1))])), (j1, .inl (D.2.1, 24, .inl (nA (IF 1)))), (pa, .inr (3, [.int (nI psz), .int (nI pnx), .ref pss])), (nw, .inr (4, [.ref nnf, .int (nI (IL 0)), .int (nI (IC 0)), .int (nI (ID 0))])), (nnf, .inl (D.2.1, 24, .inl (nA (IF 0)))), (i0, .inr (4, [.ref j0, .int (nI (IL 0)), .int (nI (IC 0)), .int (nI (ID 0))])), (j0, .inl (D.2.1, 24, .inl (nA (IF 0))))] rfl (fun H locs hW => ?_)
          refine x_aload_n hx dX7_goBack_37 hl 0 rfl ?_
          refine x_get7 hx hW.1 0 rfl 5 (Nat.le_of_ble_eq_true rfl) wf_RX7_46 rfl dX7_goBack_38 ?_
          refine x_callVV (As := []) (rest := []) (wr := [(x, .inr (7, [.ref tx, .ref tr, .ref tb, .ref nw, .ref sp, .ref pa, .ref im, .ref ik, .ref no, .ref pr, .ref sg, .int (iI xfa)])), (im, .inl (D.2.2.2.2, 2, .inr (.inr (.inr (.inr (fun k => ([some i0, some i1] : List (Option Nat)).getD k none)))))), (ik, .inl (D.2.2.1, 2, .inl (bA KP))), (i1, .inr (4, [.ref j1, .int (nI (IL 1)), .int (nI (IC 1)), .int (nI (ID 1))])), (j1, .inl (D.2.1, 24, .inl (nA (IF 1)))), (nw, .inr (4, [.ref nnf, .int (nI (IL 0)), .int (nI (IC 0)), .int (nI (ID 0))])), (nnf, .inl (D.2.1, 24, .inl (nA (IF 0)))), (i0, .inr (4, [.ref j0, .int (nI (IL 0)), .int (nI (IC 0)), .int (nI (ID 0))])), (j0, .inl (D.2.1, 24, .inl (nA (IF 0))))]) hx yv_X3_clear (c_X3_clear _ D pa pss psz pnx ) wm_RX7_108 hA hW [5] [0, 1, 2, 3, 4, 6, 7, 8, 9] rfl rfl rfl rfl rfl 5 rfl rfl ⟨rfl, rfl⟩ ⟨Nat.le_of_ble_eq_true rfl, Nat.le_of_ble_eq_true rfl⟩ ⟨Nat.zero_le _, Nat.zero_le _⟩ hl rfl rfl (Nat.le_of_ble_eq_true rfl) dX7_goBack_41 [(x, .inr (7, [.ref tx, .ref tr, .ref tb, .ref nw, .ref sp, .ref pa, .ref im, .ref ik, .ref no, .ref pr, .ref sg, .int (iI xfa)])), (im, .inl (D.2.2.2.2, 2, .inr (.inr (.inr (.inr (fun k => ([some i0, some i1] : List (Option Nat)).getD k none)))))), (ik, .inl (D.2.2.1, 2, .inl (bA KP))), (i1, .inr (4, [.ref j1, .int (nI (IL 1)), .int (nI (IC 1)), .int (nI (ID 1))])), (j1, .inl (D.2.1, 24, .inl (nA (IF 1)))), (nw, .inr (4, [.ref nnf, .int (nI (IL 0)), .int (nI (IC 0)), .int (nI (ID 0))])), (nnf, .inl (D.2.1, 24, .inl (nA (IF 0)))), (i0, .inr (4, [.ref j0, .int (nI (IL 0)), .int (nI (IC 0)), .int (nI (ID 0))])), (j0, .inl (D.2.1, 24, .inl (nA (IF 0)))), (pa, .inr (3, [.int (nI 0), .int (nI pnx), .ref pss]))] rfl (fun H locs hW => ?_)
          refine x_iconst (v := nI 1) hx dX7_goBack_44 (by decide) ?_
          have hW : Wd X D A [(x, .inr (7, [.ref tx, .ref tr, .ref tb, .ref nw, .ref sp, .ref pa, .ref im, .ref ik, .ref no, .ref pr, .ref sg, .int (iI xfa)])), (im, .inl (D.2.2.2.2, 2, .inr (.inr (.inr (.inr (fun k => ([some i0, some i1] : List (Option Nat)).getD k none)))))), (ik, .inl (D.2.2.1, 2, .inl (bA KP))), (i0, .inr (4, [.ref j0, .int (nI (IL 0)), .int (nI (IC 0)), .int (nI (ID 0))])), (i1, .inr (4, [.ref j1, .int (nI (IL 1)), .int (nI (IC 1)), .int (nI (ID 1))])), (j0, .inl (D.2.1, 24, .inl (nA (IF 0)))), (j1, .inl (D.2.1, 24, .inl (nA (IF 1)))), (nw, .inr (4, [.ref nnf, .int (nI (IL 0)), .int (nI (IC 0)), .int (nI (ID 0))])), (nnf, .inl (D.2.1, 24, .inl (nA (IF 0)))), (pa, .inr (3, [.int (nI 0), .int (nI pnx), .ref pss]))] _ _ := hW.conv [0, 1, 2, 7, 3, 8, 4, 5, 6, 9] rfl rfl rfl
          exact hret _ _ _ _ _ dX7_goBack_45 (rfl) hW
        · simp_all
      · omega
  · have hsplit : True := trivial
    refine x_iload_n hx dX7_goBack_0 hl 1 rfl ?_
    refine x_if_lt_N (a := 1) (tgt := 9) hx dX7_goBack_1 (by decide) (by omega) (fun h_4 => ?_) (fun h_4 => ?_)
    · omega
    · refine x_iload_n hx dX7_goBack_4 hl 1 rfl ?_
      refine x_iconst (v := nI 2) hx dX7_goBack_5 (by decide) ?_
      refine x_icmp_lt_N (a := 1) (b := 2) (tgt := 12) hx dX7_goBack_6 (by decide) (by omega) (by omega) (fun h_5 => ?_) (fun h_5 => ?_)
      · refine x_aload_n hx dX7_goBack_12 hl 0 rfl ?_
        refine x_get7 hx hW.1 0 rfl 7 (Nat.le_of_ble_eq_true rfl) wf_RX7_56 rfl dX7_goBack_13 ?_
        refine x_iload_n hx dX7_goBack_16 hl 1 rfl ?_
        have hj_17 : 1 < 2 := by decide
        refine x_zald (v := nI (KP 1).toNat) hx hW.1 2 rfl hj_17 (by decide) (rfl) dX7_goBack_17 ?_
        refine x_if_ne_B (tgt := 24) hx dX7_goBack_18 (by decide) (fun h_6 => ?_) (fun h_6 => ?_)
        · refine x_aload_n hx dX7_goBack_24 hl 0 rfl ?_
          refine x_get7 hx hW.1 0 rfl 3 (Nat.le_of_ble_eq_true rfl) wf_RX7_34 rfl dX7_goBack_25 ?_
          refine x_aload_n hx dX7_goBack_28 hl 0 rfl ?_
          refine x_get7 hx hW.1 0 rfl 6 (Nat.le_of_ble_eq_true rfl) wf_RX7_52 rfl dX7_goBack_29 ?_
          refine x_iload_n hx dX7_goBack_32 hl 1 rfl ?_
          have hj_33 : 1 < 2 := by decide
          refine x_aldq (b := i1) hx hW.1 1 rfl hj_33 (by decide) rfl dX7_goBack_33 ?_
          refine x_callVV (As := [.ref i1]) (rest := []) (wr := [(x, .inr (7, [.ref tx, .ref tr, .ref tb, .ref nw, .ref sp, .ref pa, .ref im, .ref ik, .ref no, .ref pr, .ref sg, .int (iI xfa)])), (im, .inl (D.2.2.2.2, 2, .inr (.inr (.inr (.inr (fun k => ([some i0, some i1] : List (Option Nat)).getD k none)))))), (ik, .inl (D.2.2.1, 2, .inl (bA KP))), (i0, .inr (4, [.ref j0, .int (nI (IL 0)), .int (nI (IC 0)), .int (nI (ID 0))])), (j0, .inl (D.2.1, 24, .inl (nA (IF 0)))), (pa, .inr (3, [.int (nI psz), .int (nI pnx), .ref pss]))]) hx yv_X4_takeAll (c_X4_takeAll _ D nw nnf nlost ncost ndr nNF i1 j1 (IL 1) (IC 1) (ID 1) (IF 1) ) wm_RX7_290 hA hW [7, 8, 4, 6] [0, 1, 2, 3, 5, 9] rfl rfl rfl rfl rfl 7 rfl rfl ⟨rfl, rfl⟩ ⟨Nat.le_of_ble_eq_true rfl, Nat.le_of_ble_eq_true rfl⟩ ⟨Nat.zero_le _, Nat.zero_le _⟩ hl rfl rfl (Nat.le_of_ble_eq_true rfl) dX7_goBack_34 [(x, .inr (7, [.ref tx, .ref tr, .ref tb, .ref nw, .ref sp, .ref pa, .ref im, .ref ik, .ref no, .ref pr, .ref sg, .int (iI xfa)])), (im, .inl (D.2.2.2.2, 2, .inr (.inr (.inr (.inr (fun k => ([some i0, some i1] : List (Option Nat)).getD k none)))))), (ik, .inl (D.2.2.1, 2, .inl (bA KP))), (i0, .inr (4, [.ref j0, .int (nI (IL 0)), .int (nI (IC 0)), .int (nI (ID 0))])), (j0, .inl (D.2.1, 24, .inl (nA (IF 0)))), (pa, .inr (3, [.int (nI psz), .int (nI pnx), .ref pss])), (nw, .inr (4, [.ref nnf, .int (nI (IL 1)), .int (nI (IC 1)), .int (nI (ID 1))])), (nnf, .inl (D.2.1, 24, .inl (nA (IF 1)))), (i1, .inr (4, [.ref j1, .int (nI (IL 1)), .int (nI (IC 1)), .int (nI (ID 1))])), (j1, .inl (D.2.1, 24, .inl (nA (IF 1))))] rfl (fun H locs hW => ?_)
          refine x_aload_n hx dX7_goBack_37 hl 0 rfl ?_
          refine x_get7 hx hW.1 0 rfl 5 (Nat.le_of_ble_eq_true rfl) wf_RX7_46 rfl dX7_goBack_38 ?_
          refine x_callVV (As := []) (rest := []) (wr := [(x, .inr (7, [.ref tx, .ref tr, .ref tb, .ref nw, .ref sp, .ref pa, .ref im, .ref ik, .ref no, .ref pr, .ref sg, .int (iI xfa)])), (im, .inl (D.2.2.2.2, 2, .inr (.inr (.inr (.inr (fun k => ([some i0, some i1] : List (Option Nat)).getD k none)))))), (ik, .inl (D.2.2.1, 2, .inl (bA KP))), (i0, .inr (4, [.ref j0, .int (nI (IL 0)), .int (nI (IC 0)), .int (nI (ID 0))])), (j0, .inl (D.2.1, 24, .inl (nA (IF 0)))), (nw, .inr (4, [.ref nnf, .int (nI (IL 1)), .int (nI (IC 1)), .int (nI (ID 1))])), (nnf, .inl (D.2.1, 24, .inl (nA (IF 1)))), (i1, .inr (4, [.ref j1, .int (nI (IL 1)), .int (nI (IC 1)), .int (nI (ID 1))])), (j1, .inl (D.2.1, 24, .inl (nA (IF 1))))]) hx yv_X3_clear (c_X3_clear _ D pa pss psz pnx ) wm_RX7_108 hA hW [5] [0, 1, 2, 3, 4, 6, 7, 8, 9] rfl rfl rfl rfl rfl 5 rfl rfl ⟨rfl, rfl⟩ ⟨Nat.le_of_ble_eq_true rfl, Nat.le_of_ble_eq_true rfl⟩ ⟨Nat.zero_le _, Nat.zero_le _⟩ hl rfl rfl (Nat.le_of_ble_eq_true rfl) dX7_goBack_41 [(x, .inr (7, [.ref tx, .ref tr, .ref tb, .ref nw, .ref sp, .ref pa, .ref im, .ref ik, .ref no, .ref pr, .ref sg, .int (iI xfa)])), (im, .inl (D.2.2.2.2, 2, .inr (.inr (.inr (.inr (fun k => ([some i0, some i1] : List (Option Nat)).getD k none)))))), (ik, .inl (D.2.2.1, 2, .inl (bA KP))), (i0, .inr (4, [.ref j0, .int (nI (IL 0)), .int (nI (IC 0)), .int (nI (ID 0))])), (j0, .inl (D.2.1, 24, .inl (nA (IF 0)))), (nw, .inr (4, [.ref nnf, .int (nI (IL 1)), .int (nI (IC 1)), .int (nI (ID 1))])), (nnf, .inl (D.2.1, 24, .inl (nA (IF 1)))), (i1, .inr (4, [.ref j1, .int (nI (IL 1)), .int (nI (IC 1)), .int (nI (ID 1))])), (j1, .inl (D.2.1, 24, .inl (nA (IF 1)))), (pa, .inr (3, [.int (nI 0), .int (nI pnx), .ref pss]))] rfl (fun H locs hW => ?_)
          refine x_iconst (v := nI 1) hx dX7_goBack_44 (by decide) ?_
          have hW : Wd X D A [(x, .inr (7, [.ref tx, .ref tr, .ref tb, .ref nw, .ref sp, .ref pa, .ref im, .ref ik, .ref no, .ref pr, .ref sg, .int (iI xfa)])), (im, .inl (D.2.2.2.2, 2, .inr (.inr (.inr (.inr (fun k => ([some i0, some i1] : List (Option Nat)).getD k none)))))), (ik, .inl (D.2.2.1, 2, .inl (bA KP))), (i0, .inr (4, [.ref j0, .int (nI (IL 0)), .int (nI (IC 0)), .int (nI (ID 0))])), (i1, .inr (4, [.ref j1, .int (nI (IL 1)), .int (nI (IC 1)), .int (nI (ID 1))])), (j0, .inl (D.2.1, 24, .inl (nA (IF 0)))), (j1, .inl (D.2.1, 24, .inl (nA (IF 1)))), (nw, .inr (4, [.ref nnf, .int (nI (IL 1)), .int (nI (IC 1)), .int (nI (ID 1))])), (nnf, .inl (D.2.1, 24, .inl (nA (IF 1)))), (pa, .inr (3, [.int (nI 0), .int (nI pnx), .ref pss]))] _ _ := hW.conv [0, 1, 2, 3, 7, 4, 8, 5, 6, 9] rfl rfl rfl
          exact hret _ _ _ _ _ dX7_goBack_45 (rfl) hW
        · simp_all
      · omega
set_option maxHeartbeats 4000000 in
set_option maxRecDepth 100000 in
theorem c_X7_search_no (l : Launch) (D : KD) (x : Nat) (tx : Nat) (tr : Nat) (tb : Nat) (nw : Nat) (sp : Nat) (pa : Nat) (im : Nat) (ik : Nat) (no : Nat) (pr : Nat) (sg : Nat) (xfa : Int) (z : Int) (w : Int) (hz : -2147483648 ≤ z ∧ z < 2147483648) (hw : -2147483648 ≤ w ∧ w < 2147483648) (hno : ¬ ((1 ≤ z ∧ z ≤ 6) ∧ 0 ≤ w ∧ w ≤ 1)) : cR l yX7_search cX7_search 3 (some .int) rm_X7_search D [(x, .inr (7, [.ref tx, .ref tr, .ref tb, .ref nw, .ref sp, .ref pa, .ref im, .ref ik, .ref no, .ref pr, .ref sg, .int (iI xfa)]))] [.ref x, .int (iI z), .int (iI w)] (iI (-1000000002)) := by
  refine cR.mk (by decide) (retI _) (Nat.le_of_ble_eq_true rfl) ?_
  intro X hx hL hP hret ls hl
  subst hL
  have hl : lv_has ls 3 [(0, .ref x), (1, .int (iI z)), (2, .int (iI w))] := hl
  refine x_iload_n hx dX7_search_0 hl 1 rfl ?_
  refine x_iconst (v := nI 1) hx dX7_search_1 (by decide) ?_
  refine x_icmp_lt_Z (a := z) (b := 1) (tgt := 20) hx dX7_search_2 (by decide) (by omega) (by omega) (fun h_1 => ?_) (fun h_1 => ?_)
  · refine x_ldc (u := iI (-1000000002)) hx wk_RX7_83 (by decide) dX7_search_20 ?_
    exact hret _ _ _ dX7_search_22 (rfl)
  · refine x_iload_n hx dX7_search_5 hl 1 rfl ?_
    refine x_bipush (v := nI 6) hx dX7_search_6 (by decide) ?_
    refine x_icmp_gt_Z (a := z) (b := 6) (tgt := 20) hx dX7_search_8 (by decide) (by omega) (by omega) (fun h_2 => ?_) (fun h_2 => ?_)
    · refine x_ldc (u := iI (-1000000002)) hx wk_RX7_83 (by decide) dX7_search_20 ?_
      exact hret _ _ _ dX7_search_22 (rfl)
    · refine x_iload_n hx dX7_search_11 hl 2 rfl ?_
      refine x_if_lt_Z (a := w) (tgt := 20) hx dX7_search_12 (by decide) (by omega) (fun h_3 => ?_) (fun h_3 => ?_)
      · refine x_ldc (u := iI (-1000000002)) hx wk_RX7_83 (by decide) dX7_search_20 ?_
        exact hret _ _ _ dX7_search_22 (rfl)
      · refine x_iload_n hx dX7_search_15 hl 2 rfl ?_
        refine x_iconst (v := nI 1) hx dX7_search_16 (by decide) ?_
        refine x_icmp_le_Z (a := w) (b := 1) (tgt := 23) hx dX7_search_17 (by decide) (by omega) (by omega) (fun h_4 => ?_) (fun h_4 => ?_)
        · omega
        · refine x_ldc (u := iI (-1000000002)) hx wk_RX7_83 (by decide) dX7_search_20 ?_
          exact hret _ _ _ dX7_search_22 (rfl)
set_option maxHeartbeats 4000000 in
set_option maxRecDepth 100000 in
theorem c_X7_search (l : Launch) (D : KD) (x : Nat) (tx : Nat) (tr : Nat) (tb : Nat) (nw : Nat) (sp : Nat) (pa : Nat) (im : Nat) (ik : Nat) (no : Nat) (pr : Nat) (sg : Nat) (xfa : Int) (pwy : Nat) (pfp : Nat) (pmd : Nat) (pik : Nat) (psg : Nat) (ptw : Nat) (pdb : Nat) (pad : Nat) (pal : Nat) (pah : Nat) (pst : Nat) (ic : Bool) (sn : Nat) (WY : Nat → Nat) (FP : Nat → Int) (MD : Nat → Nat) (IK : Nat → Bool) (SI : Nat → Nat) (TW : Nat → Nat) (DB : Nat → Nat) (AD : Nat → Nat) (AL : Nat → Nat) (AH : Nat → Nat) (ST : Nat → Nat) (thd : Bool) (tlo : Nat) (te : Nat) (thn : Bool) (tcu : Nat) (tsc : Nat) (tfg : Nat) (ttv : Nat) (tpr : Nat) (tTV : Nat → Nat) (n : Nat) (w : Int) (htTV : ∀ k, k < 10 → tTV k < 10) (hle : tlo ≤ te) (he : te ≤ 100) (hal : AL 0 = 0) (hah : AH 0 = 0) (hic : ic = true → SI = sgD tTV thn te tlo te ∧ TW = twD tTV thn te tlo te ∧ DB = dblF (sgD tTV thn te tlo te) (twD tTV thn te tlo te)) (hik : IK n = true → WY n = (pairsP tTV thn tlo te n).1 ∧ FP n = (pairsP tTV thn tlo te n).2.1 ∧ MD n = (pairsP tTV thn tlo te n).2.2) (hn1 : 1 ≤ n) (hn : n ≤ 6) (hw : 0 ≤ w ∧ w ≤ 1) : cM l yX7_search cX7_search 3 (some .int) rm_X7_search D [(x, .inr (7, [.ref tx, .ref tr, .ref tb, .ref nw, .ref sp, .ref pa, .ref im, .ref ik, .ref no, .ref pr, .ref sg, .int (iI xfa)])), (pr, .inr (2, [.ref pwy, .ref pfp, .ref pmd, .ref pik, .int (nI ic.toNat), .ref psg, .ref ptw, .ref pdb, .ref pad, .ref pal, .ref pah, .ref pst, .int (nI sn)])), (pwy, .inl (D.2.1, 7, .inl (nA WY))), (pfp, .inl (D.2.1, 7, .inl (zA FP))), (pmd, .inl (D.2.1, 7, .inl (nA MD))), (pik, .inl (D.2.2.1, 7, .inl (bA IK))), (psg, .inl (D.2.1, 10, .inl (nA SI))), (ptw, .inl (D.2.1, 100, .inl (nA TW))), (pdb, .inl (D.2.1, 1024, .inl (nA DB))), (pad, .inl (D.2.1, 10, .inl (nA AD))), (pal, .inl (D.2.1, 32, .inl (nA AL))), (pah, .inl (D.2.1, 32, .inl (nA AH))), (pst, .inl (D.2.1, 252, .inl (nA ST))), (tb, .inr (0, [.int (nI thd.toNat), .int (nI tlo), .int (iI ((te : Int) - 1)), .int (nI thn.toNat), .int (nI tcu), .ref tsc, .ref tfg, .ref ttv, .ref tpr])), (ttv, .inl (D.2.1, 10, .inl (nA tTV)))] [.ref x, .int (nI n), .int (iI w)] (iI (if w = 0 then ((pairsP tTV thn tlo te n).1 : Int) else (pairsP tTV thn tlo te n).2.1)) [(x, .inr (7, [.ref tx, .ref tr, .ref tb, .ref nw, .ref sp, .ref pa, .ref im, .ref ik, .ref no, .ref pr, .ref sg, .int (iI xfa)])), (pr, .inr (2, [.ref pwy, .ref pfp, .ref pmd, .ref pik, .int (nI true.toNat), .ref psg, .ref ptw, .ref pdb, .ref pad, .ref pal, .ref pah, .ref pst, .int (nI (if IK n then sn else cntN (isSet tTV n) 1024))])), (pwy, .inl (D.2.1, 7, .inl (nA (va_up WY n (pairsP tTV thn tlo te n).1)))), (pfp, .inl (D.2.1, 7, .inl (zA (va_up FP n (pairsP tTV thn tlo te n).2.1)))), (pmd, .inl (D.2.1, 7, .inl (nA (va_up MD n (pairsP tTV thn tlo te n).2.2)))), (pik, .inl (D.2.2.1, 7, .inl (bA (va_up IK n true)))), (psg, .inl (D.2.1, 10, .inl (nA (sgD tTV thn te tlo te)))), (ptw, .inl (D.2.1, 100, .inl (nA (twD tTV thn te tlo te)))), (pdb, .inl (D.2.1, 1024, .inl (nA (dblF (sgD tTV thn te tlo te) (twD tTV thn te tlo te))))), (pad, .inl (D.2.1, 10, .inl (nA (selN (IK n) AD (prevF (fun x9 => adF ((setsUp (isSet tTV n) ST 1024) x9) (sgD tTV thn te tlo te) (twD tTV thn te tlo te)) AD (cntN (isSet tTV n) 1024)))))), (pal, .inl (D.2.1, 32, .inl (nA (selN (IK n) AL (prevF (fun x9 => hlfL (adF ((setsUp (isSet tTV n) ST 1024) x9) (sgD tTV thn te tlo te) (twD tTV thn te tlo te))) AL (cntN (isSet tTV n) 1024)))))), (pah, .inl (D.2.1, 32, .inl (nA (selN (IK n) AH (prevF (fun x9 => hlfH (adF ((setsUp (isSet tTV n) ST 1024) x9) (sgD tTV thn te tlo te) (twD tTV thn te tlo te))) AH (cntN (isSet tTV n) 1024)))))), (pst, .inl (D.2.1, 252, .inl (nA (selN (IK n) ST (setsUp (isSet tTV n) ST 1024))))), (tb, .inr (0, [.int (nI thd.toNat), .int (nI tlo), .int (iI ((te : Int) - 1)), .int (nI thn.toNat), .int (nI tcu), .ref tsc, .ref tfg, .ref ttv, .ref tpr])), (ttv, .inl (D.2.1, 10, .inl (nA tTV)))] := by
  refine cM.mk (by decide) (retI _) (Nat.le_of_ble_eq_true rfl) ?_
  intro X A hx hL hA hW hret ls hl
  subst hL
  have hl : lv_has ls 3 [(0, .ref x), (1, .int (nI n)), (2, .int (iI w))] := hl
  refine x_iload_n hx dX7_search_0 hl 1 rfl ?_
  refine x_iconst (v := nI 1) hx dX7_search_1 (by decide) ?_
  refine x_icmp_lt_N (a := n) (b := 1) (tgt := 20) hx dX7_search_2 (by decide) (by omega) (by omega) (fun h_1 => ?_) (fun h_1 => ?_)
  · omega
  · refine x_iload_n hx dX7_search_5 hl 1 rfl ?_
    refine x_bipush (v := nI 6) hx dX7_search_6 (by decide) ?_
    refine x_icmp_gt_N (a := n) (b := 6) (tgt := 20) hx dX7_search_8 (by decide) (by omega) (by omega) (fun h_2 => ?_) (fun h_2 => ?_)
    · omega
    · refine x_iload_n hx dX7_search_11 hl 2 rfl ?_
      refine x_if_lt_Z (a := w) (tgt := 20) hx dX7_search_12 (by decide) (by omega) (fun h_3 => ?_) (fun h_3 => ?_)
      · omega
      · refine x_iload_n hx dX7_search_15 hl 2 rfl ?_
        refine x_iconst (v := nI 1) hx dX7_search_16 (by decide) ?_
        refine x_icmp_le_Z (a := w) (b := 1) (tgt := 23) hx dX7_search_17 (by decide) (by omega) (by omega) (fun h_4 => ?_) (fun h_4 => ?_)
        · refine x_aload_n hx dX7_search_23 hl 0 rfl ?_
          refine x_get7 hx hW.1 0 rfl 9 (Nat.le_of_ble_eq_true rfl) wf_RX7_70 rfl dX7_search_24 ?_
          refine x_aload_n hx dX7_search_27 hl 0 rfl ?_
          refine x_get7 hx hW.1 0 rfl 2 (Nat.le_of_ble_eq_true rfl) wf_RX7_27 rfl dX7_search_28 ?_
          refine x_iload_n hx dX7_search_31 hl 1 rfl ?_
          refine x_callVV (As := [.ref tb, .int (nI n)]) (rest := []) (wr := [(x, .inr (7, [.ref tx, .ref tr, .ref tb, .ref nw, .ref sp, .ref pa, .ref im, .ref ik, .ref no, .ref pr, .ref sg, .int (iI xfa)]))]) hx yv_X2_know (c_X2_know _ D pr pwy pfp pmd pik psg ptw pdb pad pal pah pst ic sn WY FP MD IK SI TW DB AD AL AH ST tb thd tlo te thn tcu tsc tfg ttv tpr tTV n (by first | assumption | omega | (simp [*]; done)) (by first | assumption | omega | (simp [*]; done)) (by first | assumption | omega | (simp [*]; done)) (by first | assumption | omega | (simp [*]; done)) (by first | assumption | omega | (simp [*]; done)) (by first | assumption | omega | (simp [*]; done)) (by first | assumption | omega | (simp [*]; done)) (by first | assumption | omega | (simp [*]; done))) wm_RX7_216 hA hW [1, 2, 3, 4, 5, 6, 7, 8, 9, 10, 11, 12, 13, 14] [0] rfl rfl rfl rfl rfl 1 rfl rfl ⟨rfl, rfl⟩ ⟨Nat.le_of_ble_eq_true rfl, Nat.le_of_ble_eq_true rfl⟩ ⟨Nat.zero_le _, Nat.zero_le _⟩ hl rfl rfl (Nat.le_of_ble_eq_true rfl) dX7_search_32 [(x, .inr (7, [.ref tx, .ref tr, .ref tb, .ref nw, .ref sp, .ref pa, .ref im, .ref ik, .ref no, .ref pr, .ref sg, .int (iI xfa)])), (pr, .inr (2, [.ref pwy, .ref pfp, .ref pmd, .ref pik, .int (nI true.toNat), .ref psg, .ref ptw, .ref pdb, .ref pad, .ref pal, .ref pah, .ref pst, .int (nI (if IK n then sn else cntN (isSet tTV n) 1024))])), (pwy, .inl (D.2.1, 7, .inl (nA (va_up WY n (pairsP tTV thn tlo te n).1)))), (pfp, .inl (D.2.1, 7, .inl (zA (va_up FP n (pairsP tTV thn tlo te n).2.1)))), (pmd, .inl (D.2.1, 7, .inl (nA (va_up MD n (pairsP tTV thn tlo te n).2.2)))), (pik, .inl (D.2.2.1, 7, .inl (bA (va_up IK n true)))), (psg, .inl (D.2.1, 10, .inl (nA (sgD tTV thn te tlo te)))), (ptw, .inl (D.2.1, 100, .inl (nA (twD tTV thn te tlo te)))), (pdb, .inl (D.2.1, 1024, .inl (nA (dblF (sgD tTV thn te tlo te) (twD tTV thn te tlo te))))), (pad, .inl (D.2.1, 10, .inl (nA (selN (IK n) AD (prevF (fun x9 => adF ((setsUp (isSet tTV n) ST 1024) x9) (sgD tTV thn te tlo te) (twD tTV thn te tlo te)) AD (cntN (isSet tTV n) 1024)))))), (pal, .inl (D.2.1, 32, .inl (nA (selN (IK n) AL (prevF (fun x9 => hlfL (adF ((setsUp (isSet tTV n) ST 1024) x9) (sgD tTV thn te tlo te) (twD tTV thn te tlo te))) AL (cntN (isSet tTV n) 1024)))))), (pah, .inl (D.2.1, 32, .inl (nA (selN (IK n) AH (prevF (fun x9 => hlfH (adF ((setsUp (isSet tTV n) ST 1024) x9) (sgD tTV thn te tlo te) (twD tTV thn te tlo te))) AH (cntN (isSet tTV n) 1024)))))), (pst, .inl (D.2.1, 252, .inl (nA (selN (IK n) ST (setsUp (isSet tTV n) ST 1024))))), (tb, .inr (0, [.int (nI thd.toNat), .int (nI tlo), .int (iI ((te : Int) - 1)), .int (nI thn.toNat), .int (nI tcu), .ref tsc, .ref tfg, .ref ttv, .ref tpr])), (ttv, .inl (D.2.1, 10, .inl (nA tTV)))] rfl (fun H locs hW => ?_)
          refine x_iload_n hx dX7_search_35 hl 2 rfl ?_
          refine x_if_ne_Z (a := w) (tgt := 51) hx dX7_search_36 (by decide) (by omega) (fun h_5 => ?_) (fun h_5 => ?_)
          · refine x_aload_n hx dX7_search_51 hl 0 rfl ?_
            refine x_get7 hx hW.1 0 rfl 9 (Nat.le_of_ble_eq_true rfl) wf_RX7_70 rfl dX7_search_52 ?_
            refine x_get2 hx hW.1 1 rfl 1 (Nat.le_of_ble_eq_true rfl) wf_RX7_223 rfl dX7_search_55 ?_
            refine x_iload_n hx dX7_search_58 hl 1 rfl ?_
            have hj_59 : n < 7 := by omega
            refine x_iald (v := iI ((pairsP tTV thn tlo te n).2.1)) hx hW.1 3 rfl hj_59 (by decide) (congrArg (iI) (va_up_same _ _ _)) dX7_search_59 ?_
            exact hret _ _ _ _ _ dX7_search_60 (by first | (rw [if_pos (by omega)]; done) | (rw [if_neg (by omega)]; done) | (rw [if_pos (by omega)]; rfl)) hW
          · refine x_aload_n hx dX7_search_39 hl 0 rfl ?_
            refine x_get7 hx hW.1 0 rfl 9 (Nat.le_of_ble_eq_true rfl) wf_RX7_70 rfl dX7_search_40 ?_
            refine x_get2 hx hW.1 1 rfl 0 (Nat.le_of_ble_eq_true rfl) wf_RX7_220 rfl dX7_search_43 ?_
            refine x_iload_n hx dX7_search_46 hl 1 rfl ?_
            have hj_47 : n < 7 := by omega
            refine x_iald (v := nI ((pairsP tTV thn tlo te n).1)) hx hW.1 2 rfl hj_47 (by decide) (congrArg (nI) (va_up_same _ _ _)) dX7_search_47 ?_
            refine x_goto (tgt := 60) hx dX7_search_48 (by decide) ?_
            exact hret _ _ _ _ _ dX7_search_60 (by first | (rw [if_pos (by omega)]; done) | (rw [if_neg (by omega)]; done) | (rw [if_pos (by omega)]; rfl)) hW
        · omega
set_option maxHeartbeats 4000000 in
set_option maxRecDepth 100000 in
theorem c_X7_most_no (l : Launch) (D : KD) (x : Nat) (tx : Nat) (tr : Nat) (tb : Nat) (nw : Nat) (sp : Nat) (pa : Nat) (im : Nat) (ik : Nat) (no : Nat) (pr : Nat) (sg : Nat) (xfa : Int) (z : Int) (hz : -2147483648 ≤ z ∧ z < 2147483648) (hno : ¬ (1 ≤ z ∧ z ≤ 6)) : cR l yX7_most cX7_most 2 (some .int) rm_X7_most D [(x, .inr (7, [.ref tx, .ref tr, .ref tb, .ref nw, .ref sp, .ref pa, .ref im, .ref ik, .ref no, .ref pr, .ref sg, .int (iI xfa)]))] [.ref x, .int (iI z)] (iI (-1000000002)) := by
  refine cR.mk (by decide) (retI _) (Nat.le_of_ble_eq_true rfl) ?_
  intro X hx hL hP hret ls hl
  subst hL
  have hl : lv_has ls 2 [(0, .ref x), (1, .int (iI z))] := hl
  refine x_iload_n hx dX7_most_0 hl 1 rfl ?_
  refine x_iconst (v := nI 1) hx dX7_most_1 (by decide) ?_
  refine x_icmp_lt_Z (a := z) (b := 1) (tgt := 11) hx dX7_most_2 (by decide) (by omega) (by omega) (fun h_1 => ?_) (fun h_1 => ?_)
  · refine x_ldc (u := iI (-1000000002)) hx wk_RX7_83 (by decide) dX7_most_11 ?_
    exact hret _ _ _ dX7_most_13 (rfl)
  · refine x_iload_n hx dX7_most_5 hl 1 rfl ?_
    refine x_bipush (v := nI 6) hx dX7_most_6 (by decide) ?_
    refine x_icmp_le_Z (a := z) (b := 6) (tgt := 14) hx dX7_most_8 (by decide) (by omega) (by omega) (fun h_2 => ?_) (fun h_2 => ?_)
    · omega
    · refine x_ldc (u := iI (-1000000002)) hx wk_RX7_83 (by decide) dX7_most_11 ?_
      exact hret _ _ _ dX7_most_13 (rfl)
set_option maxHeartbeats 4000000 in
set_option maxRecDepth 100000 in
theorem c_X7_most (l : Launch) (D : KD) (x : Nat) (tx : Nat) (tr : Nat) (tb : Nat) (nw : Nat) (sp : Nat) (pa : Nat) (im : Nat) (ik : Nat) (no : Nat) (pr : Nat) (sg : Nat) (xfa : Int) (pwy : Nat) (pfp : Nat) (pmd : Nat) (pik : Nat) (psg : Nat) (ptw : Nat) (pdb : Nat) (pad : Nat) (pal : Nat) (pah : Nat) (pst : Nat) (ic : Bool) (sn : Nat) (WY : Nat → Nat) (FP : Nat → Int) (MD : Nat → Nat) (IK : Nat → Bool) (SI : Nat → Nat) (TW : Nat → Nat) (DB : Nat → Nat) (AD : Nat → Nat) (AL : Nat → Nat) (AH : Nat → Nat) (ST : Nat → Nat) (thd : Bool) (tlo : Nat) (te : Nat) (thn : Bool) (tcu : Nat) (tsc : Nat) (tfg : Nat) (ttv : Nat) (tpr : Nat) (tTV : Nat → Nat) (n : Nat) (htTV : ∀ k, k < 10 → tTV k < 10) (hle : tlo ≤ te) (he : te ≤ 100) (hal : AL 0 = 0) (hah : AH 0 = 0) (hic : ic = true → SI = sgD tTV thn te tlo te ∧ TW = twD tTV thn te tlo te ∧ DB = dblF (sgD tTV thn te tlo te) (twD tTV thn te tlo te)) (hik : IK n = true → WY n = (pairsP tTV thn tlo te n).1 ∧ FP n = (pairsP tTV thn tlo te n).2.1 ∧ MD n = (pairsP tTV thn tlo te n).2.2) (hn1 : 1 ≤ n) (hn : n ≤ 6) : cM l yX7_most cX7_most 2 (some .int) rm_X7_most D [(x, .inr (7, [.ref tx, .ref tr, .ref tb, .ref nw, .ref sp, .ref pa, .ref im, .ref ik, .ref no, .ref pr, .ref sg, .int (iI xfa)])), (pr, .inr (2, [.ref pwy, .ref pfp, .ref pmd, .ref pik, .int (nI ic.toNat), .ref psg, .ref ptw, .ref pdb, .ref pad, .ref pal, .ref pah, .ref pst, .int (nI sn)])), (pwy, .inl (D.2.1, 7, .inl (nA WY))), (pfp, .inl (D.2.1, 7, .inl (zA FP))), (pmd, .inl (D.2.1, 7, .inl (nA MD))), (pik, .inl (D.2.2.1, 7, .inl (bA IK))), (psg, .inl (D.2.1, 10, .inl (nA SI))), (ptw, .inl (D.2.1, 100, .inl (nA TW))), (pdb, .inl (D.2.1, 1024, .inl (nA DB))), (pad, .inl (D.2.1, 10, .inl (nA AD))), (pal, .inl (D.2.1, 32, .inl (nA AL))), (pah, .inl (D.2.1, 32, .inl (nA AH))), (pst, .inl (D.2.1, 252, .inl (nA ST))), (tb, .inr (0, [.int (nI thd.toNat), .int (nI tlo), .int (iI ((te : Int) - 1)), .int (nI thn.toNat), .int (nI tcu), .ref tsc, .ref tfg, .ref ttv, .ref tpr])), (ttv, .inl (D.2.1, 10, .inl (nA tTV)))] [.ref x, .int (nI n)] (nI ((pairsP tTV thn tlo te n).2.2)) [(x, .inr (7, [.ref tx, .ref tr, .ref tb, .ref nw, .ref sp, .ref pa, .ref im, .ref ik, .ref no, .ref pr, .ref sg, .int (iI xfa)])), (pr, .inr (2, [.ref pwy, .ref pfp, .ref pmd, .ref pik, .int (nI true.toNat), .ref psg, .ref ptw, .ref pdb, .ref pad, .ref pal, .ref pah, .ref pst, .int (nI (if IK n then sn else cntN (isSet tTV n) 1024))])), (pwy, .inl (D.2.1, 7, .inl (nA (va_up WY n (pairsP tTV thn tlo te n).1)))), (pfp, .inl (D.2.1, 7, .inl (zA (va_up FP n (pairsP tTV thn tlo te n).2.1)))), (pmd, .inl (D.2.1, 7, .inl (nA (va_up MD n (pairsP tTV thn tlo te n).2.2)))), (pik, .inl (D.2.2.1, 7, .inl (bA (va_up IK n true)))), (psg, .inl (D.2.1, 10, .inl (nA (sgD tTV thn te tlo te)))), (ptw, .inl (D.2.1, 100, .inl (nA (twD tTV thn te tlo te)))), (pdb, .inl (D.2.1, 1024, .inl (nA (dblF (sgD tTV thn te tlo te) (twD tTV thn te tlo te))))), (pad, .inl (D.2.1, 10, .inl (nA (selN (IK n) AD (prevF (fun x9 => adF ((setsUp (isSet tTV n) ST 1024) x9) (sgD tTV thn te tlo te) (twD tTV thn te tlo te)) AD (cntN (isSet tTV n) 1024)))))), (pal, .inl (D.2.1, 32, .inl (nA (selN (IK n) AL (prevF (fun x9 => hlfL (adF ((setsUp (isSet tTV n) ST 1024) x9) (sgD tTV thn te tlo te) (twD tTV thn te tlo te))) AL (cntN (isSet tTV n) 1024)))))), (pah, .inl (D.2.1, 32, .inl (nA (selN (IK n) AH (prevF (fun x9 => hlfH (adF ((setsUp (isSet tTV n) ST 1024) x9) (sgD tTV thn te tlo te) (twD tTV thn te tlo te))) AH (cntN (isSet tTV n) 1024)))))), (pst, .inl (D.2.1, 252, .inl (nA (selN (IK n) ST (setsUp (isSet tTV n) ST 1024))))), (tb, .inr (0, [.int (nI thd.toNat), .int (nI tlo), .int (iI ((te : Int) - 1)), .int (nI thn.toNat), .int (nI tcu), .ref tsc, .ref tfg, .ref ttv, .ref tpr])), (ttv, .inl (D.2.1, 10, .inl (nA tTV)))] := by
  refine cM.mk (by decide) (retI _) (Nat.le_of_ble_eq_true rfl) ?_
  intro X A hx hL hA hW hret ls hl
  subst hL
  have hl : lv_has ls 2 [(0, .ref x), (1, .int (nI n))] := hl
  refine x_iload_n hx dX7_most_0 hl 1 rfl ?_
  refine x_iconst (v := nI 1) hx dX7_most_1 (by decide) ?_
  refine x_icmp_lt_N (a := n) (b := 1) (tgt := 11) hx dX7_most_2 (by decide) (by omega) (by omega) (fun h_1 => ?_) (fun h_1 => ?_)
  · omega
  · refine x_iload_n hx dX7_most_5 hl 1 rfl ?_
    refine x_bipush (v := nI 6) hx dX7_most_6 (by decide) ?_
    refine x_icmp_le_N (a := n) (b := 6) (tgt := 14) hx dX7_most_8 (by decide) (by omega) (by omega) (fun h_2 => ?_) (fun h_2 => ?_)
    · refine x_aload_n hx dX7_most_14 hl 0 rfl ?_
      refine x_get7 hx hW.1 0 rfl 9 (Nat.le_of_ble_eq_true rfl) wf_RX7_70 rfl dX7_most_15 ?_
      refine x_aload_n hx dX7_most_18 hl 0 rfl ?_
      refine x_get7 hx hW.1 0 rfl 2 (Nat.le_of_ble_eq_true rfl) wf_RX7_27 rfl dX7_most_19 ?_
      refine x_iload_n hx dX7_most_22 hl 1 rfl ?_
      refine x_callVV (As := [.ref tb, .int (nI n)]) (rest := []) (wr := [(x, .inr (7, [.ref tx, .ref tr, .ref tb, .ref nw, .ref sp, .ref pa, .ref im, .ref ik, .ref no, .ref pr, .ref sg, .int (iI xfa)]))]) hx yv_X2_know (c_X2_know _ D pr pwy pfp pmd pik psg ptw pdb pad pal pah pst ic sn WY FP MD IK SI TW DB AD AL AH ST tb thd tlo te thn tcu tsc tfg ttv tpr tTV n (by first | assumption | omega | (simp [*]; done)) (by first | assumption | omega | (simp [*]; done)) (by first | assumption | omega | (simp [*]; done)) (by first | assumption | omega | (simp [*]; done)) (by first | assumption | omega | (simp [*]; done)) (by first | assumption | omega | (simp [*]; done)) (by first | assumption | omega | (simp [*]; done)) (by first | assumption | omega | (simp [*]; done))) wm_RX7_216 hA hW [1, 2, 3, 4, 5, 6, 7, 8, 9, 10, 11, 12, 13, 14] [0] rfl rfl rfl rfl rfl 1 rfl rfl ⟨rfl, rfl⟩ ⟨Nat.le_of_ble_eq_true rfl, Nat.le_of_ble_eq_true rfl⟩ ⟨Nat.zero_le _, Nat.zero_le _⟩ hl rfl rfl (Nat.le_of_ble_eq_true rfl) dX7_most_23 [(x, .inr (7, [.ref tx, .ref tr, .ref tb, .ref nw, .ref sp, .ref pa, .ref im, .ref ik, .ref no, .ref pr, .ref sg, .int (iI xfa)])), (pr, .inr (2, [.ref pwy, .ref pfp, .ref pmd, .ref pik, .int (nI true.toNat), .ref psg, .ref ptw, .ref pdb, .ref pad, .ref pal, .ref pah, .ref pst, .int (nI (if IK n then sn else cntN (isSet tTV n) 1024))])), (pwy, .inl (D.2.1, 7, .inl (nA (va_up WY n (pairsP tTV thn tlo te n).1)))), (pfp, .inl (D.2.1, 7, .inl (zA (va_up FP n (pairsP tTV thn tlo te n).2.1)))), (pmd, .inl (D.2.1, 7, .inl (nA (va_up MD n (pairsP tTV thn tlo te n).2.2)))), (pik, .inl (D.2.2.1, 7, .inl (bA (va_up IK n true)))), (psg, .inl (D.2.1, 10, .inl (nA (sgD tTV thn te tlo te)))), (ptw, .inl (D.2.1, 100, .inl (nA (twD tTV thn te tlo te)))), (pdb, .inl (D.2.1, 1024, .inl (nA (dblF (sgD tTV thn te tlo te) (twD tTV thn te tlo te))))), (pad, .inl (D.2.1, 10, .inl (nA (selN (IK n) AD (prevF (fun x9 => adF ((setsUp (isSet tTV n) ST 1024) x9) (sgD tTV thn te tlo te) (twD tTV thn te tlo te)) AD (cntN (isSet tTV n) 1024)))))), (pal, .inl (D.2.1, 32, .inl (nA (selN (IK n) AL (prevF (fun x9 => hlfL (adF ((setsUp (isSet tTV n) ST 1024) x9) (sgD tTV thn te tlo te) (twD tTV thn te tlo te))) AL (cntN (isSet tTV n) 1024)))))), (pah, .inl (D.2.1, 32, .inl (nA (selN (IK n) AH (prevF (fun x9 => hlfH (adF ((setsUp (isSet tTV n) ST 1024) x9) (sgD tTV thn te tlo te) (twD tTV thn te tlo te))) AH (cntN (isSet tTV n) 1024)))))), (pst, .inl (D.2.1, 252, .inl (nA (selN (IK n) ST (setsUp (isSet tTV n) ST 1024))))), (tb, .inr (0, [.int (nI thd.toNat), .int (nI tlo), .int (iI ((te : Int) - 1)), .int (nI thn.toNat), .int (nI tcu), .ref tsc, .ref tfg, .ref ttv, .ref tpr])), (ttv, .inl (D.2.1, 10, .inl (nA tTV)))] rfl (fun H locs hW => ?_)
      refine x_aload_n hx dX7_most_26 hl 0 rfl ?_
      refine x_get7 hx hW.1 0 rfl 9 (Nat.le_of_ble_eq_true rfl) wf_RX7_70 rfl dX7_most_27 ?_
      refine x_get2 hx hW.1 1 rfl 2 (Nat.le_of_ble_eq_true rfl) wf_RX7_226 rfl dX7_most_30 ?_
      refine x_iload_n hx dX7_most_33 hl 1 rfl ?_
      have hj_34 : n < 7 := by omega
      refine x_iald (v := nI ((pairsP tTV thn tlo te n).2.2)) hx hW.1 4 rfl hj_34 (by decide) (congrArg (nI) (va_up_same _ _ _)) dX7_most_34 ?_
      exact hret _ _ _ _ _ dX7_most_35 (rfl) hW
    · omega
