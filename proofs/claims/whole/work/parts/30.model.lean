/-! the reference -/
theorem both_s (TV : Nat → Nat) (g : Nat) : 2 ^ g ||| 2 ^ TV g = both TV g := rfl
set_option maxHeartbeats 4000000 in
set_option maxRecDepth 100000 in
theorem c_X8_in (l : Launch) (D : KD) (z : Int) (a9 : Int) (b9 : Int) (hz : -9223372036854775808 ≤ z ∧ z < 9223372036854775808) (ha : -9223372036854775808 ≤ a9 ∧ a9 < 9223372036854775808) (hb : -9223372036854775808 ≤ b9 ∧ b9 < 9223372036854775808) : cR l yX8_in cX8_in 6 (some .boolean) rm_X8_in D [] [.long (lI z), .long (lI a9), .long (lI b9)] (nI (decide (a9 ≤ z ∧ z ≤ b9)).toNat) := by
  refine cR.mk (by decide) (retZ _) (Nat.le_of_ble_eq_true rfl) ?_
  intro X hx hL hP hret ls hl
  subst hL
  have hl : lv_has ls 6 [(0, .long (lI z)), (2, .long (lI a9)), (4, .long (lI b9))] := hl
  refine x_lload_n hx dX8_in_0 hl 0 rfl ?_
  refine x_lload_n hx dX8_in_1 hl 1 rfl ?_
  refine x_lcmp hx dX8_in_2 ?_
  refine x_lc_lt (a := z) (b := a9) (tgt := 17) hx dX8_in_3 (by decide) (by omega) (by omega) (fun h_1 => ?_) (fun h_1 => ?_)
  · refine x_iconst (v := nI 0) hx dX8_in_17 (by decide) ?_
    exact hret _ _ _ dX8_in_18 (by first | exact retF _ (by first | omega | (simp [*]; done)) | (simp [*]; done))
  · refine x_lload_n hx dX8_in_6 hl 0 rfl ?_
    refine x_lload hx dX8_in_7 hl 2 rfl ?_
    refine x_lcmp hx dX8_in_9 ?_
    refine x_lc_gt (a := z) (b := b9) (tgt := 17) hx dX8_in_10 (by decide) (by omega) (by omega) (fun h_2 => ?_) (fun h_2 => ?_)
    · refine x_iconst (v := nI 0) hx dX8_in_17 (by decide) ?_
      exact hret _ _ _ dX8_in_18 (by first | exact retF _ (by first | omega | (simp [*]; done)) | (simp [*]; done))
    · refine x_iconst (v := nI 1) hx dX8_in_13 (by decide) ?_
      refine x_goto (tgt := 18) hx dX8_in_14 (by decide) ?_
      exact hret _ _ _ dX8_in_18 (by first | exact retT _ (by first | omega | (simp [*]; done)) | (simp [*]; done))
set_option maxHeartbeats 4000000 in
set_option maxRecDepth 100000 in
theorem c_X8_has (l : Launch) (D : KD) (m : Nat) (g : Nat) (hm : m < 2147483648) (hg : g < 32) : cR l yX8_has cX8_has 2 (some .boolean) rm_X8_has D [] [.int (nI m), .int (nI g)] (nI (m.testBit g).toNat) := by
  refine cR.mk (by decide) (retZ _) (Nat.le_of_ble_eq_true rfl) ?_
  intro X hx hL hP hret ls hl
  subst hL
  have hl : lv_has ls 2 [(0, .int (nI m)), (1, .int (nI g))] := hl
  refine x_iload_n hx dX8_has_0 hl 0 rfl ?_
  refine x_iload_n hx dX8_has_1 hl 1 rfl ?_
  refine x_ishr (v := nI (m >>> g)) hx dX8_has_2 (nI_shr (by omega) (by omega)) ?_
  refine x_iconst (v := nI 1) hx dX8_has_3 (by decide) ?_
  refine x_iand (v := nI (m.testBit g).toNat) hx dX8_has_4 (nI_tb _ _) ?_
  refine x_iconst (v := nI 1) hx dX8_has_5 (by decide) ?_
  refine x_icmp_ne_B1 (tgt := 13) hx dX8_has_6 (by decide) (fun h_1 => ?_) (fun h_1 => ?_)
  · refine x_iconst (v := nI 0) hx dX8_has_13 (by decide) ?_
    exact hret _ _ _ dX8_has_14 (by simp [*])
  · refine x_iconst (v := nI 1) hx dX8_has_9 (by decide) ?_
    refine x_goto (tgt := 14) hx dX8_has_10 (by decide) ?_
    exact hret _ _ _ dX8_has_14 (by simp [*])
set_option maxHeartbeats 4000000 in
set_option maxRecDepth 100000 in
theorem c_X8_bits (l : Launch) (D : KD) (m : Nat) (hm : m < 2147483648) : cR l yX8_bits cX8_bits 3 (some .int) rm_X8_bits D [] [.int (nI m)] (nI (popc m)) := by
  refine cR.mk (by decide) (retI _) (Nat.le_of_ble_eq_true rfl) ?_
  intro X hx hL hP hret ls hl
  subst hL
  have hl : lv_has ls 3 [(0, .int (nI m))] := hl
  refine x_iconst (v := nI 0) hx dX8_bits_0 (by decide) ?_
  refine x_istore_n (lv' := [(1, .int (nI 0)), (0, .int (nI m))]) hx dX8_bits_1 hl (Nat.le_of_ble_eq_true rfl) rfl (fun ls hl => ?_)
  refine x_iconst (v := nI 0) hx dX8_bits_2 (by decide) ?_
  refine x_istore_n (lv' := [(2, .int (nI 0)), (1, .int (nI 0)), (0, .int (nI m))]) hx dX8_bits_3 hl (Nat.le_of_ble_eq_true rfl) rfl (fun ls hl => ?_)
  have L4_1 : ∀ (L4_1n : Nat) (j : Nat), (j ≤ 10) → 10 - j < L4_1n → ∀ ls : Array Slot, lv_has ls 3 [(0, .int (nI m)), (1, .int (nI (cntN (fun k9 => m.testBit k9) j))), (2, .int (nI j))] → Wx X 0 0 (cxS X).heap [] 4 ls [] := by
    intro L4_1n
    induction L4_1n with
    | zero =>
      intro j h1 hm
      exact absurd hm (Nat.not_lt_zero _)
    | succ L4_1n ihL4_1 =>
      intro j h1 hm ls hl
      refine x_iload_n hx dX8_bits_4 hl 2 rfl ?_
      refine x_bipush (v := nI 10) hx dX8_bits_5 (by decide) ?_
      refine x_icmp_ge_N (a := j) (b := 10) (tgt := 24) hx dX8_bits_7 (by decide) (by omega) (by omega) (fun h_2 => ?_) (fun h_2 => ?_)
      · refine x_iload_n hx dX8_bits_24 hl 1 rfl ?_
        exact hret _ _ _ dX8_bits_25 (by rw [popc, show j = 10 by omega])
      · refine x_iload_n hx dX8_bits_10 hl 1 rfl ?_
        refine x_iload_n hx dX8_bits_11 hl 0 rfl ?_
        refine x_iload_n hx dX8_bits_12 hl 2 rfl ?_
        refine x_ishr (v := nI (m >>> j)) hx dX8_bits_13 (nI_shr (by omega) (by omega)) ?_
        refine x_iconst (v := nI 1) hx dX8_bits_14 (by decide) ?_
        refine x_iand (v := nI (m.testBit j).toNat) hx dX8_bits_15 (nI_tb _ _) ?_
        refine x_iadd (v := nI ((cntN (fun k9 => m.testBit k9) j) + ((m.testBit j).toNat))) hx dX8_bits_16 (nI_add _ _) ?_
        refine x_istore_n (lv' := [(1, .int (nI ((cntN (fun k9 => m.testBit k9) j) + ((m.testBit j).toNat)))), (0, .int (nI m)), (2, .int (nI j))]) hx dX8_bits_17 hl (Nat.le_of_ble_eq_true rfl) rfl (fun ls hl => ?_)
        refine x_iinc (v := nI (j + 1)) (lv' := [(2, .int (nI (j + 1))), (1, .int (nI ((cntN (fun k9 => m.testBit k9) j) + ((m.testBit j).toNat)))), (0, .int (nI m))]) hx dX8_bits_18 hl 2 rfl (nI_addc j 1) (Nat.le_of_ble_eq_true rfl) rfl (fun ls hl => ?_)
        refine x_goto (tgt := 4) hx dX8_bits_21 (by decide) ?_
        have e_3 : ((cntN (fun k9 => m.testBit k9) j) + ((m.testBit j).toNat) : Nat) = cntN (fun k9 => m.testBit k9) (j + 1) := by
          first | rfl | (simp [cntN]; done)
        have e_4 : (j + 1 : Nat) = (j + 1) := by
          first | rfl | omega | (simp [*]; done) | (simp [*]; omega)
        exact ihL4_1 (j + 1) (by first | assumption | omega | (simp [*]; done)) (by omega) _ (lv_to (l := [(0, .int (nI m)), (1, .int (nI ((cntN (fun k9 => m.testBit k9) j) + ((m.testBit j).toNat)))), (2, .int (nI (j + 1)))]) (l2 := [(0, .int (nI m)), (1, .int (nI (cntN (fun k9 => m.testBit k9) (j + 1)))), (2, .int (nI (j + 1)))]) (lv_sub hl [2, 1, 0] rfl) (cE rfl (cE (congrArg (fun z => ((1, Value.int z) : Nat × Value)) (congrArg (fun z : Nat => nI z) e_3)) (cE (congrArg (fun z => ((2, Value.int z) : Nat × Value)) (congrArg (fun z : Nat => nI z) e_4)) rfl))))
  have e_5 : (0 : Nat) = cntN (fun k9 => m.testBit k9) 0 := by
    first | rfl | (simp [cntN]; done)
  exact L4_1 (10 - 0 + 1) 0 (by first | assumption | omega | (simp [*]; done)) (Nat.lt_succ_self _) _ (lv_to (l := [(0, .int (nI m)), (1, .int (nI 0)), (2, .int (nI 0))]) (l2 := [(0, .int (nI m)), (1, .int (nI (cntN (fun k9 => m.testBit k9) 0))), (2, .int (nI 0))]) (lv_sub hl [2, 1, 0] rfl) (cE rfl (cE (congrArg (fun z => ((1, Value.int z) : Nat × Value)) (congrArg (fun z : Nat => nI z) e_5)) (cE rfl rfl))))
set_option maxHeartbeats 4000000 in
set_option maxRecDepth 100000 in
theorem c_X8_isFigure (l : Launch) (D : KD) (z : Int) (hz : -2147483648 ≤ z ∧ z < 2147483648) : cR l yX8_isFigure cX8_isFigure 1 (some .boolean) rm_X8_isFigure D [] [.int (iI z)] (nI (decide (0 ≤ z ∧ z ≤ 9)).toNat) := by
  refine cR.mk (by decide) (retZ _) (Nat.le_of_ble_eq_true rfl) ?_
  intro X hx hL hP hret ls hl
  subst hL
  have hl : lv_has ls 1 [(0, .int (iI z))] := hl
  refine x_iload_n hx dX8_isFigure_0 hl 0 rfl ?_
  refine x_i2l (v := lI z) hx dX8_isFigure_1 (lI_of (by omega)) ?_
  refine x_lconst (v := lN 0) hx dX8_isFigure_2 (by decide) ?_
  refine x_ldc2 (u := lN 9) hx wk_RX8_101 (by decide) dX8_isFigure_3 ?_
  refine x_callRS (As := [.long (lI z), .long (lN 0), .long (lN 9)]) (rest := []) hx yv_X8_in (c_X8_in _ D z 0 9 (by first | assumption | omega | (simp [*]; done)) (by first | assumption | omega | (simp [*]; done)) (by first | assumption | omega | (simp [*]; done))) wm_RX8_93 hP [] rfl ⟨rfl, rfl⟩ ⟨Nat.le_of_ble_eq_true rfl, Nat.le_of_ble_eq_true rfl⟩ ⟨Nat.zero_le _, Nat.zero_le _⟩ hl rfl rfl (Nat.le_of_ble_eq_true rfl) dX8_isFigure_6 ?_
  exact hret _ _ _ dX8_isFigure_9 (rfl)
set_option maxHeartbeats 4000000 in
set_option maxRecDepth 100000 in
theorem c_X8_isCube (l : Launch) (D : KD) (mo : Nat) (mhd : Bool) (mlo : Nat) (mto : Nat) (mhn : Bool) (mcu : Nat) (y_sides : Nat) (y_other : Nat) (y_prices : Nat) (y_now : Nat) (msd : Nat) (y_text : Nat) (mlen : Nat) (mfa : Int) (mat : Nat) (mnu : Nat) (mna : Nat) (mri : Bool) (y_readDays : Nat) (mrc : Nat) (y_readSides : Nat) (y_readFigures : Nat) (mrp : Nat) (y_readOther : Nat) (y_readPrices : Nat) (mtp : Nat) (y_firstOf : Nat) (y_secondOf : Nat) (y_shown : Nat) (mun : Nat) (y_past : Nat) (y_choices : Nat) (mcm : Nat) (y_wanted : Nat) (mpm : Nat) (mpf : Int) (mpo : Nat) (y_ways : Nat) (y_waysThen : Nat) (mwr : Nat) (y_wrongDay : Nat) (y_wrongShown : Nat) (y_could : Nat) (y_shownIn : Nat) (mbk : Nat) (y_book : Nat) (y_images : Nat) (y_isKept : Nat) (z : Int) (hz : -2147483648 ≤ z ∧ z < 2147483648) (hcu : mcu ≤ 4) : cR l yX8_isCube cX8_isCube 2 (some .boolean) rm_X8_isCube D [(mo, .inr (8, [.int (nI mhd.toNat), .int (nI mlo), .int (nI mto), .int (nI mhn.toNat), .int (nI mcu), .ref y_sides, .ref y_other, .ref y_prices, .ref y_now, .int (nI msd), .ref y_text, .int (nI mlen), .int (iI mfa), .int (nI mat), .int (nI mnu), .int (nI mna), .int (nI mri.toNat), .ref y_readDays, .int (nI mrc), .ref y_readSides, .ref y_readFigures, .int (nI mrp), .ref y_readOther, .ref y_readPrices, .int (nI mtp), .ref y_firstOf, .ref y_secondOf, .ref y_shown, .int (nI mun), .ref y_past, .ref y_choices, .int (nI mcm), .ref y_wanted, .int (nI mpm), .int (iI mpf), .int (nI mpo), .ref y_ways, .ref y_waysThen, .int (nI mwr), .ref y_wrongDay, .ref y_wrongShown, .ref y_could, .ref y_shownIn, .int (nI mbk), .ref y_book, .ref y_images, .ref y_isKept]))] [.ref mo, .int (iI z)] (nI (decide (0 ≤ z ∧ z ≤ (mcu : Int) - 1)).toNat) := by
  refine cR.mk (by decide) (retZ _) (Nat.le_of_ble_eq_true rfl) ?_
  intro X hx hL hP hret ls hl
  subst hL
  have hl : lv_has ls 2 [(0, .ref mo), (1, .int (iI z))] := hl
  refine x_iload_n hx dX8_isCube_0 hl 1 rfl ?_
  refine x_i2l (v := lI z) hx dX8_isCube_1 (lI_of (by omega)) ?_
  refine x_lconst (v := lN 0) hx dX8_isCube_2 (by decide) ?_
  refine x_aload_n hx dX8_isCube_3 hl 0 rfl ?_
  refine x_get8 hx hP 0 rfl 4 (Nat.le_of_ble_eq_true rfl) wf_RX8_90 rfl dX8_isCube_4 ?_
  refine x_iconst (v := nI 1) hx dX8_isCube_7 (by decide) ?_
  refine x_isub (v := iI ((mcu : Int) - 1)) hx dX8_isCube_8 (iI_sub (mcu : Int) 1) ?_
  refine x_i2l (v := lI ((mcu : Int) - 1)) hx dX8_isCube_9 (lI_of (by omega)) ?_
  refine x_callRS (As := [.long (lI z), .long (lN 0), .long (lI ((mcu : Int) - 1))]) (rest := []) hx yv_X8_in (c_X8_in _ D z 0 ((mcu : Int) - 1) (by first | assumption | omega | (simp [*]; done)) (by first | assumption | omega | (simp [*]; done)) (by first | assumption | omega | (simp [*]; done))) wm_RX8_93 hP [] rfl ⟨rfl, rfl⟩ ⟨Nat.le_of_ble_eq_true rfl, Nat.le_of_ble_eq_true rfl⟩ ⟨Nat.zero_le _, Nat.zero_le _⟩ hl rfl rfl (Nat.le_of_ble_eq_true rfl) dX8_isCube_10 ?_
  exact hret _ _ _ dX8_isCube_13 (by first | rfl | omega | (simp [*]; done) | (simp [*]; omega))
set_option maxHeartbeats 4000000 in
set_option maxRecDepth 100000 in
theorem c_X8_isSide (l : Launch) (D : KD) (mo : Nat) (mhd : Bool) (mlo : Nat) (mto : Nat) (mhn : Bool) (mcu : Nat) (y_sides : Nat) (y_other : Nat) (y_prices : Nat) (y_now : Nat) (msd : Nat) (y_text : Nat) (mlen : Nat) (mfa : Int) (mat : Nat) (mnu : Nat) (mna : Nat) (mri : Bool) (y_readDays : Nat) (mrc : Nat) (y_readSides : Nat) (y_readFigures : Nat) (mrp : Nat) (y_readOther : Nat) (y_readPrices : Nat) (mtp : Nat) (y_firstOf : Nat) (y_secondOf : Nat) (y_shown : Nat) (mun : Nat) (y_past : Nat) (y_choices : Nat) (mcm : Nat) (y_wanted : Nat) (mpm : Nat) (mpf : Int) (mpo : Nat) (y_ways : Nat) (y_waysThen : Nat) (mwr : Nat) (y_wrongDay : Nat) (y_wrongShown : Nat) (y_could : Nat) (y_shownIn : Nat) (mbk : Nat) (y_book : Nat) (y_images : Nat) (y_isKept : Nat) (mSC : Nat → Nat) (c : Nat) (w : Int) (hmSC : ∀ k, k < 4 → mSC k < 7) (hc : c < 4) (hw : -2147483648 ≤ w ∧ w < 2147483648) : cR l yX8_isSide cX8_isSide 3 (some .boolean) rm_X8_isSide D [(mo, .inr (8, [.int (nI mhd.toNat), .int (nI mlo), .int (nI mto), .int (nI mhn.toNat), .int (nI mcu), .ref y_sides, .ref y_other, .ref y_prices, .ref y_now, .int (nI msd), .ref y_text, .int (nI mlen), .int (iI mfa), .int (nI mat), .int (nI mnu), .int (nI mna), .int (nI mri.toNat), .ref y_readDays, .int (nI mrc), .ref y_readSides, .ref y_readFigures, .int (nI mrp), .ref y_readOther, .ref y_readPrices, .int (nI mtp), .ref y_firstOf, .ref y_secondOf, .ref y_shown, .int (nI mun), .ref y_past, .ref y_choices, .int (nI mcm), .ref y_wanted, .int (nI mpm), .int (iI mpf), .int (nI mpo), .ref y_ways, .ref y_waysThen, .int (nI mwr), .ref y_wrongDay, .ref y_wrongShown, .ref y_could, .ref y_shownIn, .int (nI mbk), .ref y_book, .ref y_images, .ref y_isKept])), (y_sides, .inl (D.2.1, 4, .inl (nA mSC)))] [.ref mo, .int (nI c), .int (iI w)] (nI (decide (0 ≤ w ∧ w ≤ (mSC c : Int) - 1)).toNat) := by
  refine cR.mk (by decide) (retZ _) (Nat.le_of_ble_eq_true rfl) ?_
  intro X hx hL hP hret ls hl
  subst hL
  have hl : lv_has ls 3 [(0, .ref mo), (1, .int (nI c)), (2, .int (iI w))] := hl
  refine x_iload_n hx dX8_isSide_0 hl 2 rfl ?_
  refine x_i2l (v := lI w) hx dX8_isSide_1 (lI_of (by omega)) ?_
  refine x_lconst (v := lN 0) hx dX8_isSide_2 (by decide) ?_
  refine x_aload_n hx dX8_isSide_3 hl 0 rfl ?_
  refine x_get8 hx hP 0 rfl 5 (Nat.le_of_ble_eq_true rfl) wf_RX8_7 rfl dX8_isSide_4 ?_
  refine x_iload_n hx dX8_isSide_7 hl 1 rfl ?_
  have hj_8 : c < 4 := by omega
  refine x_iald (v := nI (mSC c)) hx hP 1 rfl hj_8 (by decide) (rfl) dX8_isSide_8 ?_
  have b_1 := hmSC c hj_8
  refine x_iconst (v := nI 1) hx dX8_isSide_9 (by decide) ?_
  refine x_isub (v := iI (((mSC c : Nat) : Int) - 1)) hx dX8_isSide_10 (iI_sub ((mSC c : Nat) : Int) 1) ?_
  refine x_i2l (v := lI (((mSC c : Nat) : Int) - 1)) hx dX8_isSide_11 (lI_of (by omega)) ?_
  refine x_callRS (As := [.long (lI w), .long (lN 0), .long (lI (((mSC c : Nat) : Int) - 1))]) (rest := []) hx yv_X8_in (c_X8_in _ D w 0 (((mSC c : Nat) : Int) - 1) (by first | assumption | omega | (simp [*]; done)) (by first | assumption | omega | (simp [*]; done)) (by first | assumption | omega | (simp [*]; done))) wm_RX8_93 hP [] rfl ⟨rfl, rfl⟩ ⟨Nat.le_of_ble_eq_true rfl, Nat.le_of_ble_eq_true rfl⟩ ⟨Nat.zero_le _, Nat.zero_le _⟩ hl rfl rfl (Nat.le_of_ble_eq_true rfl) dX8_isSide_12 ?_
  exact hret _ _ _ dX8_isSide_15 (by first | rfl | omega | (simp [*]; done) | (simp [*]; omega))
set_option maxHeartbeats 4000000 in
set_option maxRecDepth 100000 in
theorem c_X8_isThere (l : Launch) (D : KD) (mo : Nat) (mhd : Bool) (mlo : Nat) (mto : Nat) (mhn : Bool) (mcu : Nat) (y_sides : Nat) (y_other : Nat) (y_prices : Nat) (y_now : Nat) (msd : Nat) (y_text : Nat) (mlen : Nat) (mfa : Int) (mat : Nat) (mnu : Nat) (mna : Nat) (mri : Bool) (y_readDays : Nat) (mrc : Nat) (y_readSides : Nat) (y_readFigures : Nat) (mrp : Nat) (y_readOther : Nat) (y_readPrices : Nat) (mtp : Nat) (y_firstOf : Nat) (y_secondOf : Nat) (y_shown : Nat) (mun : Nat) (y_past : Nat) (y_choices : Nat) (mcm : Nat) (y_wanted : Nat) (mpm : Nat) (mpf : Int) (mpo : Nat) (y_ways : Nat) (y_waysThen : Nat) (mwr : Nat) (y_wrongDay : Nat) (y_wrongShown : Nat) (y_could : Nat) (y_shownIn : Nat) (mbk : Nat) (y_book : Nat) (y_images : Nat) (y_isKept : Nat) (mNW : Nat → Nat) (c : Nat) (hcu : mcu ≤ 4) (hlo : mNW 24 < 16) (hc : c < 4) : cR l yX8_isThere cX8_isThere 2 (some .boolean) rm_X8_isThere D [(mo, .inr (8, [.int (nI mhd.toNat), .int (nI mlo), .int (nI mto), .int (nI mhn.toNat), .int (nI mcu), .ref y_sides, .ref y_other, .ref y_prices, .ref y_now, .int (nI msd), .ref y_text, .int (nI mlen), .int (iI mfa), .int (nI mat), .int (nI mnu), .int (nI mna), .int (nI mri.toNat), .ref y_readDays, .int (nI mrc), .ref y_readSides, .ref y_readFigures, .int (nI mrp), .ref y_readOther, .ref y_readPrices, .int (nI mtp), .ref y_firstOf, .ref y_secondOf, .ref y_shown, .int (nI mun), .ref y_past, .ref y_choices, .int (nI mcm), .ref y_wanted, .int (nI mpm), .int (iI mpf), .int (nI mpo), .ref y_ways, .ref y_waysThen, .int (nI mwr), .ref y_wrongDay, .ref y_wrongShown, .ref y_could, .ref y_shownIn, .int (nI mbk), .ref y_book, .ref y_images, .ref y_isKept])), (y_now, .inl (D.2.1, 26, .inl (nA mNW)))] [.ref mo, .int (nI c)] (nI (decide (c < mcu) && !(mNW 24).testBit c).toNat) := by
  refine cR.mk (by decide) (retZ _) (Nat.le_of_ble_eq_true rfl) ?_
  intro X hx hL hP hret ls hl
  subst hL
  have hl : lv_has ls 2 [(0, .ref mo), (1, .int (nI c))] := hl
  refine x_iload_n hx dX8_isThere_0 hl 1 rfl ?_
  refine x_aload_n hx dX8_isThere_1 hl 0 rfl ?_
  refine x_get8 hx hP 0 rfl 4 (Nat.le_of_ble_eq_true rfl) wf_RX8_90 rfl dX8_isThere_2 ?_
  refine x_icmp_ge_N (a := c) (b := mcu) (tgt := 26) hx dX8_isThere_5 (by decide) (by omega) (by omega) (fun h_1 => ?_) (fun h_1 => ?_)
  · refine x_iconst (v := nI 0) hx dX8_isThere_26 (by decide) ?_
    exact hret _ _ _ dX8_isThere_27 (by first | (rw [decide_eq_false (show ¬ c < mcu by omega)]; rfl) | (rw [decide_eq_true (show c < mcu by omega)]; simp [*]))
  · refine x_aload_n hx dX8_isThere_8 hl 0 rfl ?_
    refine x_get8 hx hP 0 rfl 8 (Nat.le_of_ble_eq_true rfl) wf_RX8_19 rfl dX8_isThere_9 ?_
    refine x_bipush (v := nI 24) hx dX8_isThere_12 (by decide) ?_
    have hj_14 : 24 < 26 := by omega
    refine x_iald (v := nI (mNW 24)) hx hP 1 rfl hj_14 (by decide) (rfl) dX8_isThere_14 ?_
    refine x_iload_n hx dX8_isThere_15 hl 1 rfl ?_
    refine x_callRS (As := [.int (nI (mNW 24)), .int (nI c)]) (rest := []) hx yv_X8_has (c_X8_has _ D (mNW 24) c (by first | assumption | omega | (simp [*]; done)) (by first | assumption | omega | (simp [*]; done))) wm_RX8_97 hP [] rfl ⟨rfl, rfl⟩ ⟨Nat.le_of_ble_eq_true rfl, Nat.le_of_ble_eq_true rfl⟩ ⟨Nat.zero_le _, Nat.zero_le _⟩ hl rfl rfl (Nat.le_of_ble_eq_true rfl) dX8_isThere_16 ?_
    refine x_if_ne_B (tgt := 26) hx dX8_isThere_19 (by decide) (fun h_2 => ?_) (fun h_2 => ?_)
    · refine x_iconst (v := nI 0) hx dX8_isThere_26 (by decide) ?_
      exact hret _ _ _ dX8_isThere_27 (by first | (rw [decide_eq_false (show ¬ c < mcu by omega)]; rfl) | (rw [decide_eq_true (show c < mcu by omega)]; simp [*]))
    · refine x_iconst (v := nI 1) hx dX8_isThere_22 (by decide) ?_
      refine x_goto (tgt := 27) hx dX8_isThere_23 (by decide) ?_
      exact hret _ _ _ dX8_isThere_27 (by first | (rw [decide_eq_false (show ¬ c < mcu by omega)]; rfl) | (rw [decide_eq_true (show c < mcu by omega)]; simp [*]))
set_option maxHeartbeats 4000000 in
set_option maxRecDepth 100000 in
theorem c_X8_isDay (l : Launch) (D : KD) (mo : Nat) (mhd : Bool) (mlo : Nat) (mto : Nat) (mhn : Bool) (mcu : Nat) (y_sides : Nat) (y_other : Nat) (y_prices : Nat) (y_now : Nat) (msd : Nat) (y_text : Nat) (mlen : Nat) (mfa : Int) (mat : Nat) (mnu : Nat) (mna : Nat) (mri : Bool) (y_readDays : Nat) (mrc : Nat) (y_readSides : Nat) (y_readFigures : Nat) (mrp : Nat) (y_readOther : Nat) (y_readPrices : Nat) (mtp : Nat) (y_firstOf : Nat) (y_secondOf : Nat) (y_shown : Nat) (mun : Nat) (y_past : Nat) (y_choices : Nat) (mcm : Nat) (y_wanted : Nat) (mpm : Nat) (mpf : Int) (mpo : Nat) (y_ways : Nat) (y_waysThen : Nat) (mwr : Nat) (y_wrongDay : Nat) (y_wrongShown : Nat) (y_could : Nat) (y_shownIn : Nat) (mbk : Nat) (y_book : Nat) (y_images : Nat) (y_isKept : Nat) (z : Int) (hz : -2147483648 ≤ z ∧ z < 2147483648) (hlo : mlo ≤ 99) (hto : mto ≤ 99) : cR l yX8_isDay cX8_isDay 2 (some .boolean) rm_X8_isDay D [(mo, .inr (8, [.int (nI mhd.toNat), .int (nI mlo), .int (nI mto), .int (nI mhn.toNat), .int (nI mcu), .ref y_sides, .ref y_other, .ref y_prices, .ref y_now, .int (nI msd), .ref y_text, .int (nI mlen), .int (iI mfa), .int (nI mat), .int (nI mnu), .int (nI mna), .int (nI mri.toNat), .ref y_readDays, .int (nI mrc), .ref y_readSides, .ref y_readFigures, .int (nI mrp), .ref y_readOther, .ref y_readPrices, .int (nI mtp), .ref y_firstOf, .ref y_secondOf, .ref y_shown, .int (nI mun), .ref y_past, .ref y_choices, .int (nI mcm), .ref y_wanted, .int (nI mpm), .int (iI mpf), .int (nI mpo), .ref y_ways, .ref y_waysThen, .int (nI mwr), .ref y_wrongDay, .ref y_wrongShown, .ref y_could, .ref y_shownIn, .int (nI mbk), .ref y_book, .ref y_images, .ref y_isKept]))] [.ref mo, .int (iI z)] (nI (mhd && decide ((mlo : Int) ≤ z ∧ z ≤ (mto : Int))).toNat) := by
  refine cR.mk (by decide) (retZ _) (Nat.le_of_ble_eq_true rfl) ?_
  intro X hx hL hP hret ls hl
  subst hL
  have hl : lv_has ls 2 [(0, .ref mo), (1, .int (iI z))] := hl
  refine x_aload_n hx dX8_isDay_0 hl 0 rfl ?_
  refine x_get8 hx hP 0 rfl 0 (Nat.le_of_ble_eq_true rfl) wf_RX8_103 rfl dX8_isDay_1 ?_
  refine x_if_eq_B (tgt := 29) hx dX8_isDay_4 (by decide) (fun h_1 => ?_) (fun h_1 => ?_)
  · refine x_iconst (v := nI 0) hx dX8_isDay_29 (by decide) ?_
    exact hret _ _ _ dX8_isDay_30 (by first | (simp [*]; done) | (simp [*]; omega))
  · refine x_iload_n hx dX8_isDay_7 hl 1 rfl ?_
    refine x_i2l (v := lI z) hx dX8_isDay_8 (lI_of (by omega)) ?_
    refine x_aload_n hx dX8_isDay_9 hl 0 rfl ?_
    refine x_get8 hx hP 0 rfl 1 (Nat.le_of_ble_eq_true rfl) wf_RX8_107 rfl dX8_isDay_10 ?_
    refine x_i2l (v := lN mlo) hx dX8_isDay_13 (nI_l (by omega)) ?_
    refine x_aload_n hx dX8_isDay_14 hl 0 rfl ?_
    refine x_get8 hx hP 0 rfl 2 (Nat.le_of_ble_eq_true rfl) wf_RX8_110 rfl dX8_isDay_15 ?_
    refine x_i2l (v := lN mto) hx dX8_isDay_18 (nI_l (by omega)) ?_
    refine x_callRS (As := [.long (lI z), .long (lN mlo), .long (lN mto)]) (rest := []) hx yv_X8_in (c_X8_in _ D z (mlo : Int) (mto : Int) (by first | assumption | omega | (simp [*]; done)) (by first | assumption | omega | (simp [*]; done)) (by first | assumption | omega | (simp [*]; done))) wm_RX8_93 hP [] rfl ⟨rfl, rfl⟩ ⟨Nat.le_of_ble_eq_true rfl, Nat.le_of_ble_eq_true rfl⟩ ⟨Nat.zero_le _, Nat.zero_le _⟩ hl rfl rfl (Nat.le_of_ble_eq_true rfl) dX8_isDay_19 ?_
    refine x_if_eq_B (tgt := 29) hx dX8_isDay_22 (by decide) (fun h_2 => ?_) (fun h_2 => ?_)
    · have hd_3 := of_decide_eq_false h_2
      refine x_iconst (v := nI 0) hx dX8_isDay_29 (by decide) ?_
      exact hret _ _ _ dX8_isDay_30 (by first | (simp [*]; done) | (simp [*]; omega))
    · have hd_4 := of_decide_eq_true h_2
      refine x_iconst (v := nI 1) hx dX8_isDay_25 (by decide) ?_
      refine x_goto (tgt := 30) hx dX8_isDay_26 (by decide) ?_
      exact hret _ _ _ dX8_isDay_30 (by first | (simp [*]; done) | (simp [*]; omega))
set_option maxHeartbeats 4000000 in
set_option maxRecDepth 100000 in
theorem c_X8_stands (l : Launch) (D : KD) (mo : Nat) (mhd : Bool) (mlo : Nat) (mto : Nat) (mhn : Bool) (mcu : Nat) (y_sides : Nat) (y_other : Nat) (y_prices : Nat) (y_now : Nat) (msd : Nat) (y_text : Nat) (mlen : Nat) (mfa : Int) (mat : Nat) (mnu : Nat) (mna : Nat) (mri : Bool) (y_readDays : Nat) (mrc : Nat) (y_readSides : Nat) (y_readFigures : Nat) (mrp : Nat) (y_readOther : Nat) (y_readPrices : Nat) (mtp : Nat) (y_firstOf : Nat) (y_secondOf : Nat) (y_shown : Nat) (mun : Nat) (y_past : Nat) (y_choices : Nat) (mcm : Nat) (y_wanted : Nat) (mpm : Nat) (mpf : Int) (mpo : Nat) (y_ways : Nat) (y_waysThen : Nat) (mwr : Nat) (y_wrongDay : Nat) (y_wrongShown : Nat) (y_could : Nat) (y_shownIn : Nat) (mbk : Nat) (y_book : Nat) (y_images : Nat) (y_isKept : Nat) (mTV : Nat → Nat) (g : Nat) (hmTV : ∀ k, k < 10 → mTV k < 10) (hg : g < 10) : cR l yX8_stands cX8_stands 2 (some .int) rm_X8_stands D [(mo, .inr (8, [.int (nI mhd.toNat), .int (nI mlo), .int (nI mto), .int (nI mhn.toNat), .int (nI mcu), .ref y_sides, .ref y_other, .ref y_prices, .ref y_now, .int (nI msd), .ref y_text, .int (nI mlen), .int (iI mfa), .int (nI mat), .int (nI mnu), .int (nI mna), .int (nI mri.toNat), .ref y_readDays, .int (nI mrc), .ref y_readSides, .ref y_readFigures, .int (nI mrp), .ref y_readOther, .ref y_readPrices, .int (nI mtp), .ref y_firstOf, .ref y_secondOf, .ref y_shown, .int (nI mun), .ref y_past, .ref y_choices, .int (nI mcm), .ref y_wanted, .int (nI mpm), .int (iI mpf), .int (nI mpo), .ref y_ways, .ref y_waysThen, .int (nI mwr), .ref y_wrongDay, .ref y_wrongShown, .ref y_could, .ref y_shownIn, .int (nI mbk), .ref y_book, .ref y_images, .ref y_isKept])), (y_other, .inl (D.2.1, 10, .inl (nA mTV)))] [.ref mo, .int (nI g)] (nI (les mTV g)) := by
  refine cR.mk (by decide) (retI _) (Nat.le_of_ble_eq_true rfl) ?_
  intro X hx hL hP hret ls hl
  subst hL
  have hl : lv_has ls 2 [(0, .ref mo), (1, .int (nI g))] := hl
  refine x_aload_n hx dX8_stands_0 hl 0 rfl ?_
  refine x_get8 hx hP 0 rfl 6 (Nat.le_of_ble_eq_true rfl) wf_RX8_13 rfl dX8_stands_1 ?_
  refine x_iload_n hx dX8_stands_4 hl 1 rfl ?_
  have hj_5 : g < 10 := by omega
  refine x_iald (v := nI (mTV g)) hx hP 1 rfl hj_5 (by decide) (rfl) dX8_stands_5 ?_
  have b_1 := hmTV g hj_5
  refine x_iload_n hx dX8_stands_6 hl 1 rfl ?_
  refine x_icmp_ge_N (a := (mTV g)) (b := g) (tgt := 19) hx dX8_stands_7 (by decide) (by omega) (by omega) (fun h_2 => ?_) (fun h_2 => ?_)
  · refine x_iload_n hx dX8_stands_19 hl 1 rfl ?_
    exact hret _ _ _ dX8_stands_20 (by congr 1; unfold les; omega)
  · refine x_aload_n hx dX8_stands_10 hl 0 rfl ?_
    refine x_get8 hx hP 0 rfl 6 (Nat.le_of_ble_eq_true rfl) wf_RX8_13 rfl dX8_stands_11 ?_
    refine x_iload_n hx dX8_stands_14 hl 1 rfl ?_
    have hj_15 : g < 10 := by omega
    refine x_iald (v := nI (mTV g)) hx hP 1 rfl hj_15 (by decide) (rfl) dX8_stands_15 ?_
    have b_3 := hmTV g hj_15
    refine x_goto (tgt := 20) hx dX8_stands_16 (by decide) ?_
    exact hret _ _ _ dX8_stands_20 (by congr 1; unfold les; omega)
/-- figures of the first j sides of cube c; 10 is blank -/
def seenM (TV NW : Nat → Nat) (c : Nat) : Nat → Nat
  | 0 => 0
  | j + 1 => if NW (6 * c + j) = 10 then seenM TV NW c j else seenM TV NW c j ||| both TV (NW (6 * c + j))
theorem seenM_lt {TV NW : Nat → Nat} (hT : ∀ k, k < 10 → TV k < 10) (hN : ∀ k, k < 24 → NW k < 11) {c : Nat} (hc : c < 4) : ∀ j, j ≤ 6 → seenM TV NW c j < 1024
  | 0, _ => by simp [seenM]
  | j + 1, h => by
    have ih := seenM_lt hT hN hc j (by omega)
    have h1 := hN (6 * c + j) (by omega)
    simp only [seenM]
    split
    · exact ih
    · have h3 : NW (6 * c + j) < 10 := by omega
      exact Nat.or_lt_two_pow (n := 10) ih (both_lt h3 (hT _ h3))
def shM (TV SC NW : Nat → Nat) (cu : Nat) (c : Nat) : Nat := if (decide (c < cu) && !(NW 24).testBit c) = true then seenM TV NW c (SC c) else 0
set_option maxHeartbeats 4000000 in
set_option maxRecDepth 100000 in
theorem c_X8_figuresOf (l : Launch) (D : KD) (mo : Nat) (mhd : Bool) (mlo : Nat) (mto : Nat) (mhn : Bool) (mcu : Nat) (y_sides : Nat) (y_other : Nat) (y_prices : Nat) (y_now : Nat) (msd : Nat) (y_text : Nat) (mlen : Nat) (mfa : Int) (mat : Nat) (mnu : Nat) (mna : Nat) (mri : Bool) (y_readDays : Nat) (mrc : Nat) (y_readSides : Nat) (y_readFigures : Nat) (mrp : Nat) (y_readOther : Nat) (y_readPrices : Nat) (mtp : Nat) (y_firstOf : Nat) (y_secondOf : Nat) (y_shown : Nat) (mun : Nat) (y_past : Nat) (y_choices : Nat) (mcm : Nat) (y_wanted : Nat) (mpm : Nat) (mpf : Int) (mpo : Nat) (y_ways : Nat) (y_waysThen : Nat) (mwr : Nat) (y_wrongDay : Nat) (y_wrongShown : Nat) (y_could : Nat) (y_shownIn : Nat) (mbk : Nat) (y_book : Nat) (y_images : Nat) (y_isKept : Nat) (mSC : Nat → Nat) (mTV : Nat → Nat) (mNW : Nat → Nat) (c : Nat) (hmSC : ∀ k, k < 4 → mSC k < 7) (hmTV : ∀ k, k < 10 → mTV k < 10) (hmNW : ∀ k, k < 24 → mNW k < 11) (hc : c < 4) : cR l yX8_figuresOf cX8_figuresOf 5 (some .int) rm_X8_figuresOf D [(mo, .inr (8, [.int (nI mhd.toNat), .int (nI mlo), .int (nI mto), .int (nI mhn.toNat), .int (nI mcu), .ref y_sides, .ref y_other, .ref y_prices, .ref y_now, .int (nI msd), .ref y_text, .int (nI mlen), .int (iI mfa), .int (nI mat), .int (nI mnu), .int (nI mna), .int (nI mri.toNat), .ref y_readDays, .int (nI mrc), .ref y_readSides, .ref y_readFigures, .int (nI mrp), .ref y_readOther, .ref y_readPrices, .int (nI mtp), .ref y_firstOf, .ref y_secondOf, .ref y_shown, .int (nI mun), .ref y_past, .ref y_choices, .int (nI mcm), .ref y_wanted, .int (nI mpm), .int (iI mpf), .int (nI mpo), .ref y_ways, .ref y_waysThen, .int (nI mwr), .ref y_wrongDay, .ref y_wrongShown, .ref y_could, .ref y_shownIn, .int (nI mbk), .ref y_book, .ref y_images, .ref y_isKept])), (y_sides, .inl (D.2.1, 4, .inl (nA mSC))), (y_other, .inl (D.2.1, 10, .inl (nA mTV))), (y_now, .inl (D.2.1, 26, .inl (nA mNW)))] [.ref mo, .int (nI c)] (nI (seenM mTV mNW c (mSC c))) := by
  refine cR.mk (by decide) (retI _) (Nat.le_of_ble_eq_true rfl) ?_
  intro X hx hL hP hret ls hl
  subst hL
  have hl : lv_has ls 5 [(0, .ref mo), (1, .int (nI c))] := hl
  have hsc := hmSC c hc
  refine x_iconst (v := nI 0) hx dX8_figuresOf_0 (by decide) ?_
  refine x_istore_n (lv' := [(2, .int (nI 0)), (0, .ref mo), (1, .int (nI c))]) hx dX8_figuresOf_1 hl (Nat.le_of_ble_eq_true rfl) rfl (fun ls hl => ?_)
  refine x_iconst (v := nI 0) hx dX8_figuresOf_2 (by decide) ?_
  refine x_istore_n (lv' := [(3, .int (nI 0)), (2, .int (nI 0)), (0, .ref mo), (1, .int (nI c))]) hx dX8_figuresOf_3 hl (Nat.le_of_ble_eq_true rfl) rfl (fun ls hl => ?_)
  have L4_1 : ∀ (L4_1n : Nat) (j : Nat), (j ≤ mSC c) → mSC c - j < L4_1n → ∀ ls : Array Slot, lv_has ls 5 [(0, .ref mo), (1, .int (nI c)), (2, .int (nI (seenM mTV mNW c j))), (3, .int (nI j))] → Wx X 0 0 (cxS X).heap [] 4 ls [] := by
    intro L4_1n
    induction L4_1n with
    | zero =>
      intro j h1 hm
      exact absurd hm (Nat.not_lt_zero _)
    | succ L4_1n ihL4_1 =>
      intro j h1 hm ls hl
      have hsl := seenM_lt hmTV hmNW hc j (by omega)
      refine x_iload_n hx dX8_figuresOf_4 hl 3 rfl ?_
      refine x_aload_n hx dX8_figuresOf_5 hl 0 rfl ?_
      refine x_get8 hx hP 0 rfl 5 (Nat.le_of_ble_eq_true rfl) wf_RX8_7 rfl dX8_figuresOf_6 ?_
      refine x_iload_n hx dX8_figuresOf_9 hl 1 rfl ?_
      have hj_10 : c < 4 := by omega
      refine x_iald (v := nI (mSC c)) hx hP 1 rfl hj_10 (by decide) (rfl) dX8_figuresOf_10 ?_
      have b_2 := hmSC c hj_10
      refine x_icmp_ge_N (a := j) (b := (mSC c)) (tgt := 61) hx dX8_figuresOf_11 (by decide) (by omega) (by omega) (fun h_3 => ?_) (fun h_3 => ?_)
      · refine x_iload_n hx dX8_figuresOf_61 hl 2 rfl ?_
        exact hret _ _ _ dX8_figuresOf_62 (by rw [show mSC c = j by omega])
      · refine x_aload_n hx dX8_figuresOf_14 hl 0 rfl ?_
        refine x_get8 hx hP 0 rfl 8 (Nat.le_of_ble_eq_true rfl) wf_RX8_19 rfl dX8_figuresOf_15 ?_
        refine x_bipush (v := nI 6) hx dX8_figuresOf_18 (by decide) ?_
        refine x_iload_n hx dX8_figuresOf_20 hl 1 rfl ?_
        refine x_imul (v := nI (6 * c)) hx dX8_figuresOf_21 (pk_mul _ _) ?_
        refine x_iload_n hx dX8_figuresOf_22 hl 3 rfl ?_
        refine x_iadd (v := nI (6 * c + j)) hx dX8_figuresOf_23 (nI_add _ _) ?_
        have hj_24 : 6 * c + j < 26 := by omega
        refine x_iald (v := nI (mNW (6 * c + j))) hx hP 3 rfl hj_24 (by decide) (rfl) dX8_figuresOf_24 ?_
        have hnw := hmNW (6 * c + j) (by omega)
        refine x_istore (lv' := [(4, .int (nI (mNW (6 * c + j)))), (0, .ref mo), (1, .int (nI c)), (2, .int (nI (seenM mTV mNW c j))), (3, .int (nI j))]) hx dX8_figuresOf_25 hl (Nat.le_of_ble_eq_true rfl) rfl (fun ls hl => ?_)
        refine x_iload_n hx dX8_figuresOf_27 hl 3 rfl ?_
        refine x_iload hx dX8_figuresOf_28 hl 0 rfl ?_
        refine x_bipush (v := nI 10) hx dX8_figuresOf_30 (by decide) ?_
        refine x_icmp_ne_N (a := (mNW (6 * c + j))) (b := 10) (tgt := 39) hx dX8_figuresOf_32 (by decide) (by omega) (by omega) (fun h_4 => ?_) (fun h_4 => ?_)
        · refine x_iconst (v := nI 1) hx dX8_figuresOf_39 (by decide) ?_
          refine x_iload hx dX8_figuresOf_40 hl 0 rfl ?_
          refine x_ishl (v := nI (2 ^ (mNW (6 * c + j)))) hx dX8_figuresOf_42 (nI_shl1 (by omega)) ?_
          refine x_iconst (v := nI 1) hx dX8_figuresOf_43 (by decide) ?_
          refine x_aload_n hx dX8_figuresOf_44 hl 1 rfl ?_
          refine x_get8 hx hP 0 rfl 6 (Nat.le_of_ble_eq_true rfl) wf_RX8_13 rfl dX8_figuresOf_45 ?_
          refine x_iload hx dX8_figuresOf_48 hl 0 rfl ?_
          have hj_50 : mNW (6 * c + j) < 10 := by omega
          refine x_iald (v := nI (mTV (mNW (6 * c + j)))) hx hP 2 rfl hj_50 (by decide) (rfl) dX8_figuresOf_50 ?_
          have b_5 := hmTV (mNW (6 * c + j)) hj_50
          refine x_ishl (v := nI (2 ^ (mTV (mNW (6 * c + j))))) hx dX8_figuresOf_51 (nI_shl1 (by omega)) ?_
          refine x_ior (v := nI ((2 ^ (mNW (6 * c + j))) ||| (2 ^ (mTV (mNW (6 * c + j)))))) hx dX8_figuresOf_52 (nI_or _ _) ?_
          refine x_ior (v := nI ((seenM mTV mNW c j) ||| ((2 ^ (mNW (6 * c + j))) ||| (2 ^ (mTV (mNW (6 * c + j))))))) hx dX8_figuresOf_53 (nI_or _ _) ?_
          refine x_istore_n (lv' := [(2, .int (nI ((seenM mTV mNW c j) ||| ((2 ^ (mNW (6 * c + j))) ||| (2 ^ (mTV (mNW (6 * c + j)))))))), (4, .int (nI (mNW (6 * c + j)))), (0, .ref mo), (1, .int (nI c)), (3, .int (nI j))]) hx dX8_figuresOf_54 hl (Nat.le_of_ble_eq_true rfl) rfl (fun ls hl => ?_)
          refine x_iinc (v := nI (j + 1)) (lv' := [(3, .int (nI (j + 1))), (2, .int (nI ((seenM mTV mNW c j) ||| ((2 ^ (mNW (6 * c + j))) ||| (2 ^ (mTV (mNW (6 * c + j)))))))), (4, .int (nI (mNW (6 * c + j)))), (0, .ref mo), (1, .int (nI c))]) hx dX8_figuresOf_55 hl 4 rfl (nI_addc j 1) (Nat.le_of_ble_eq_true rfl) rfl (fun ls hl => ?_)
          refine x_goto (tgt := 4) hx dX8_figuresOf_58 (by decide) ?_
          have e_6 : ((seenM mTV mNW c j) ||| ((2 ^ (mNW (6 * c + j))) ||| (2 ^ (mTV (mNW (6 * c + j))))) : Nat) = seenM mTV mNW c (j + 1) := by
            first | rfl | (simp only [seenM]; rw [if_neg (by assumption)]; rfl) | (simp only [seenM]; rw [if_pos (by assumption)]; exact Nat.or_zero _)
          have e_7 : (j + 1 : Nat) = (j + 1) := by
            first | rfl | omega | (simp [*]; done) | (simp [*]; omega)
          exact ihL4_1 (j + 1) (by first | assumption | omega | (simp [*]; done)) (by omega) _ (lv_to (l := [(0, .ref mo), (1, .int (nI c)), (2, .int (nI ((seenM mTV mNW c j) ||| ((2 ^ (mNW (6 * c + j))) ||| (2 ^ (mTV (mNW (6 * c + j)))))))), (3, .int (nI (j + 1)))]) (l2 := [(0, .ref mo), (1, .int (nI c)), (2, .int (nI (seenM mTV mNW c (j + 1)))), (3, .int (nI (j + 1)))]) (lv_sub hl [3, 4, 1, 0] rfl) (cE rfl (cE rfl (cE (congrArg (fun z => ((2, Value.int z) : Nat × Value)) (congrArg (fun z : Nat => nI z) e_6)) (cE (congrArg (fun z => ((3, Value.int z) : Nat × Value)) (congrArg (fun z : Nat => nI z) e_7)) rfl)))))
        · refine x_iconst (v := nI 0) hx dX8_figuresOf_35 (by decide) ?_
          refine x_goto (tgt := 53) hx dX8_figuresOf_36 (by decide) ?_
          refine x_ior (v := nI ((seenM mTV mNW c j) ||| 0)) hx dX8_figuresOf_53 (nI_or _ _) ?_
          refine x_istore_n (lv' := [(2, .int (nI ((seenM mTV mNW c j) ||| 0))), (4, .int (nI (mNW (6 * c + j)))), (0, .ref mo), (1, .int (nI c)), (3, .int (nI j))]) hx dX8_figuresOf_54 hl (Nat.le_of_ble_eq_true rfl) rfl (fun ls hl => ?_)
          refine x_iinc (v := nI (j + 1)) (lv' := [(3, .int (nI (j + 1))), (2, .int (nI ((seenM mTV mNW c j) ||| 0))), (4, .int (nI (mNW (6 * c + j)))), (0, .ref mo), (1, .int (nI c))]) hx dX8_figuresOf_55 hl 4 rfl (nI_addc j 1) (Nat.le_of_ble_eq_true rfl) rfl (fun ls hl => ?_)
          refine x_goto (tgt := 4) hx dX8_figuresOf_58 (by decide) ?_
          have e_8 : ((seenM mTV mNW c j) ||| 0 : Nat) = seenM mTV mNW c (j + 1) := by
            first | rfl | (simp only [seenM]; rw [if_neg (by assumption)]; rfl) | (simp only [seenM]; rw [if_pos (by assumption)]; exact Nat.or_zero _)
          have e_9 : (j + 1 : Nat) = (j + 1) := by
            first | rfl | omega | (simp [*]; done) | (simp [*]; omega)
          exact ihL4_1 (j + 1) (by first | assumption | omega | (simp [*]; done)) (by omega) _ (lv_to (l := [(0, .ref mo), (1, .int (nI c)), (2, .int (nI ((seenM mTV mNW c j) ||| 0))), (3, .int (nI (j + 1)))]) (l2 := [(0, .ref mo), (1, .int (nI c)), (2, .int (nI (seenM mTV mNW c (j + 1)))), (3, .int (nI (j + 1)))]) (lv_sub hl [3, 4, 1, 0] rfl) (cE rfl (cE rfl (cE (congrArg (fun z => ((2, Value.int z) : Nat × Value)) (congrArg (fun z : Nat => nI z) e_8)) (cE (congrArg (fun z => ((3, Value.int z) : Nat × Value)) (congrArg (fun z : Nat => nI z) e_9)) rfl)))))
  have e_10 : (0 : Nat) = seenM mTV mNW c 0 := by
    first | rfl | (simp only [seenM]; rw [if_neg (by assumption)]; rfl) | (simp only [seenM]; rw [if_pos (by assumption)]; exact Nat.or_zero _)
  exact L4_1 (mSC c - 0 + 1) 0 (by first | assumption | omega | (simp [*]; done)) (Nat.lt_succ_self _) _ (lv_to (l := [(0, .ref mo), (1, .int (nI c)), (2, .int (nI 0)), (3, .int (nI 0))]) (l2 := [(0, .ref mo), (1, .int (nI c)), (2, .int (nI (seenM mTV mNW c 0))), (3, .int (nI 0))]) (lv_sub hl [2, 3, 1, 0] rfl) (cE rfl (cE rfl (cE (congrArg (fun z => ((2, Value.int z) : Nat × Value)) (congrArg (fun z : Nat => nI z) e_10)) (cE rfl rfl)))))
set_option maxHeartbeats 4000000 in
set_option maxRecDepth 100000 in
theorem c_X8_findShown (l : Launch) (D : KD) (mo : Nat) (mhd : Bool) (mlo : Nat) (mto : Nat) (mhn : Bool) (mcu : Nat) (y_sides : Nat) (y_other : Nat) (y_prices : Nat) (y_now : Nat) (msd : Nat) (y_text : Nat) (mlen : Nat) (mfa : Int) (mat : Nat) (mnu : Nat) (mna : Nat) (mri : Bool) (y_readDays : Nat) (mrc : Nat) (y_readSides : Nat) (y_readFigures : Nat) (mrp : Nat) (y_readOther : Nat) (y_readPrices : Nat) (mtp : Nat) (y_firstOf : Nat) (y_secondOf : Nat) (y_shown : Nat) (mun : Nat) (y_past : Nat) (y_choices : Nat) (mcm : Nat) (y_wanted : Nat) (mpm : Nat) (mpf : Int) (mpo : Nat) (y_ways : Nat) (y_waysThen : Nat) (mwr : Nat) (y_wrongDay : Nat) (y_wrongShown : Nat) (y_could : Nat) (y_shownIn : Nat) (mbk : Nat) (y_book : Nat) (y_images : Nat) (y_isKept : Nat) (mSC : Nat → Nat) (mTV : Nat → Nat) (mNW : Nat → Nat) (mSH : Nat → Nat) (hmSC : ∀ k, k < 4 → mSC k < 7) (hmTV : ∀ k, k < 10 → mTV k < 10) (hmNW : ∀ k, k < 24 → mNW k < 11) (hlo : mNW 24 < 16) (hcu : mcu ≤ 4) : cV l yX8_findShown cX8_findShown 2 rm_X8_findShown D [(mo, .inr (8, [.int (nI mhd.toNat), .int (nI mlo), .int (nI mto), .int (nI mhn.toNat), .int (nI mcu), .ref y_sides, .ref y_other, .ref y_prices, .ref y_now, .int (nI msd), .ref y_text, .int (nI mlen), .int (iI mfa), .int (nI mat), .int (nI mnu), .int (nI mna), .int (nI mri.toNat), .ref y_readDays, .int (nI mrc), .ref y_readSides, .ref y_readFigures, .int (nI mrp), .ref y_readOther, .ref y_readPrices, .int (nI mtp), .ref y_firstOf, .ref y_secondOf, .ref y_shown, .int (nI mun), .ref y_past, .ref y_choices, .int (nI mcm), .ref y_wanted, .int (nI mpm), .int (iI mpf), .int (nI mpo), .ref y_ways, .ref y_waysThen, .int (nI mwr), .ref y_wrongDay, .ref y_wrongShown, .ref y_could, .ref y_shownIn, .int (nI mbk), .ref y_book, .ref y_images, .ref y_isKept])), (y_sides, .inl (D.2.1, 4, .inl (nA mSC))), (y_other, .inl (D.2.1, 10, .inl (nA mTV))), (y_now, .inl (D.2.1, 26, .inl (nA mNW))), (y_shown, .inl (D.2.1, 4, .inl (nA mSH)))] [.ref mo] [(mo, .inr (8, [.int (nI mhd.toNat), .int (nI mlo), .int (nI mto), .int (nI mhn.toNat), .int (nI mcu), .ref y_sides, .ref y_other, .ref y_prices, .ref y_now, .int (nI msd), .ref y_text, .int (nI mlen), .int (iI mfa), .int (nI mat), .int (nI mnu), .int (nI mna), .int (nI mri.toNat), .ref y_readDays, .int (nI mrc), .ref y_readSides, .ref y_readFigures, .int (nI mrp), .ref y_readOther, .ref y_readPrices, .int (nI mtp), .ref y_firstOf, .ref y_secondOf, .ref y_shown, .int (nI mun), .ref y_past, .ref y_choices, .int (nI mcm), .ref y_wanted, .int (nI mpm), .int (iI mpf), .int (nI mpo), .ref y_ways, .ref y_waysThen, .int (nI mwr), .ref y_wrongDay, .ref y_wrongShown, .ref y_could, .ref y_shownIn, .int (nI mbk), .ref y_book, .ref y_images, .ref y_isKept])), (y_sides, .inl (D.2.1, 4, .inl (nA mSC))), (y_other, .inl (D.2.1, 10, .inl (nA mTV))), (y_now, .inl (D.2.1, 26, .inl (nA mNW))), (y_shown, .inl (D.2.1, 4, .inl (nA (shM mTV mSC mNW mcu))))] := by
  refine cV.mk (by decide) (Nat.le_of_ble_eq_true rfl) ?_
  intro X A hx hL hA hW hret ls hl
  subst hL
  have hl : lv_has ls 2 [(0, .ref mo)] := hl
  refine x_iconst (v := nI 0) hx dX8_findShown_0 (by decide) ?_
  refine x_istore_n (lv' := [(1, .int (nI 0)), (0, .ref mo)]) hx dX8_findShown_1 hl (Nat.le_of_ble_eq_true rfl) rfl (fun ls hl => ?_)
  have L2_1 : ∀ (L2_1n : Nat) (j : Nat), (j ≤ 4) → 4 - j < L2_1n → ∀ (H : Heap) (locs : List Loc), Wd X D A [(mo, .inr (8, [.int (nI mhd.toNat), .int (nI mlo), .int (nI mto), .int (nI mhn.toNat), .int (nI mcu), .ref y_sides, .ref y_other, .ref y_prices, .ref y_now, .int (nI msd), .ref y_text, .int (nI mlen), .int (iI mfa), .int (nI mat), .int (nI mnu), .int (nI mna), .int (nI mri.toNat), .ref y_readDays, .int (nI mrc), .ref y_readSides, .ref y_readFigures, .int (nI mrp), .ref y_readOther, .ref y_readPrices, .int (nI mtp), .ref y_firstOf, .ref y_secondOf, .ref y_shown, .int (nI mun), .ref y_past, .ref y_choices, .int (nI mcm), .ref y_wanted, .int (nI mpm), .int (iI mpf), .int (nI mpo), .ref y_ways, .ref y_waysThen, .int (nI mwr), .ref y_wrongDay, .ref y_wrongShown, .ref y_could, .ref y_shownIn, .int (nI mbk), .ref y_book, .ref y_images, .ref y_isKept])), (y_sides, .inl (D.2.1, 4, .inl (nA mSC))), (y_other, .inl (D.2.1, 10, .inl (nA mTV))), (y_now, .inl (D.2.1, 26, .inl (nA mNW))), (y_shown, .inl (D.2.1, 4, .inl (nA (filN (shM mTV mSC mNW mcu) mSH j))))] H locs → ∀ ls : Array Slot, lv_has ls 2 [(0, .ref mo), (1, .int (nI j))] → Wx X 0 0 H locs 2 ls [] := by
    intro L2_1n
    induction L2_1n with
    | zero =>
      intro j h1 hm
      exact absurd hm (Nat.not_lt_zero _)
    | succ L2_1n ihL2_1 =>
      intro j h1 hm H locs hW ls hl
      refine x_iload_n hx dX8_findShown_2 hl 1 rfl ?_
      refine x_iconst (v := nI 4) hx dX8_findShown_3 (by decide) ?_
      refine x_icmp_ge_N (a := j) (b := 4) (tgt := 36) hx dX8_findShown_4 (by decide) (by omega) (by omega) (fun h_2 => ?_) (fun h_2 => ?_)
      · have e_3 : ∀ k, k < 4 → (filN (shM mTV mSC mNW mcu) mSH j) k = (shM mTV mSC mNW mcu) k := by
          intro k hk
          exact filN_in (by omega)
        have hW : Wd X D A [(mo, .inr (8, [.int (nI mhd.toNat), .int (nI mlo), .int (nI mto), .int (nI mhn.toNat), .int (nI mcu), .ref y_sides, .ref y_other, .ref y_prices, .ref y_now, .int (nI msd), .ref y_text, .int (nI mlen), .int (iI mfa), .int (nI mat), .int (nI mnu), .int (nI mna), .int (nI mri.toNat), .ref y_readDays, .int (nI mrc), .ref y_readSides, .ref y_readFigures, .int (nI mrp), .ref y_readOther, .ref y_readPrices, .int (nI mtp), .ref y_firstOf, .ref y_secondOf, .ref y_shown, .int (nI mun), .ref y_past, .ref y_choices, .int (nI mcm), .ref y_wanted, .int (nI mpm), .int (iI mpf), .int (nI mpo), .ref y_ways, .ref y_waysThen, .int (nI mwr), .ref y_wrongDay, .ref y_wrongShown, .ref y_could, .ref y_shownIn, .int (nI mbk), .ref y_book, .ref y_images, .ref y_isKept])), (y_sides, .inl (D.2.1, 4, .inl (nA mSC))), (y_other, .inl (D.2.1, 10, .inl (nA mTV))), (y_now, .inl (D.2.1, 26, .inl (nA mNW))), (y_shown, .inl (D.2.1, 4, .inl (nA (shM mTV mSC mNW mcu))))] _ _ := hW.row 4 rfl (fun j hj => congrArg (nI) (e_3 j hj)) rfl
        exact hret _ _ _ _ dX8_findShown_36 hW
      · refine x_aload_n hx dX8_findShown_7 hl 0 rfl ?_
        refine x_get8 hx hW.1 0 rfl 27 (Nat.le_of_ble_eq_true rfl) wf_RX8_50 rfl dX8_findShown_8 ?_
        refine x_iload_n hx dX8_findShown_11 hl 1 rfl ?_
        refine x_aload_n hx dX8_findShown_12 hl 0 rfl ?_
        refine x_iload_n hx dX8_findShown_13 hl 1 rfl ?_
        refine x_callRV (As := [.int (nI j)]) (rest := [.int (nI j), .ref y_shown]) hx yv_X8_isThere (c_X8_isThere _ D mo mhd mlo mto mhn mcu y_sides y_other y_prices y_now msd y_text mlen mfa mat mnu mna mri y_readDays mrc y_readSides y_readFigures mrp y_readOther y_readPrices mtp y_firstOf y_secondOf y_shown mun y_past y_choices mcm y_wanted mpm mpf mpo y_ways y_waysThen mwr y_wrongDay y_wrongShown y_could y_shownIn mbk y_book y_images y_isKept mNW j (by first | assumption | omega | (simp [*]; done)) (by first | assumption | omega | (simp [*]; done)) (by first | assumption | omega | (simp [*]; done))) wm_RX8_208 hW.1 [0, 3] rfl 0 rfl rfl ⟨rfl, rfl⟩ ⟨Nat.le_of_ble_eq_true rfl, Nat.le_of_ble_eq_true rfl⟩ ⟨Nat.zero_le _, Nat.zero_le _⟩ hl rfl rfl (Nat.le_of_ble_eq_true rfl) dX8_findShown_14 ?_
        refine x_if_eq_B (tgt := 28) hx dX8_findShown_17 (by decide) (fun h_4 => ?_) (fun h_4 => ?_)
        · refine x_iconst (v := nI 0) hx dX8_findShown_28 (by decide) ?_
          have hj_29 : j < 4 := by omega
          refine x_iast hx hW 4 rfl hj_29 (by decide) (upd_nA _ _ _) dX8_findShown_29 [(mo, .inr (8, [.int (nI mhd.toNat), .int (nI mlo), .int (nI mto), .int (nI mhn.toNat), .int (nI mcu), .ref y_sides, .ref y_other, .ref y_prices, .ref y_now, .int (nI msd), .ref y_text, .int (nI mlen), .int (iI mfa), .int (nI mat), .int (nI mnu), .int (nI mna), .int (nI mri.toNat), .ref y_readDays, .int (nI mrc), .ref y_readSides, .ref y_readFigures, .int (nI mrp), .ref y_readOther, .ref y_readPrices, .int (nI mtp), .ref y_firstOf, .ref y_secondOf, .ref y_shown, .int (nI mun), .ref y_past, .ref y_choices, .int (nI mcm), .ref y_wanted, .int (nI mpm), .int (iI mpf), .int (nI mpo), .ref y_ways, .ref y_waysThen, .int (nI mwr), .ref y_wrongDay, .ref y_wrongShown, .ref y_could, .ref y_shownIn, .int (nI mbk), .ref y_book, .ref y_images, .ref y_isKept])), (y_sides, .inl (D.2.1, 4, .inl (nA mSC))), (y_other, .inl (D.2.1, 10, .inl (nA mTV))), (y_now, .inl (D.2.1, 26, .inl (nA mNW))), (y_shown, .inl (D.2.1, 4, .inl (nA (va_up (filN (shM mTV mSC mNW mcu) mSH j) j 0))))] rfl (fun H locs hW => ?_)
          refine x_iinc (v := nI (j + 1)) (lv' := [(1, .int (nI (j + 1))), (0, .ref mo)]) hx dX8_findShown_30 hl 1 rfl (nI_addc j 1) (Nat.le_of_ble_eq_true rfl) rfl (fun ls hl => ?_)
          refine x_goto (tgt := 2) hx dX8_findShown_33 (by decide) ?_
          have e_5 : (j + 1 : Nat) = (j + 1) := by
            first | rfl | omega | (simp [*]; done) | (simp [*]; omega)
          have e_6 : ∀ k, k < 4 → (va_up (filN (shM mTV mSC mNW mcu) mSH j) j 0) k = (filN (shM mTV mSC mNW mcu) mSH (j + 1)) k := by
            intro k hk
            first | (rw [filN_0]; done) | exact filN_up (by rw [shM, if_pos (by assumption)]) k | exact filN_up (by rw [shM, if_neg (by simp only [*]; decide)]) k
          have hW : Wd X D A [(mo, .inr (8, [.int (nI mhd.toNat), .int (nI mlo), .int (nI mto), .int (nI mhn.toNat), .int (nI mcu), .ref y_sides, .ref y_other, .ref y_prices, .ref y_now, .int (nI msd), .ref y_text, .int (nI mlen), .int (iI mfa), .int (nI mat), .int (nI mnu), .int (nI mna), .int (nI mri.toNat), .ref y_readDays, .int (nI mrc), .ref y_readSides, .ref y_readFigures, .int (nI mrp), .ref y_readOther, .ref y_readPrices, .int (nI mtp), .ref y_firstOf, .ref y_secondOf, .ref y_shown, .int (nI mun), .ref y_past, .ref y_choices, .int (nI mcm), .ref y_wanted, .int (nI mpm), .int (iI mpf), .int (nI mpo), .ref y_ways, .ref y_waysThen, .int (nI mwr), .ref y_wrongDay, .ref y_wrongShown, .ref y_could, .ref y_shownIn, .int (nI mbk), .ref y_book, .ref y_images, .ref y_isKept])), (y_sides, .inl (D.2.1, 4, .inl (nA mSC))), (y_other, .inl (D.2.1, 10, .inl (nA mTV))), (y_now, .inl (D.2.1, 26, .inl (nA mNW))), (y_shown, .inl (D.2.1, 4, .inl (nA (filN (shM mTV mSC mNW mcu) mSH (j + 1)))))] _ _ := hW.row 4 rfl (fun j hj => congrArg (nI) (e_6 j hj)) rfl
          exact ihL2_1 (j + 1) (by first | assumption | omega | (simp [*]; done)) (by omega) _ _ hW _ (lv_to (l := [(0, .ref mo), (1, .int (nI (j + 1)))]) (l2 := [(0, .ref mo), (1, .int (nI (j + 1)))]) (lv_sub hl [1, 0] rfl) (cE rfl (cE (congrArg (fun z => ((1, Value.int z) : Nat × Value)) (congrArg (fun z : Nat => nI z) e_5)) rfl)))
        · refine x_aload_n hx dX8_findShown_20 hl 0 rfl ?_
          refine x_iload_n hx dX8_findShown_21 hl 1 rfl ?_
          refine x_callRV (As := [.int (nI j)]) (rest := [.int (nI j), .ref y_shown]) hx yv_X8_figuresOf (c_X8_figuresOf _ D mo mhd mlo mto mhn mcu y_sides y_other y_prices y_now msd y_text mlen mfa mat mnu mna mri y_readDays mrc y_readSides y_readFigures mrp y_readOther y_readPrices mtp y_firstOf y_secondOf y_shown mun y_past y_choices mcm y_wanted mpm mpf mpo y_ways y_waysThen mwr y_wrongDay y_wrongShown y_could y_shownIn mbk y_book y_images y_isKept mSC mTV mNW j (by first | assumption | omega | (simp [*]; done)) (by first | assumption | omega | (simp [*]; done)) (by first | assumption | omega | (simp [*]; done)) (by first | assumption | omega | (simp [*]; done))) wm_RX8_204 hW.1 [0, 1, 2, 3] rfl 0 rfl rfl ⟨rfl, rfl⟩ ⟨Nat.le_of_ble_eq_true rfl, Nat.le_of_ble_eq_true rfl⟩ ⟨Nat.zero_le _, Nat.zero_le _⟩ hl rfl rfl (Nat.le_of_ble_eq_true rfl) dX8_findShown_22 ?_
          refine x_goto (tgt := 29) hx dX8_findShown_25 (by decide) ?_
          have hj_29 : j < 4 := by omega
          refine x_iast hx hW 4 rfl hj_29 (by decide) (upd_nA _ _ _) dX8_findShown_29 [(mo, .inr (8, [.int (nI mhd.toNat), .int (nI mlo), .int (nI mto), .int (nI mhn.toNat), .int (nI mcu), .ref y_sides, .ref y_other, .ref y_prices, .ref y_now, .int (nI msd), .ref y_text, .int (nI mlen), .int (iI mfa), .int (nI mat), .int (nI mnu), .int (nI mna), .int (nI mri.toNat), .ref y_readDays, .int (nI mrc), .ref y_readSides, .ref y_readFigures, .int (nI mrp), .ref y_readOther, .ref y_readPrices, .int (nI mtp), .ref y_firstOf, .ref y_secondOf, .ref y_shown, .int (nI mun), .ref y_past, .ref y_choices, .int (nI mcm), .ref y_wanted, .int (nI mpm), .int (iI mpf), .int (nI mpo), .ref y_ways, .ref y_waysThen, .int (nI mwr), .ref y_wrongDay, .ref y_wrongShown, .ref y_could, .ref y_shownIn, .int (nI mbk), .ref y_book, .ref y_images, .ref y_isKept])), (y_sides, .inl (D.2.1, 4, .inl (nA mSC))), (y_other, .inl (D.2.1, 10, .inl (nA mTV))), (y_now, .inl (D.2.1, 26, .inl (nA mNW))), (y_shown, .inl (D.2.1, 4, .inl (nA (va_up (filN (shM mTV mSC mNW mcu) mSH j) j (seenM mTV mNW j (mSC j))))))] rfl (fun H locs hW => ?_)
          refine x_iinc (v := nI (j + 1)) (lv' := [(1, .int (nI (j + 1))), (0, .ref mo)]) hx dX8_findShown_30 hl 1 rfl (nI_addc j 1) (Nat.le_of_ble_eq_true rfl) rfl (fun ls hl => ?_)
          refine x_goto (tgt := 2) hx dX8_findShown_33 (by decide) ?_
          have e_7 : (j + 1 : Nat) = (j + 1) := by
            first | rfl | omega | (simp [*]; done) | (simp [*]; omega)
          have e_8 : ∀ k, k < 4 → (va_up (filN (shM mTV mSC mNW mcu) mSH j) j (seenM mTV mNW j (mSC j))) k = (filN (shM mTV mSC mNW mcu) mSH (j + 1)) k := by
            intro k hk
            first | (rw [filN_0]; done) | exact filN_up (by rw [shM, if_pos (by assumption)]) k | exact filN_up (by rw [shM, if_neg (by simp only [*]; decide)]) k
          have hW : Wd X D A [(mo, .inr (8, [.int (nI mhd.toNat), .int (nI mlo), .int (nI mto), .int (nI mhn.toNat), .int (nI mcu), .ref y_sides, .ref y_other, .ref y_prices, .ref y_now, .int (nI msd), .ref y_text, .int (nI mlen), .int (iI mfa), .int (nI mat), .int (nI mnu), .int (nI mna), .int (nI mri.toNat), .ref y_readDays, .int (nI mrc), .ref y_readSides, .ref y_readFigures, .int (nI mrp), .ref y_readOther, .ref y_readPrices, .int (nI mtp), .ref y_firstOf, .ref y_secondOf, .ref y_shown, .int (nI mun), .ref y_past, .ref y_choices, .int (nI mcm), .ref y_wanted, .int (nI mpm), .int (iI mpf), .int (nI mpo), .ref y_ways, .ref y_waysThen, .int (nI mwr), .ref y_wrongDay, .ref y_wrongShown, .ref y_could, .ref y_shownIn, .int (nI mbk), .ref y_book, .ref y_images, .ref y_isKept])), (y_sides, .inl (D.2.1, 4, .inl (nA mSC))), (y_other, .inl (D.2.1, 10, .inl (nA mTV))), (y_now, .inl (D.2.1, 26, .inl (nA mNW))), (y_shown, .inl (D.2.1, 4, .inl (nA (filN (shM mTV mSC mNW mcu) mSH (j + 1)))))] _ _ := hW.row 4 rfl (fun j hj => congrArg (nI) (e_8 j hj)) rfl
          exact ihL2_1 (j + 1) (by first | assumption | omega | (simp [*]; done)) (by omega) _ _ hW _ (lv_to (l := [(0, .ref mo), (1, .int (nI (j + 1)))]) (l2 := [(0, .ref mo), (1, .int (nI (j + 1)))]) (lv_sub hl [1, 0] rfl) (cE rfl (cE (congrArg (fun z => ((1, Value.int z) : Nat × Value)) (congrArg (fun z : Nat => nI z) e_7)) rfl)))
  have e_9 : ∀ k, k < 4 → (mSH) k = (filN (shM mTV mSC mNW mcu) mSH 0) k := by
    intro k hk
    first | (rw [filN_0]; done) | exact filN_up (by rw [shM, if_pos (by assumption)]) k | exact filN_up (by rw [shM, if_neg (by simp only [*]; decide)]) k
  have hW : Wd X D A [(mo, .inr (8, [.int (nI mhd.toNat), .int (nI mlo), .int (nI mto), .int (nI mhn.toNat), .int (nI mcu), .ref y_sides, .ref y_other, .ref y_prices, .ref y_now, .int (nI msd), .ref y_text, .int (nI mlen), .int (iI mfa), .int (nI mat), .int (nI mnu), .int (nI mna), .int (nI mri.toNat), .ref y_readDays, .int (nI mrc), .ref y_readSides, .ref y_readFigures, .int (nI mrp), .ref y_readOther, .ref y_readPrices, .int (nI mtp), .ref y_firstOf, .ref y_secondOf, .ref y_shown, .int (nI mun), .ref y_past, .ref y_choices, .int (nI mcm), .ref y_wanted, .int (nI mpm), .int (iI mpf), .int (nI mpo), .ref y_ways, .ref y_waysThen, .int (nI mwr), .ref y_wrongDay, .ref y_wrongShown, .ref y_could, .ref y_shownIn, .int (nI mbk), .ref y_book, .ref y_images, .ref y_isKept])), (y_sides, .inl (D.2.1, 4, .inl (nA mSC))), (y_other, .inl (D.2.1, 10, .inl (nA mTV))), (y_now, .inl (D.2.1, 26, .inl (nA mNW))), (y_shown, .inl (D.2.1, 4, .inl (nA (filN (shM mTV mSC mNW mcu) mSH 0))))] _ _ := hW.row 4 rfl (fun j hj => congrArg (nI) (e_9 j hj)) rfl
  exact L2_1 (4 - 0 + 1) 0 (by first | assumption | omega | (simp [*]; done)) (Nat.lt_succ_self _) _ _ hW _ (lv_sub hl [1, 0] rfl)
