/-! the reference: small methods -/
set_option maxHeartbeats 4000000 in
set_option maxRecDepth 100000 in
theorem c_X8_feed_no (l : Launch) (D : KD) (mo : Nat) (mhd : Bool) (mlo : Nat) (mto : Nat) (mhn : Bool) (mcu : Nat) (y_sides : Nat) (y_other : Nat) (y_prices : Nat) (y_now : Nat) (msd : Nat) (y_text : Nat) (mlen : Nat) (mfa : Int) (mat : Nat) (mnu : Nat) (mna : Nat) (mri : Bool) (y_readDays : Nat) (mrc : Nat) (y_readSides : Nat) (y_readFigures : Nat) (mrp : Nat) (y_readOther : Nat) (y_readPrices : Nat) (mtp : Nat) (y_firstOf : Nat) (y_secondOf : Nat) (y_shown : Nat) (mun : Nat) (y_past : Nat) (y_choices : Nat) (mcm : Nat) (y_wanted : Nat) (mpm : Nat) (mpf : Int) (mpo : Nat) (y_ways : Nat) (y_waysThen : Nat) (mwr : Nat) (y_wrongDay : Nat) (y_wrongShown : Nat) (y_could : Nat) (y_shownIn : Nat) (mbk : Nat) (y_book : Nat) (y_images : Nat) (y_isKept : Nat) (z : Int) (hlen : mlen ≤ 220) (hz : -2147483648 ≤ z ∧ z < 2147483648) (hno : ¬ ((0 ≤ z ∧ z ≤ 255) ∧ mlen < 220)) : cR l yX8_feed cX8_feed 2 (some .int) rm_X8_feed D [(mo, .inr (8, [.int (nI mhd.toNat), .int (nI mlo), .int (nI mto), .int (nI mhn.toNat), .int (nI mcu), .ref y_sides, .ref y_other, .ref y_prices, .ref y_now, .int (nI msd), .ref y_text, .int (nI mlen), .int (iI mfa), .int (nI mat), .int (nI mnu), .int (nI mna), .int (nI mri.toNat), .ref y_readDays, .int (nI mrc), .ref y_readSides, .ref y_readFigures, .int (nI mrp), .ref y_readOther, .ref y_readPrices, .int (nI mtp), .ref y_firstOf, .ref y_secondOf, .ref y_shown, .int (nI mun), .ref y_past, .ref y_choices, .int (nI mcm), .ref y_wanted, .int (nI mpm), .int (iI mpf), .int (nI mpo), .ref y_ways, .ref y_waysThen, .int (nI mwr), .ref y_wrongDay, .ref y_wrongShown, .ref y_could, .ref y_shownIn, .int (nI mbk), .ref y_book, .ref y_images, .ref y_isKept]))] [.ref mo, .int (iI z)] (iI (if 0 ≤ z ∧ z ≤ 255 then -1000000004 else -1000000002)) := by
  refine cR.mk (by decide) (retI _) (Nat.le_of_ble_eq_true rfl) ?_
  intro X hx hL hP hret ls hl
  subst hL
  have hl : lv_has ls 2 [(0, .ref mo), (1, .int (iI z))] := hl
  refine x_iload_n hx dX8_feed_0 hl 1 rfl ?_
  refine x_i2l (v := lI z) hx dX8_feed_1 (lI_of (by omega)) ?_
  refine x_lconst (v := lN 0) hx dX8_feed_2 (by decide) ?_
  refine x_ldc2 (u := lN 255) hx wk_RX8_113 (by decide) dX8_feed_3 ?_
  refine x_callRS (As := [.long (lI z), .long (lN 0), .long (lN 255)]) (rest := []) hx yv_X8_in (c_X8_in _ D z 0 255 (by first | assumption | omega | (simp [*]; done)) (by first | assumption | omega | (simp [*]; done)) (by first | assumption | omega | (simp [*]; done))) wm_RX8_93 hP [] rfl ⟨rfl, rfl⟩ ⟨Nat.le_of_ble_eq_true rfl, Nat.le_of_ble_eq_true rfl⟩ ⟨Nat.zero_le _, Nat.zero_le _⟩ hl rfl rfl (Nat.le_of_ble_eq_true rfl) dX8_feed_6 ?_
  refine x_if_ne_B (tgt := 15) hx dX8_feed_9 (by decide) (fun h_1 => ?_) (fun h_1 => ?_)
  · have hd_2 := of_decide_eq_true h_1
    refine x_aload_n hx dX8_feed_15 hl 0 rfl ?_
    refine x_get8 hx hP 0 rfl 11 (Nat.le_of_ble_eq_true rfl) wf_RX8_116 rfl dX8_feed_16 ?_
    refine x_sipush (v := nI 220) hx dX8_feed_19 (by decide) ?_
    refine x_icmp_ne_N (a := mlen) (b := 220) (tgt := 28) hx dX8_feed_22 (by decide) (by omega) (by omega) (fun h_3 => ?_) (fun h_3 => ?_)
    · omega
    · refine x_ldc (u := iI (-1000000004)) hx wk_RX8_119 (by decide) dX8_feed_25 ?_
      exact hret _ _ _ dX8_feed_27 (by congr 1; first | (rw [if_pos (by omega)]; done) | (rw [if_neg (by omega)]; done))
  · have hd_4 := of_decide_eq_false h_1
    refine x_ldc (u := iI (-1000000002)) hx wk_RX8_115 (by decide) dX8_feed_12 ?_
    exact hret _ _ _ dX8_feed_14 (by congr 1; first | (rw [if_pos (by omega)]; done) | (rw [if_neg (by omega)]; done))
set_option maxHeartbeats 4000000 in
set_option maxRecDepth 100000 in
theorem c_X8_feed (l : Launch) (D : KD) (mo : Nat) (mhd : Bool) (mlo : Nat) (mto : Nat) (mhn : Bool) (mcu : Nat) (y_sides : Nat) (y_other : Nat) (y_prices : Nat) (y_now : Nat) (msd : Nat) (y_text : Nat) (mlen : Nat) (mfa : Int) (mat : Nat) (mnu : Nat) (mna : Nat) (mri : Bool) (y_readDays : Nat) (mrc : Nat) (y_readSides : Nat) (y_readFigures : Nat) (mrp : Nat) (y_readOther : Nat) (y_readPrices : Nat) (mtp : Nat) (y_firstOf : Nat) (y_secondOf : Nat) (y_shown : Nat) (mun : Nat) (y_past : Nat) (y_choices : Nat) (mcm : Nat) (y_wanted : Nat) (mpm : Nat) (mpf : Int) (mpo : Nat) (y_ways : Nat) (y_waysThen : Nat) (mwr : Nat) (y_wrongDay : Nat) (y_wrongShown : Nat) (y_could : Nat) (y_shownIn : Nat) (mbk : Nat) (y_book : Nat) (y_images : Nat) (y_isKept : Nat) (mLT : Nat → Nat) (ch : Nat) (hlen : mlen < 220) (hch : ch < 256) : cM l yX8_feed cX8_feed 2 (some .int) rm_X8_feed D [(mo, .inr (8, [.int (nI mhd.toNat), .int (nI mlo), .int (nI mto), .int (nI mhn.toNat), .int (nI mcu), .ref y_sides, .ref y_other, .ref y_prices, .ref y_now, .int (nI msd), .ref y_text, .int (nI mlen), .int (iI mfa), .int (nI mat), .int (nI mnu), .int (nI mna), .int (nI mri.toNat), .ref y_readDays, .int (nI mrc), .ref y_readSides, .ref y_readFigures, .int (nI mrp), .ref y_readOther, .ref y_readPrices, .int (nI mtp), .ref y_firstOf, .ref y_secondOf, .ref y_shown, .int (nI mun), .ref y_past, .ref y_choices, .int (nI mcm), .ref y_wanted, .int (nI mpm), .int (iI mpf), .int (nI mpo), .ref y_ways, .ref y_waysThen, .int (nI mwr), .ref y_wrongDay, .ref y_wrongShown, .ref y_could, .ref y_shownIn, .int (nI mbk), .ref y_book, .ref y_images, .ref y_isKept])), (y_text, .inl (D.2.1, 220, .inl (nA mLT)))] [.ref mo, .int (nI ch)] (nI (mlen + 1)) [(mo, .inr (8, [.int (nI mhd.toNat), .int (nI mlo), .int (nI mto), .int (nI mhn.toNat), .int (nI mcu), .ref y_sides, .ref y_other, .ref y_prices, .ref y_now, .int (nI msd), .ref y_text, .int (nI (mlen + 1)), .int (iI mfa), .int (nI mat), .int (nI mnu), .int (nI mna), .int (nI mri.toNat), .ref y_readDays, .int (nI mrc), .ref y_readSides, .ref y_readFigures, .int (nI mrp), .ref y_readOther, .ref y_readPrices, .int (nI mtp), .ref y_firstOf, .ref y_secondOf, .ref y_shown, .int (nI mun), .ref y_past, .ref y_choices, .int (nI mcm), .ref y_wanted, .int (nI mpm), .int (iI mpf), .int (nI mpo), .ref y_ways, .ref y_waysThen, .int (nI mwr), .ref y_wrongDay, .ref y_wrongShown, .ref y_could, .ref y_shownIn, .int (nI mbk), .ref y_book, .ref y_images, .ref y_isKept])), (y_text, .inl (D.2.1, 220, .inl (nA (va_up mLT mlen ch))))] := by
  refine cM.mk (by decide) (retI _) (Nat.le_of_ble_eq_true rfl) ?_
  intro X A hx hL hA hW hret ls hl
  subst hL
  have hl : lv_has ls 2 [(0, .ref mo), (1, .int (nI ch))] := hl
  refine x_iload_n hx dX8_feed_0 hl 1 rfl ?_
  refine x_i2l (v := lN ch) hx dX8_feed_1 (nI_l (by omega)) ?_
  refine x_lconst (v := lN 0) hx dX8_feed_2 (by decide) ?_
  refine x_ldc2 (u := lN 255) hx wk_RX8_113 (by decide) dX8_feed_3 ?_
  refine x_callRS (As := [.long (lN ch), .long (lN 0), .long (lN 255)]) (rest := []) hx yv_X8_in (c_X8_in _ D (ch : Int) 0 255 (by first | assumption | omega | (simp [*]; done)) (by first | assumption | omega | (simp [*]; done)) (by first | assumption | omega | (simp [*]; done))) wm_RX8_93 hW.1 [] rfl ⟨rfl, rfl⟩ ⟨Nat.le_of_ble_eq_true rfl, Nat.le_of_ble_eq_true rfl⟩ ⟨Nat.zero_le _, Nat.zero_le _⟩ hl rfl rfl (Nat.le_of_ble_eq_true rfl) dX8_feed_6 ?_
  refine x_if_ne_B (tgt := 15) hx dX8_feed_9 (by decide) (fun h_1 => ?_) (fun h_1 => ?_)
  · have hd_2 := of_decide_eq_true h_1
    refine x_aload_n hx dX8_feed_15 hl 0 rfl ?_
    refine x_get8 hx hW.1 0 rfl 11 (Nat.le_of_ble_eq_true rfl) wf_RX8_116 rfl dX8_feed_16 ?_
    refine x_sipush (v := nI 220) hx dX8_feed_19 (by decide) ?_
    refine x_icmp_ne_N (a := mlen) (b := 220) (tgt := 28) hx dX8_feed_22 (by decide) (by omega) (by omega) (fun h_3 => ?_) (fun h_3 => ?_)
    · refine x_aload_n hx dX8_feed_28 hl 0 rfl ?_
      refine x_get8 hx hW.1 0 rfl 10 (Nat.le_of_ble_eq_true rfl) wf_RX8_22 rfl dX8_feed_29 ?_
      refine x_aload_n hx dX8_feed_32 hl 0 rfl ?_
      refine x_get8 hx hW.1 0 rfl 11 (Nat.le_of_ble_eq_true rfl) wf_RX8_116 rfl dX8_feed_33 ?_
      refine x_iload_n hx dX8_feed_36 hl 1 rfl ?_
      have hj_37 : mlen < 220 := by omega
      refine x_iast hx hW 1 rfl hj_37 (by decide) (upd_nA _ _ _) dX8_feed_37 [(mo, .inr (8, [.int (nI mhd.toNat), .int (nI mlo), .int (nI mto), .int (nI mhn.toNat), .int (nI mcu), .ref y_sides, .ref y_other, .ref y_prices, .ref y_now, .int (nI msd), .ref y_text, .int (nI mlen), .int (iI mfa), .int (nI mat), .int (nI mnu), .int (nI mna), .int (nI mri.toNat), .ref y_readDays, .int (nI mrc), .ref y_readSides, .ref y_readFigures, .int (nI mrp), .ref y_readOther, .ref y_readPrices, .int (nI mtp), .ref y_firstOf, .ref y_secondOf, .ref y_shown, .int (nI mun), .ref y_past, .ref y_choices, .int (nI mcm), .ref y_wanted, .int (nI mpm), .int (iI mpf), .int (nI mpo), .ref y_ways, .ref y_waysThen, .int (nI mwr), .ref y_wrongDay, .ref y_wrongShown, .ref y_could, .ref y_shownIn, .int (nI mbk), .ref y_book, .ref y_images, .ref y_isKept])), (y_text, .inl (D.2.1, 220, .inl (nA (va_up mLT mlen ch))))] rfl (fun H locs hW => ?_)
      refine x_aload_n hx dX8_feed_38 hl 0 rfl ?_
      refine x_dup hx dX8_feed_39 rfl ?_
      refine x_get8 hx hW.1 0 rfl 11 (Nat.le_of_ble_eq_true rfl) wf_RX8_116 rfl dX8_feed_40 ?_
      refine x_iconst (v := nI 1) hx dX8_feed_43 (by decide) ?_
      refine x_iadd (v := nI (mlen + 1)) hx dX8_feed_44 (nI_add _ _) ?_
      refine x_put8 hx hW 0 rfl 11 (Nat.le_of_ble_eq_true rfl) wf_RX8_116 rfl rfl rfl (Nat.le_of_ble_eq_true rfl) dX8_feed_45 [(mo, .inr (8, [.int (nI mhd.toNat), .int (nI mlo), .int (nI mto), .int (nI mhn.toNat), .int (nI mcu), .ref y_sides, .ref y_other, .ref y_prices, .ref y_now, .int (nI msd), .ref y_text, .int (nI (mlen + 1)), .int (iI mfa), .int (nI mat), .int (nI mnu), .int (nI mna), .int (nI mri.toNat), .ref y_readDays, .int (nI mrc), .ref y_readSides, .ref y_readFigures, .int (nI mrp), .ref y_readOther, .ref y_readPrices, .int (nI mtp), .ref y_firstOf, .ref y_secondOf, .ref y_shown, .int (nI mun), .ref y_past, .ref y_choices, .int (nI mcm), .ref y_wanted, .int (nI mpm), .int (iI mpf), .int (nI mpo), .ref y_ways, .ref y_waysThen, .int (nI mwr), .ref y_wrongDay, .ref y_wrongShown, .ref y_could, .ref y_shownIn, .int (nI mbk), .ref y_book, .ref y_images, .ref y_isKept])), (y_text, .inl (D.2.1, 220, .inl (nA (va_up mLT mlen ch))))] rfl (fun H locs hW => ?_)
      refine x_aload_n hx dX8_feed_48 hl 0 rfl ?_
      refine x_get8 hx hW.1 0 rfl 11 (Nat.le_of_ble_eq_true rfl) wf_RX8_116 rfl dX8_feed_49 ?_
      exact hret _ _ _ _ _ dX8_feed_52 (rfl) hW
    · omega
  · have hd_4 := of_decide_eq_false h_1
    omega
set_option maxHeartbeats 4000000 in
set_option maxRecDepth 100000 in
theorem c_X8_fault (l : Launch) (D : KD) (mo : Nat) (mhd : Bool) (mlo : Nat) (mto : Nat) (mhn : Bool) (mcu : Nat) (y_sides : Nat) (y_other : Nat) (y_prices : Nat) (y_now : Nat) (msd : Nat) (y_text : Nat) (mlen : Nat) (mfa : Int) (mat : Nat) (mnu : Nat) (mna : Nat) (mri : Bool) (y_readDays : Nat) (mrc : Nat) (y_readSides : Nat) (y_readFigures : Nat) (mrp : Nat) (y_readOther : Nat) (y_readPrices : Nat) (mtp : Nat) (y_firstOf : Nat) (y_secondOf : Nat) (y_shown : Nat) (mun : Nat) (y_past : Nat) (y_choices : Nat) (mcm : Nat) (y_wanted : Nat) (mpm : Nat) (mpf : Int) (mpo : Nat) (y_ways : Nat) (y_waysThen : Nat) (mwr : Nat) (y_wrongDay : Nat) (y_wrongShown : Nat) (y_could : Nat) (y_shownIn : Nat) (mbk : Nat) (y_book : Nat) (y_images : Nat) (y_isKept : Nat)  : cR l yX8_fault cX8_fault 1 (some .int) rm_X8_fault D [(mo, .inr (8, [.int (nI mhd.toNat), .int (nI mlo), .int (nI mto), .int (nI mhn.toNat), .int (nI mcu), .ref y_sides, .ref y_other, .ref y_prices, .ref y_now, .int (nI msd), .ref y_text, .int (nI mlen), .int (iI mfa), .int (nI mat), .int (nI mnu), .int (nI mna), .int (nI mri.toNat), .ref y_readDays, .int (nI mrc), .ref y_readSides, .ref y_readFigures, .int (nI mrp), .ref y_readOther, .ref y_readPrices, .int (nI mtp), .ref y_firstOf, .ref y_secondOf, .ref y_shown, .int (nI mun), .ref y_past, .ref y_choices, .int (nI mcm), .ref y_wanted, .int (nI mpm), .int (iI mpf), .int (nI mpo), .ref y_ways, .ref y_waysThen, .int (nI mwr), .ref y_wrongDay, .ref y_wrongShown, .ref y_could, .ref y_shownIn, .int (nI mbk), .ref y_book, .ref y_images, .ref y_isKept]))] [.ref mo] (iI mfa) := by
  refine cR.mk (by decide) (retI _) (Nat.le_of_ble_eq_true rfl) ?_
  intro X hx hL hP hret ls hl
  subst hL
  have hl : lv_has ls 1 [(0, .ref mo)] := hl
  refine x_aload_n hx dX8_fault_0 hl 0 rfl ?_
  refine x_get8 hx hP 0 rfl 12 (Nat.le_of_ble_eq_true rfl) wf_RX8_25 rfl dX8_fault_1 ?_
  exact hret _ _ _ dX8_fault_4 (rfl)
set_option maxHeartbeats 4000000 in
set_option maxRecDepth 100000 in
theorem c_X8_told (l : Launch) (D : KD) (mo : Nat) (mhd : Bool) (mlo : Nat) (mto : Nat) (mhn : Bool) (mcu : Nat) (y_sides : Nat) (y_other : Nat) (y_prices : Nat) (y_now : Nat) (msd : Nat) (y_text : Nat) (mlen : Nat) (mfa : Int) (mat : Nat) (mnu : Nat) (mna : Nat) (mri : Bool) (y_readDays : Nat) (mrc : Nat) (y_readSides : Nat) (y_readFigures : Nat) (mrp : Nat) (y_readOther : Nat) (y_readPrices : Nat) (mtp : Nat) (y_firstOf : Nat) (y_secondOf : Nat) (y_shown : Nat) (mun : Nat) (y_past : Nat) (y_choices : Nat) (mcm : Nat) (y_wanted : Nat) (mpm : Nat) (mpf : Int) (mpo : Nat) (y_ways : Nat) (y_waysThen : Nat) (mwr : Nat) (y_wrongDay : Nat) (y_wrongShown : Nat) (y_could : Nat) (y_shownIn : Nat) (mbk : Nat) (y_book : Nat) (y_images : Nat) (y_isKept : Nat) (mNW : Nat → Nat) (z : Int) (hz : -2147483648 ≤ z ∧ z < 2147483648) : cR l yX8_told cX8_told 2 (some .int) rm_X8_told D [(mo, .inr (8, [.int (nI mhd.toNat), .int (nI mlo), .int (nI mto), .int (nI mhn.toNat), .int (nI mcu), .ref y_sides, .ref y_other, .ref y_prices, .ref y_now, .int (nI msd), .ref y_text, .int (nI mlen), .int (iI mfa), .int (nI mat), .int (nI mnu), .int (nI mna), .int (nI mri.toNat), .ref y_readDays, .int (nI mrc), .ref y_readSides, .ref y_readFigures, .int (nI mrp), .ref y_readOther, .ref y_readPrices, .int (nI mtp), .ref y_firstOf, .ref y_secondOf, .ref y_shown, .int (nI mun), .ref y_past, .ref y_choices, .int (nI mcm), .ref y_wanted, .int (nI mpm), .int (iI mpf), .int (nI mpo), .ref y_ways, .ref y_waysThen, .int (nI mwr), .ref y_wrongDay, .ref y_wrongShown, .ref y_could, .ref y_shownIn, .int (nI mbk), .ref y_book, .ref y_images, .ref y_isKept])), (y_now, .inl (D.2.1, 26, .inl (nA mNW)))] [.ref mo, .int (iI z)] (iI (toldF z (mlo : Int) (mto : Int) (mhn.toNat : Int) (mcu : Int) (mlen : Int) (mNW 24 : Int) (mNW 25 : Int) (mwr : Int) (mbk : Int) (mun : Int) (mhd.toNat : Int))) := by
  refine cR.mk (by decide) (retI _) (Nat.le_of_ble_eq_true rfl) ?_
  intro X hx hL hP hret ls hl
  subst hL
  have hl : lv_has ls 2 [(0, .ref mo), (1, .int (iI z))] := hl
  refine x_iload_n hx dX8_told_0 hl 1 rfl ?_
  by_cases hout_1 : z < 0 ∨ 10 < z
  · refine x_tswOut (tgt := 129) hx dX8_told_1 (by omega) hout_1 (by decide) ?_
    refine x_ldc (u := iI (-1000000002)) hx wk_RX8_115 (by decide) dX8_told_129 ?_
    exact hret _ _ _ dX8_told_131 (by first | (simp [toldF, *]; done) | (simp [toldF, *]; rfl) | (simp only [toldF]; repeat rw [if_neg (by omega)]))
  rcases (show z = 0 ∨ z = 1 ∨ z = 2 ∨ z = 3 ∨ z = 4 ∨ z = 5 ∨ z = 6 ∨ z = 7 ∨ z = 8 ∨ z = 9 ∨ z = 10 by omega) with rfl | rfl | rfl | rfl | rfl | rfl | rfl | rfl | rfl | rfl | rfl
  · refine x_tswIn (i := 0) (off := 59) (tgt := 60) hx dX8_told_1 (by decide) (by decide) (by decide) (by decide) (by decide) ?_
    refine x_aload_n hx dX8_told_60 hl 0 rfl ?_
    refine x_get8 hx hP 0 rfl 1 (Nat.le_of_ble_eq_true rfl) wf_RX8_107 rfl dX8_told_61 ?_
    exact hret _ _ _ dX8_told_64 (by first | (simp [toldF, *]; done) | (simp [toldF, *]; rfl) | (simp only [toldF]; repeat rw [if_neg (by omega)]))
  · refine x_tswIn (i := 1) (off := 64) (tgt := 65) hx dX8_told_1 (by decide) (by decide) (by decide) (by decide) (by decide) ?_
    refine x_aload_n hx dX8_told_65 hl 0 rfl ?_
    refine x_get8 hx hP 0 rfl 2 (Nat.le_of_ble_eq_true rfl) wf_RX8_110 rfl dX8_told_66 ?_
    exact hret _ _ _ dX8_told_69 (by first | (simp [toldF, *]; done) | (simp [toldF, *]; rfl) | (simp only [toldF]; repeat rw [if_neg (by omega)]))
  · refine x_tswIn (i := 2) (off := 69) (tgt := 70) hx dX8_told_1 (by decide) (by decide) (by decide) (by decide) (by decide) ?_
    refine x_aload_n hx dX8_told_70 hl 0 rfl ?_
    refine x_get8 hx hP 0 rfl 3 (Nat.le_of_ble_eq_true rfl) wf_RX8_172 rfl dX8_told_71 ?_
    exact hret _ _ _ dX8_told_74 (by first | (simp [toldF, *]; done) | (simp [toldF, *]; rfl) | (simp only [toldF]; repeat rw [if_neg (by omega)]))
  · refine x_tswIn (i := 3) (off := 74) (tgt := 75) hx dX8_told_1 (by decide) (by decide) (by decide) (by decide) (by decide) ?_
    refine x_aload_n hx dX8_told_75 hl 0 rfl ?_
    refine x_get8 hx hP 0 rfl 4 (Nat.le_of_ble_eq_true rfl) wf_RX8_90 rfl dX8_told_76 ?_
    exact hret _ _ _ dX8_told_79 (by first | (simp [toldF, *]; done) | (simp [toldF, *]; rfl) | (simp only [toldF]; repeat rw [if_neg (by omega)]))
  · refine x_tswIn (i := 4) (off := 79) (tgt := 80) hx dX8_told_1 (by decide) (by decide) (by decide) (by decide) (by decide) ?_
    refine x_aload_n hx dX8_told_80 hl 0 rfl ?_
    refine x_get8 hx hP 0 rfl 11 (Nat.le_of_ble_eq_true rfl) wf_RX8_116 rfl dX8_told_81 ?_
    exact hret _ _ _ dX8_told_84 (by first | (simp [toldF, *]; done) | (simp [toldF, *]; rfl) | (simp only [toldF]; repeat rw [if_neg (by omega)]))
  · refine x_tswIn (i := 5) (off := 84) (tgt := 85) hx dX8_told_1 (by decide) (by decide) (by decide) (by decide) (by decide) ?_
    refine x_aload_n hx dX8_told_85 hl 0 rfl ?_
    refine x_get8 hx hP 0 rfl 8 (Nat.le_of_ble_eq_true rfl) wf_RX8_19 rfl dX8_told_86 ?_
    refine x_bipush (v := nI 24) hx dX8_told_89 (by decide) ?_
    have hj_91 : 24 < 26 := by omega
    refine x_iald (v := nI (mNW 24)) hx hP 1 rfl hj_91 (by decide) (rfl) dX8_told_91 ?_
    exact hret _ _ _ dX8_told_92 (by first | (simp [toldF, *]; done) | (simp [toldF, *]; rfl) | (simp only [toldF]; repeat rw [if_neg (by omega)]))
  · refine x_tswIn (i := 6) (off := 92) (tgt := 93) hx dX8_told_1 (by decide) (by decide) (by decide) (by decide) (by decide) ?_
    refine x_aload_n hx dX8_told_93 hl 0 rfl ?_
    refine x_get8 hx hP 0 rfl 8 (Nat.le_of_ble_eq_true rfl) wf_RX8_19 rfl dX8_told_94 ?_
    refine x_bipush (v := nI 25) hx dX8_told_97 (by decide) ?_
    have hj_99 : 25 < 26 := by omega
    refine x_iald (v := nI (mNW 25)) hx hP 1 rfl hj_99 (by decide) (rfl) dX8_told_99 ?_
    exact hret _ _ _ dX8_told_100 (by first | (simp [toldF, *]; done) | (simp [toldF, *]; rfl) | (simp only [toldF]; repeat rw [if_neg (by omega)]))
  · refine x_tswIn (i := 7) (off := 100) (tgt := 101) hx dX8_told_1 (by decide) (by decide) (by decide) (by decide) (by decide) ?_
    refine x_aload_n hx dX8_told_101 hl 0 rfl ?_
    refine x_get8 hx hP 0 rfl 38 (Nat.le_of_ble_eq_true rfl) wf_RX8_184 rfl dX8_told_102 ?_
    exact hret _ _ _ dX8_told_105 (by first | (simp [toldF, *]; done) | (simp [toldF, *]; rfl) | (simp only [toldF]; repeat rw [if_neg (by omega)]))
  · refine x_tswIn (i := 8) (off := 105) (tgt := 106) hx dX8_told_1 (by decide) (by decide) (by decide) (by decide) (by decide) ?_
    refine x_aload_n hx dX8_told_106 hl 0 rfl ?_
    refine x_get8 hx hP 0 rfl 43 (Nat.le_of_ble_eq_true rfl) wf_RX8_187 rfl dX8_told_107 ?_
    exact hret _ _ _ dX8_told_110 (by first | (simp [toldF, *]; done) | (simp [toldF, *]; rfl) | (simp only [toldF]; repeat rw [if_neg (by omega)]))
  · refine x_tswIn (i := 9) (off := 110) (tgt := 111) hx dX8_told_1 (by decide) (by decide) (by decide) (by decide) (by decide) ?_
    refine x_aload_n hx dX8_told_111 hl 0 rfl ?_
    refine x_get8 hx hP 0 rfl 28 (Nat.le_of_ble_eq_true rfl) wf_RX8_190 rfl dX8_told_112 ?_
    exact hret _ _ _ dX8_told_115 (by first | (simp [toldF, *]; done) | (simp [toldF, *]; rfl) | (simp only [toldF]; repeat rw [if_neg (by omega)]))
  · refine x_tswIn (i := 10) (off := 115) (tgt := 116) hx dX8_told_1 (by decide) (by decide) (by decide) (by decide) (by decide) ?_
    refine x_aload_n hx dX8_told_116 hl 0 rfl ?_
    refine x_get8 hx hP 0 rfl 0 (Nat.le_of_ble_eq_true rfl) wf_RX8_103 rfl dX8_told_117 ?_
    refine x_if_eq_B (tgt := 127) hx dX8_told_120 (by decide) (fun h_1 => ?_) (fun h_1 => ?_)
    · refine x_iconst (v := nI 0) hx dX8_told_127 (by decide) ?_
      exact hret _ _ _ dX8_told_128 (by first | (simp [toldF, *]; done) | (simp [toldF, *]; rfl) | (simp only [toldF]; repeat rw [if_neg (by omega)]))
    · refine x_iconst (v := nI 1) hx dX8_told_123 (by decide) ?_
      refine x_goto (tgt := 128) hx dX8_told_124 (by decide) ?_
      exact hret _ _ _ dX8_told_128 (by first | (simp [toldF, *]; done) | (simp [toldF, *]; rfl) | (simp only [toldF]; repeat rw [if_neg (by omega)]))
set_option maxHeartbeats 4000000 in
set_option maxRecDepth 100000 in
theorem c_X8_side (l : Launch) (D : KD) (mo : Nat) (mhd : Bool) (mlo : Nat) (mto : Nat) (mhn : Bool) (mcu : Nat) (y_sides : Nat) (y_other : Nat) (y_prices : Nat) (y_now : Nat) (msd : Nat) (y_text : Nat) (mlen : Nat) (mfa : Int) (mat : Nat) (mnu : Nat) (mna : Nat) (mri : Bool) (y_readDays : Nat) (mrc : Nat) (y_readSides : Nat) (y_readFigures : Nat) (mrp : Nat) (y_readOther : Nat) (y_readPrices : Nat) (mtp : Nat) (y_firstOf : Nat) (y_secondOf : Nat) (y_shown : Nat) (mun : Nat) (y_past : Nat) (y_choices : Nat) (mcm : Nat) (y_wanted : Nat) (mpm : Nat) (mpf : Int) (mpo : Nat) (y_ways : Nat) (y_waysThen : Nat) (mwr : Nat) (y_wrongDay : Nat) (y_wrongShown : Nat) (y_could : Nat) (y_shownIn : Nat) (mbk : Nat) (y_book : Nat) (y_images : Nat) (y_isKept : Nat) (mSC : Nat → Nat) (mNW : Nat → Nat) (z : Int) (w : Int) (hmSC : ∀ k, k < 4 → mSC k < 7) (hcu : mcu ≤ 4) (hz : -2147483648 ≤ z ∧ z < 2147483648) (hw : -2147483648 ≤ w ∧ w < 2147483648) : cR l yX8_side cX8_side 3 (some .int) rm_X8_side D [(mo, .inr (8, [.int (nI mhd.toNat), .int (nI mlo), .int (nI mto), .int (nI mhn.toNat), .int (nI mcu), .ref y_sides, .ref y_other, .ref y_prices, .ref y_now, .int (nI msd), .ref y_text, .int (nI mlen), .int (iI mfa), .int (nI mat), .int (nI mnu), .int (nI mna), .int (nI mri.toNat), .ref y_readDays, .int (nI mrc), .ref y_readSides, .ref y_readFigures, .int (nI mrp), .ref y_readOther, .ref y_readPrices, .int (nI mtp), .ref y_firstOf, .ref y_secondOf, .ref y_shown, .int (nI mun), .ref y_past, .ref y_choices, .int (nI mcm), .ref y_wanted, .int (nI mpm), .int (iI mpf), .int (nI mpo), .ref y_ways, .ref y_waysThen, .int (nI mwr), .ref y_wrongDay, .ref y_wrongShown, .ref y_could, .ref y_shownIn, .int (nI mbk), .ref y_book, .ref y_images, .ref y_isKept])), (y_sides, .inl (D.2.1, 4, .inl (nA mSC))), (y_now, .inl (D.2.1, 26, .inl (nA mNW)))] [.ref mo, .int (iI z), .int (iI w)] (iI (sideF mcu mSC mNW z w)) := by
  refine cR.mk (by decide) (retI _) (Nat.le_of_ble_eq_true rfl) ?_
  intro X hx hL hP hret ls hl
  subst hL
  have hl : lv_has ls 3 [(0, .ref mo), (1, .int (iI z)), (2, .int (iI w))] := hl
  refine x_aload_n hx dX8_side_0 hl 0 rfl ?_
  refine x_iload_n hx dX8_side_1 hl 1 rfl ?_
  refine x_callRV (As := [.int (iI z)]) (rest := []) hx yv_X8_isCube (c_X8_isCube _ D mo mhd mlo mto mhn mcu y_sides y_other y_prices y_now msd y_text mlen mfa mat mnu mna mri y_readDays mrc y_readSides y_readFigures mrp y_readOther y_readPrices mtp y_firstOf y_secondOf y_shown mun y_past y_choices mcm y_wanted mpm mpf mpo y_ways y_waysThen mwr y_wrongDay y_wrongShown y_could y_shownIn mbk y_book y_images y_isKept z (by first | assumption | omega | (simp [*]; done)) (by first | assumption | omega | (simp [*]; done))) wm_RX8_193 hP [0] rfl 0 rfl rfl ⟨rfl, rfl⟩ ⟨Nat.le_of_ble_eq_true rfl, Nat.le_of_ble_eq_true rfl⟩ ⟨Nat.zero_le _, Nat.zero_le _⟩ hl rfl rfl (Nat.le_of_ble_eq_true rfl) dX8_side_2 ?_
  refine x_if_ne_B (tgt := 11) hx dX8_side_5 (by decide) (fun h_1 => ?_) (fun h_1 => ?_)
  · have hd_2 := of_decide_eq_true h_1
    obtain ⟨c, rfl⟩ := Int.eq_ofNat_of_zero_le (show 0 ≤ z from by omega)
    have hl : lv_has ls 3 [(0, .ref mo), (1, .int (nI c)), (2, .int (iI w))] := hl
    have hsc := hmSC c (by omega)
    refine x_iload_n hx dX8_side_11 hl 2 rfl ?_
    refine x_iconst (v := iI (-1)) hx dX8_side_12 (by decide) ?_
    refine x_icmp_ne_Z (a := w) (b := (-1)) (tgt := 25) hx dX8_side_13 (by decide) (by omega) (by omega) (fun h_3 => ?_) (fun h_3 => ?_)
    · refine x_aload_n hx dX8_side_25 hl 0 rfl ?_
      refine x_iload_n hx dX8_side_26 hl 1 rfl ?_
      refine x_iload_n hx dX8_side_27 hl 2 rfl ?_
      refine x_callRV (As := [.int (nI c), .int (iI w)]) (rest := []) hx yv_X8_isSide (c_X8_isSide _ D mo mhd mlo mto mhn mcu y_sides y_other y_prices y_now msd y_text mlen mfa mat mnu mna mri y_readDays mrc y_readSides y_readFigures mrp y_readOther y_readPrices mtp y_firstOf y_secondOf y_shown mun y_past y_choices mcm y_wanted mpm mpf mpo y_ways y_waysThen mwr y_wrongDay y_wrongShown y_could y_shownIn mbk y_book y_images y_isKept mSC c w (by first | assumption | omega | (simp [*]; done)) (by first | assumption | omega | (simp [*]; done)) (by first | assumption | omega | (simp [*]; done))) wm_RX8_198 hP [0, 1] rfl 0 rfl rfl ⟨rfl, rfl⟩ ⟨Nat.le_of_ble_eq_true rfl, Nat.le_of_ble_eq_true rfl⟩ ⟨Nat.zero_le _, Nat.zero_le _⟩ hl rfl rfl (Nat.le_of_ble_eq_true rfl) dX8_side_28 ?_
      refine x_if_eq_B (tgt := 48) hx dX8_side_31 (by decide) (fun h_4 => ?_) (fun h_4 => ?_)
      · have hd_5 := of_decide_eq_false h_4
        refine x_ldc (u := iI (-1000000002)) hx wk_RX8_115 (by decide) dX8_side_48 ?_
        exact hret _ _ _ dX8_side_50 (by simp only [sideF, Int.toNat_natCast]; (repeat first | rw [if_pos (by omega)] | rw [if_neg (by omega)]); first | done | rfl | (rw [Nat.mul_comm]; rfl))
      · have hd_6 := of_decide_eq_true h_4
        obtain ⟨f, rfl⟩ := Int.eq_ofNat_of_zero_le (show 0 ≤ w from by omega)
        have hl : lv_has ls 3 [(0, .ref mo), (1, .int (nI c)), (2, .int (nI f))] := hl
        refine x_aload_n hx dX8_side_34 hl 0 rfl ?_
        refine x_get8 hx hP 0 rfl 8 (Nat.le_of_ble_eq_true rfl) wf_RX8_19 rfl dX8_side_35 ?_
        refine x_bipush (v := nI 6) hx dX8_side_38 (by decide) ?_
        refine x_iload_n hx dX8_side_40 hl 1 rfl ?_
        refine x_imul (v := nI (6 * c)) hx dX8_side_41 (pk_mul _ _) ?_
        refine x_iload_n hx dX8_side_42 hl 2 rfl ?_
        refine x_iadd (v := nI (6 * c + f)) hx dX8_side_43 (nI_add _ _) ?_
        have hj_44 : 6 * c + f < 26 := by omega
        refine x_iald (v := nI (mNW (6 * c + f))) hx hP 2 rfl hj_44 (by decide) (rfl) dX8_side_44 ?_
        refine x_goto (tgt := 50) hx dX8_side_45 (by decide) ?_
        exact hret _ _ _ dX8_side_50 (by simp only [sideF, Int.toNat_natCast]; (repeat first | rw [if_pos (by omega)] | rw [if_neg (by omega)]); first | done | rfl | (rw [Nat.mul_comm]; rfl))
    · refine x_aload_n hx dX8_side_16 hl 0 rfl ?_
      refine x_get8 hx hP 0 rfl 5 (Nat.le_of_ble_eq_true rfl) wf_RX8_7 rfl dX8_side_17 ?_
      refine x_iload_n hx dX8_side_20 hl 1 rfl ?_
      have hj_21 : c < 4 := by omega
      refine x_iald (v := nI (mSC c)) hx hP 1 rfl hj_21 (by decide) (rfl) dX8_side_21 ?_
      have b_7 := hmSC c hj_21
      refine x_goto (tgt := 50) hx dX8_side_22 (by decide) ?_
      exact hret _ _ _ dX8_side_50 (by simp only [sideF, Int.toNat_natCast]; (repeat first | rw [if_pos (by omega)] | rw [if_neg (by omega)]); first | done | rfl | (rw [Nat.mul_comm]; rfl))
  · have hd_8 := of_decide_eq_false h_1
    refine x_ldc (u := iI (-1000000001)) hx wk_RX8_197 (by decide) dX8_side_8 ?_
    exact hret _ _ _ dX8_side_10 (by simp only [sideF, Int.toNat_natCast]; (repeat first | rw [if_pos (by omega)] | rw [if_neg (by omega)]); first | done | rfl | (rw [Nat.mul_comm]; rfl))
set_option maxHeartbeats 4000000 in
set_option maxRecDepth 100000 in
theorem c_X8_turned (l : Launch) (D : KD) (mo : Nat) (mhd : Bool) (mlo : Nat) (mto : Nat) (mhn : Bool) (mcu : Nat) (y_sides : Nat) (y_other : Nat) (y_prices : Nat) (y_now : Nat) (msd : Nat) (y_text : Nat) (mlen : Nat) (mfa : Int) (mat : Nat) (mnu : Nat) (mna : Nat) (mri : Bool) (y_readDays : Nat) (mrc : Nat) (y_readSides : Nat) (y_readFigures : Nat) (mrp : Nat) (y_readOther : Nat) (y_readPrices : Nat) (mtp : Nat) (y_firstOf : Nat) (y_secondOf : Nat) (y_shown : Nat) (mun : Nat) (y_past : Nat) (y_choices : Nat) (mcm : Nat) (y_wanted : Nat) (mpm : Nat) (mpf : Int) (mpo : Nat) (y_ways : Nat) (y_waysThen : Nat) (mwr : Nat) (y_wrongDay : Nat) (y_wrongShown : Nat) (y_could : Nat) (y_shownIn : Nat) (mbk : Nat) (y_book : Nat) (y_images : Nat) (y_isKept : Nat) (mTV : Nat → Nat) (z : Int) (hmTV : ∀ k, k < 10 → mTV k < 10) (hz : -2147483648 ≤ z ∧ z < 2147483648) : cR l yX8_turned cX8_turned 2 (some .int) rm_X8_turned D [(mo, .inr (8, [.int (nI mhd.toNat), .int (nI mlo), .int (nI mto), .int (nI mhn.toNat), .int (nI mcu), .ref y_sides, .ref y_other, .ref y_prices, .ref y_now, .int (nI msd), .ref y_text, .int (nI mlen), .int (iI mfa), .int (nI mat), .int (nI mnu), .int (nI mna), .int (nI mri.toNat), .ref y_readDays, .int (nI mrc), .ref y_readSides, .ref y_readFigures, .int (nI mrp), .ref y_readOther, .ref y_readPrices, .int (nI mtp), .ref y_firstOf, .ref y_secondOf, .ref y_shown, .int (nI mun), .ref y_past, .ref y_choices, .int (nI mcm), .ref y_wanted, .int (nI mpm), .int (iI mpf), .int (nI mpo), .ref y_ways, .ref y_waysThen, .int (nI mwr), .ref y_wrongDay, .ref y_wrongShown, .ref y_could, .ref y_shownIn, .int (nI mbk), .ref y_book, .ref y_images, .ref y_isKept])), (y_other, .inl (D.2.1, 10, .inl (nA mTV)))] [.ref mo, .int (iI z)] (iI (figF mTV z)) := by
  refine cR.mk (by decide) (retI _) (Nat.le_of_ble_eq_true rfl) ?_
  intro X hx hL hP hret ls hl
  subst hL
  have hl : lv_has ls 2 [(0, .ref mo), (1, .int (iI z))] := hl
  refine x_iload_n hx dX8_turned_0 hl 1 rfl ?_
  refine x_callRS (As := [.int (iI z)]) (rest := []) hx yv_X8_isFigure (c_X8_isFigure _ D z (by first | assumption | omega | (simp [*]; done))) wm_RX8_201 hP [] rfl ⟨rfl, rfl⟩ ⟨Nat.le_of_ble_eq_true rfl, Nat.le_of_ble_eq_true rfl⟩ ⟨Nat.zero_le _, Nat.zero_le _⟩ hl rfl rfl (Nat.le_of_ble_eq_true rfl) dX8_turned_1 ?_
  refine x_if_eq_B (tgt := 16) hx dX8_turned_4 (by decide) (fun h_1 => ?_) (fun h_1 => ?_)
  · have hd_2 := of_decide_eq_false h_1
    refine x_ldc (u := iI (-1000000001)) hx wk_RX8_197 (by decide) dX8_turned_16 ?_
    exact hret _ _ _ dX8_turned_18 (by simp only [figF, Int.toNat_natCast]; (repeat first | rw [if_pos (by omega)] | rw [if_neg (by omega)]); try rfl)
  · have hd_3 := of_decide_eq_true h_1
    obtain ⟨c, rfl⟩ := Int.eq_ofNat_of_zero_le (show 0 ≤ z from by omega)
    have hl : lv_has ls 2 [(0, .ref mo), (1, .int (nI c))] := hl
    refine x_aload_n hx dX8_turned_7 hl 0 rfl ?_
    refine x_get8 hx hP 0 rfl 6 (Nat.le_of_ble_eq_true rfl) wf_RX8_13 rfl dX8_turned_8 ?_
    refine x_iload_n hx dX8_turned_11 hl 1 rfl ?_
    have hj_12 : c < 10 := by omega
    refine x_iald (v := nI (mTV c)) hx hP 1 rfl hj_12 (by decide) (rfl) dX8_turned_12 ?_
    have b_4 := hmTV c hj_12
    refine x_goto (tgt := 18) hx dX8_turned_13 (by decide) ?_
    exact hret _ _ _ dX8_turned_18 (by simp only [figF, Int.toNat_natCast]; (repeat first | rw [if_pos (by omega)] | rw [if_neg (by omega)]); try rfl)
set_option maxHeartbeats 4000000 in
set_option maxRecDepth 100000 in
theorem c_X8_shows (l : Launch) (D : KD) (mo : Nat) (mhd : Bool) (mlo : Nat) (mto : Nat) (mhn : Bool) (mcu : Nat) (y_sides : Nat) (y_other : Nat) (y_prices : Nat) (y_now : Nat) (msd : Nat) (y_text : Nat) (mlen : Nat) (mfa : Int) (mat : Nat) (mnu : Nat) (mna : Nat) (mri : Bool) (y_readDays : Nat) (mrc : Nat) (y_readSides : Nat) (y_readFigures : Nat) (mrp : Nat) (y_readOther : Nat) (y_readPrices : Nat) (mtp : Nat) (y_firstOf : Nat) (y_secondOf : Nat) (y_shown : Nat) (mun : Nat) (y_past : Nat) (y_choices : Nat) (mcm : Nat) (y_wanted : Nat) (mpm : Nat) (mpf : Int) (mpo : Nat) (y_ways : Nat) (y_waysThen : Nat) (mwr : Nat) (y_wrongDay : Nat) (y_wrongShown : Nat) (y_could : Nat) (y_shownIn : Nat) (mbk : Nat) (y_book : Nat) (y_images : Nat) (y_isKept : Nat) (mSC : Nat → Nat) (mTV : Nat → Nat) (mNW : Nat → Nat) (z : Int) (hmSC : ∀ k, k < 4 → mSC k < 7) (hmTV : ∀ k, k < 10 → mTV k < 10) (hmNW : ∀ k, k < 24 → mNW k < 11) (hcu : mcu ≤ 4) (hz : -2147483648 ≤ z ∧ z < 2147483648) : cR l yX8_shows cX8_shows 2 (some .int) rm_X8_shows D [(mo, .inr (8, [.int (nI mhd.toNat), .int (nI mlo), .int (nI mto), .int (nI mhn.toNat), .int (nI mcu), .ref y_sides, .ref y_other, .ref y_prices, .ref y_now, .int (nI msd), .ref y_text, .int (nI mlen), .int (iI mfa), .int (nI mat), .int (nI mnu), .int (nI mna), .int (nI mri.toNat), .ref y_readDays, .int (nI mrc), .ref y_readSides, .ref y_readFigures, .int (nI mrp), .ref y_readOther, .ref y_readPrices, .int (nI mtp), .ref y_firstOf, .ref y_secondOf, .ref y_shown, .int (nI mun), .ref y_past, .ref y_choices, .int (nI mcm), .ref y_wanted, .int (nI mpm), .int (iI mpf), .int (nI mpo), .ref y_ways, .ref y_waysThen, .int (nI mwr), .ref y_wrongDay, .ref y_wrongShown, .ref y_could, .ref y_shownIn, .int (nI mbk), .ref y_book, .ref y_images, .ref y_isKept])), (y_sides, .inl (D.2.1, 4, .inl (nA mSC))), (y_other, .inl (D.2.1, 10, .inl (nA mTV))), (y_now, .inl (D.2.1, 26, .inl (nA mNW)))] [.ref mo, .int (iI z)] (iI (cubF mcu (fun c9 => seenM mTV mNW c9 (mSC c9)) z)) := by
  refine cR.mk (by decide) (retI _) (Nat.le_of_ble_eq_true rfl) ?_
  intro X hx hL hP hret ls hl
  subst hL
  have hl : lv_has ls 2 [(0, .ref mo), (1, .int (iI z))] := hl
  refine x_aload_n hx dX8_shows_0 hl 0 rfl ?_
  refine x_iload_n hx dX8_shows_1 hl 1 rfl ?_
  refine x_callRV (As := [.int (iI z)]) (rest := []) hx yv_X8_isCube (c_X8_isCube _ D mo mhd mlo mto mhn mcu y_sides y_other y_prices y_now msd y_text mlen mfa mat mnu mna mri y_readDays mrc y_readSides y_readFigures mrp y_readOther y_readPrices mtp y_firstOf y_secondOf y_shown mun y_past y_choices mcm y_wanted mpm mpf mpo y_ways y_waysThen mwr y_wrongDay y_wrongShown y_could y_shownIn mbk y_book y_images y_isKept z (by first | assumption | omega | (simp [*]; done)) (by first | assumption | omega | (simp [*]; done))) wm_RX8_193 hP [0] rfl 0 rfl rfl ⟨rfl, rfl⟩ ⟨Nat.le_of_ble_eq_true rfl, Nat.le_of_ble_eq_true rfl⟩ ⟨Nat.zero_le _, Nat.zero_le _⟩ hl rfl rfl (Nat.le_of_ble_eq_true rfl) dX8_shows_2 ?_
  refine x_if_eq_B (tgt := 16) hx dX8_shows_5 (by decide) (fun h_1 => ?_) (fun h_1 => ?_)
  · have hd_2 := of_decide_eq_false h_1
    refine x_ldc (u := iI (-1000000001)) hx wk_RX8_197 (by decide) dX8_shows_16 ?_
    exact hret _ _ _ dX8_shows_18 (by simp only [cubF, Int.toNat_natCast]; (repeat first | rw [if_pos (by omega)] | rw [if_neg (by omega)]); try rfl)
  · have hd_3 := of_decide_eq_true h_1
    obtain ⟨c, rfl⟩ := Int.eq_ofNat_of_zero_le (show 0 ≤ z from by omega)
    have hl : lv_has ls 2 [(0, .ref mo), (1, .int (nI c))] := hl
    refine x_aload_n hx dX8_shows_8 hl 0 rfl ?_
    refine x_iload_n hx dX8_shows_9 hl 1 rfl ?_
    refine x_callRV (As := [.int (nI c)]) (rest := []) hx yv_X8_figuresOf (c_X8_figuresOf _ D mo mhd mlo mto mhn mcu y_sides y_other y_prices y_now msd y_text mlen mfa mat mnu mna mri y_readDays mrc y_readSides y_readFigures mrp y_readOther y_readPrices mtp y_firstOf y_secondOf y_shown mun y_past y_choices mcm y_wanted mpm mpf mpo y_ways y_waysThen mwr y_wrongDay y_wrongShown y_could y_shownIn mbk y_book y_images y_isKept mSC mTV mNW c (by first | assumption | omega | (simp [*]; done)) (by first | assumption | omega | (simp [*]; done)) (by first | assumption | omega | (simp [*]; done)) (by first | assumption | omega | (simp [*]; done))) wm_RX8_204 hP [0, 1, 2, 3] rfl 0 rfl rfl ⟨rfl, rfl⟩ ⟨Nat.le_of_ble_eq_true rfl, Nat.le_of_ble_eq_true rfl⟩ ⟨Nat.zero_le _, Nat.zero_le _⟩ hl rfl rfl (Nat.le_of_ble_eq_true rfl) dX8_shows_10 ?_
    refine x_goto (tgt := 18) hx dX8_shows_13 (by decide) ?_
    exact hret _ _ _ dX8_shows_18 (by simp only [cubF, Int.toNat_natCast]; (repeat first | rw [if_pos (by omega)] | rw [if_neg (by omega)]); try rfl)
set_option maxHeartbeats 4000000 in
set_option maxRecDepth 100000 in
theorem c_X8_price (l : Launch) (D : KD) (mo : Nat) (mhd : Bool) (mlo : Nat) (mto : Nat) (mhn : Bool) (mcu : Nat) (y_sides : Nat) (y_other : Nat) (y_prices : Nat) (y_now : Nat) (msd : Nat) (y_text : Nat) (mlen : Nat) (mfa : Int) (mat : Nat) (mnu : Nat) (mna : Nat) (mri : Bool) (y_readDays : Nat) (mrc : Nat) (y_readSides : Nat) (y_readFigures : Nat) (mrp : Nat) (y_readOther : Nat) (y_readPrices : Nat) (mtp : Nat) (y_firstOf : Nat) (y_secondOf : Nat) (y_shown : Nat) (mun : Nat) (y_past : Nat) (y_choices : Nat) (mcm : Nat) (y_wanted : Nat) (mpm : Nat) (mpf : Int) (mpo : Nat) (y_ways : Nat) (y_waysThen : Nat) (mwr : Nat) (y_wrongDay : Nat) (y_wrongShown : Nat) (y_could : Nat) (y_shownIn : Nat) (mbk : Nat) (y_book : Nat) (y_images : Nat) (y_isKept : Nat) (mPR : Nat → Nat) (z : Int) (hmPR : ∀ k, k < 10 → mPR k < 100) (hz : -2147483648 ≤ z ∧ z < 2147483648) : cR l yX8_price cX8_price 4 (some .int) rm_X8_price D [(mo, .inr (8, [.int (nI mhd.toNat), .int (nI mlo), .int (nI mto), .int (nI mhn.toNat), .int (nI mcu), .ref y_sides, .ref y_other, .ref y_prices, .ref y_now, .int (nI msd), .ref y_text, .int (nI mlen), .int (iI mfa), .int (nI mat), .int (nI mnu), .int (nI mna), .int (nI mri.toNat), .ref y_readDays, .int (nI mrc), .ref y_readSides, .ref y_readFigures, .int (nI mrp), .ref y_readOther, .ref y_readPrices, .int (nI mtp), .ref y_firstOf, .ref y_secondOf, .ref y_shown, .int (nI mun), .ref y_past, .ref y_choices, .int (nI mcm), .ref y_wanted, .int (nI mpm), .int (iI mpf), .int (nI mpo), .ref y_ways, .ref y_waysThen, .int (nI mwr), .ref y_wrongDay, .ref y_wrongShown, .ref y_could, .ref y_shownIn, .int (nI mbk), .ref y_book, .ref y_images, .ref y_isKept])), (y_prices, .inl (D.2.1, 10, .inl (nA mPR)))] [.ref mo, .int (iI z)] (iI (priceF mPR z)) := by
  refine cR.mk (by decide) (retI _) (Nat.le_of_ble_eq_true rfl) ?_
  intro X hx hL hP hret ls hl
  subst hL
  have hl : lv_has ls 4 [(0, .ref mo), (1, .int (iI z))] := hl
  refine x_iload_n hx dX8_price_0 hl 1 rfl ?_
  refine x_i2l (v := lI z) hx dX8_price_1 (lI_of (by omega)) ?_
  refine x_lconst (v := lN 0) hx dX8_price_2 (by decide) ?_
  refine x_ldc2 (u := lN 1023) hx wk_RX8_297 (by decide) dX8_price_3 ?_
  refine x_callRS (As := [.long (lI z), .long (lN 0), .long (lN 1023)]) (rest := []) hx yv_X8_in (c_X8_in _ D z 0 1023 (by first | assumption | omega | (simp [*]; done)) (by first | assumption | omega | (simp [*]; done)) (by first | assumption | omega | (simp [*]; done))) wm_RX8_93 hP [] rfl ⟨rfl, rfl⟩ ⟨Nat.le_of_ble_eq_true rfl, Nat.le_of_ble_eq_true rfl⟩ ⟨Nat.zero_le _, Nat.zero_le _⟩ hl rfl rfl (Nat.le_of_ble_eq_true rfl) dX8_price_6 ?_
  refine x_if_ne_B (tgt := 15) hx dX8_price_9 (by decide) (fun h_1 => ?_) (fun h_1 => ?_)
  · have hd_2 := of_decide_eq_true h_1
    obtain ⟨m, rfl⟩ := Int.eq_ofNat_of_zero_le (show 0 ≤ z from by omega)
    have hl : lv_has ls 4 [(0, .ref mo), (1, .int (nI m))] := hl
    refine x_iconst (v := nI 0) hx dX8_price_15 (by decide) ?_
    refine x_istore_n (lv' := [(2, .int (nI 0)), (0, .ref mo), (1, .int (nI m))]) hx dX8_price_16 hl (Nat.le_of_ble_eq_true rfl) rfl (fun ls hl => ?_)
    refine x_iconst (v := nI 0) hx dX8_price_17 (by decide) ?_
    refine x_istore_n (lv' := [(3, .int (nI 0)), (2, .int (nI 0)), (0, .ref mo), (1, .int (nI m))]) hx dX8_price_18 hl (Nat.le_of_ble_eq_true rfl) rfl (fun ls hl => ?_)
    have L19_3 : ∀ (L19_3n : Nat) (j : Nat), (j ≤ 10) → (smN (fun g9 => (m.testBit g9).toNat * mPR g9) j ≤ 100 * j) → 10 - j < L19_3n → ∀ ls : Array Slot, lv_has ls 4 [(0, .ref mo), (1, .int (nI m)), (2, .int (nI (smN (fun g9 => (m.testBit g9).toNat * mPR g9) j))), (3, .int (nI j))] → Wx X 0 0 (cxS X).heap [] 19 ls [] := by
      intro L19_3n
      induction L19_3n with
      | zero =>
        intro j h1 h2 hm
        exact absurd hm (Nat.not_lt_zero _)
      | succ L19_3n ihL19_3 =>
        intro j h1 h2 hm ls hl
        refine x_iload_n hx dX8_price_19 hl 3 rfl ?_
        refine x_bipush (v := nI 10) hx dX8_price_20 (by decide) ?_
        refine x_icmp_ge_N (a := j) (b := 10) (tgt := 52) hx dX8_price_22 (by decide) (by omega) (by omega) (fun h_4 => ?_) (fun h_4 => ?_)
        · refine x_iload_n hx dX8_price_52 hl 2 rfl ?_
          exact hret _ _ _ dX8_price_53 (by simp only [priceF, Int.toNat_natCast]; rw [if_pos (by omega), show j = 10 by omega]; rfl)
        · refine x_iload_n hx dX8_price_25 hl 2 rfl ?_
          refine x_iload_n hx dX8_price_26 hl 1 rfl ?_
          refine x_iload_n hx dX8_price_27 hl 3 rfl ?_
          refine x_callRS (As := [.int (nI m), .int (nI j)]) (rest := [.int (nI (smN (fun g9 => (m.testBit g9).toNat * mPR g9) j))]) hx yv_X8_has (c_X8_has _ D m j (by first | assumption | omega | (simp [*]; done)) (by first | assumption | omega | (simp [*]; done))) wm_RX8_97 hP [] rfl ⟨rfl, rfl⟩ ⟨Nat.le_of_ble_eq_true rfl, Nat.le_of_ble_eq_true rfl⟩ ⟨Nat.zero_le _, Nat.zero_le _⟩ hl rfl rfl (Nat.le_of_ble_eq_true rfl) dX8_price_28 ?_
          refine x_if_eq_B (tgt := 43) hx dX8_price_31 (by decide) (fun h_5 => ?_) (fun h_5 => ?_)
          · refine x_iconst (v := nI 0) hx dX8_price_43 (by decide) ?_
            refine x_iadd (v := nI ((smN (fun g9 => (m.testBit g9).toNat * mPR g9) j) + 0)) hx dX8_price_44 (nI_add _ _) ?_
            refine x_istore_n (lv' := [(2, .int (nI ((smN (fun g9 => (m.testBit g9).toNat * mPR g9) j) + 0))), (0, .ref mo), (1, .int (nI m)), (3, .int (nI j))]) hx dX8_price_45 hl (Nat.le_of_ble_eq_true rfl) rfl (fun ls hl => ?_)
            refine x_iinc (v := nI (j + 1)) (lv' := [(3, .int (nI (j + 1))), (2, .int (nI ((smN (fun g9 => (m.testBit g9).toNat * mPR g9) j) + 0))), (0, .ref mo), (1, .int (nI m))]) hx dX8_price_46 hl 3 rfl (nI_addc j 1) (Nat.le_of_ble_eq_true rfl) rfl (fun ls hl => ?_)
            refine x_goto (tgt := 19) hx dX8_price_49 (by decide) ?_
            have e_6 : ((smN (fun g9 => (m.testBit g9).toNat * mPR g9) j) + 0 : Nat) = smN (fun g9 => (m.testBit g9).toNat * mPR g9) (j + 1) := by
              first | rfl | (simp only [smN]; simp [*]; done)
            have e_7 : (j + 1 : Nat) = (j + 1) := by
              first | rfl | omega | (simp [smN, *]; done) | (simp [smN, *]; omega)
            exact ihL19_3 (j + 1) (by omega) (by first | (simp [smN]; done) | (simp only [smN]; simp [*]; omega)) (by omega) _ (lv_to (l := [(0, .ref mo), (1, .int (nI m)), (2, .int (nI ((smN (fun g9 => (m.testBit g9).toNat * mPR g9) j) + 0))), (3, .int (nI (j + 1)))]) (l2 := [(0, .ref mo), (1, .int (nI m)), (2, .int (nI (smN (fun g9 => (m.testBit g9).toNat * mPR g9) (j + 1)))), (3, .int (nI (j + 1)))]) (lv_sub hl [2, 3, 1, 0] rfl) (cE rfl (cE rfl (cE (congrArg (fun z => ((2, Value.int z) : Nat × Value)) (congrArg (fun z : Nat => nI z) e_6)) (cE (congrArg (fun z => ((3, Value.int z) : Nat × Value)) (congrArg (fun z : Nat => nI z) e_7)) rfl)))))
          · refine x_aload_n hx dX8_price_34 hl 0 rfl ?_
            refine x_get8 hx hP 0 rfl 7 (Nat.le_of_ble_eq_true rfl) wf_RX8_16 rfl dX8_price_35 ?_
            refine x_iload_n hx dX8_price_38 hl 3 rfl ?_
            have hj_39 : j < 10 := by omega
            refine x_iald (v := nI (mPR j)) hx hP 1 rfl hj_39 (by decide) (rfl) dX8_price_39 ?_
            have b_8 := hmPR j hj_39
            refine x_goto (tgt := 44) hx dX8_price_40 (by decide) ?_
            refine x_iadd (v := nI ((smN (fun g9 => (m.testBit g9).toNat * mPR g9) j) + (mPR j))) hx dX8_price_44 (nI_add _ _) ?_
            refine x_istore_n (lv' := [(2, .int (nI ((smN (fun g9 => (m.testBit g9).toNat * mPR g9) j) + (mPR j)))), (0, .ref mo), (1, .int (nI m)), (3, .int (nI j))]) hx dX8_price_45 hl (Nat.le_of_ble_eq_true rfl) rfl (fun ls hl => ?_)
            refine x_iinc (v := nI (j + 1)) (lv' := [(3, .int (nI (j + 1))), (2, .int (nI ((smN (fun g9 => (m.testBit g9).toNat * mPR g9) j) + (mPR j)))), (0, .ref mo), (1, .int (nI m))]) hx dX8_price_46 hl 3 rfl (nI_addc j 1) (Nat.le_of_ble_eq_true rfl) rfl (fun ls hl => ?_)
            refine x_goto (tgt := 19) hx dX8_price_49 (by decide) ?_
            have e_9 : ((smN (fun g9 => (m.testBit g9).toNat * mPR g9) j) + (mPR j) : Nat) = smN (fun g9 => (m.testBit g9).toNat * mPR g9) (j + 1) := by
              first | rfl | (simp only [smN]; simp [*]; done)
            have e_10 : (j + 1 : Nat) = (j + 1) := by
              first | rfl | omega | (simp [smN, *]; done) | (simp [smN, *]; omega)
            exact ihL19_3 (j + 1) (by omega) (by first | (simp [smN]; done) | (simp only [smN]; simp [*]; omega)) (by omega) _ (lv_to (l := [(0, .ref mo), (1, .int (nI m)), (2, .int (nI ((smN (fun g9 => (m.testBit g9).toNat * mPR g9) j) + (mPR j)))), (3, .int (nI (j + 1)))]) (l2 := [(0, .ref mo), (1, .int (nI m)), (2, .int (nI (smN (fun g9 => (m.testBit g9).toNat * mPR g9) (j + 1)))), (3, .int (nI (j + 1)))]) (lv_sub hl [2, 3, 1, 0] rfl) (cE rfl (cE rfl (cE (congrArg (fun z => ((2, Value.int z) : Nat × Value)) (congrArg (fun z : Nat => nI z) e_9)) (cE (congrArg (fun z => ((3, Value.int z) : Nat × Value)) (congrArg (fun z : Nat => nI z) e_10)) rfl)))))
    have e_11 : (0 : Nat) = smN (fun g9 => (m.testBit g9).toNat * mPR g9) 0 := by
      first | rfl | (simp only [smN]; simp [*]; done)
    exact L19_3 (10 - 0 + 1) 0 (by omega) (by first | (simp [smN]; done) | (simp only [smN]; simp [*]; omega)) (Nat.lt_succ_self _) _ (lv_to (l := [(0, .ref mo), (1, .int (nI m)), (2, .int (nI 0)), (3, .int (nI 0))]) (l2 := [(0, .ref mo), (1, .int (nI m)), (2, .int (nI (smN (fun g9 => (m.testBit g9).toNat * mPR g9) 0))), (3, .int (nI 0))]) (lv_sub hl [2, 3, 1, 0] rfl) (cE rfl (cE rfl (cE (congrArg (fun z => ((2, Value.int z) : Nat × Value)) (congrArg (fun z : Nat => nI z) e_11)) (cE rfl rfl)))))
  · have hd_12 := of_decide_eq_false h_1
    refine x_ldc (u := iI (-1000000001)) hx wk_RX8_197 (by decide) dX8_price_12 ?_
    exact hret _ _ _ dX8_price_14 (by simp only [priceF, Int.toNat_natCast]; (repeat first | rw [if_pos (by omega)] | rw [if_neg (by omega)]); try rfl)
theorem bth_les {TV : Nat → Nat} (hI : ∀ k, k < 10 → TV (TV k) = k) {g x : Nat} (hg : g < 10) (hx : x < 10) : (both TV g).testBit x = decide (les TV x = les TV g) := by
  have h1 := hI g hg
  have h2 := hI x hx
  have e1 : ∀ a b : Nat, (2 ^ a).testBit b = decide (a = b) := fun a b => Nat.testBit_two_pow
  simp only [both, Nat.testBit_or, e1]
  by_cases ha : g = x
  · subst ha; simp
  · by_cases hb : TV g = x
    · subst hb
      have : les TV (TV g) = les TV g := by unfold les; rw [h1]; omega
      simp [this]
    · have : ¬ les TV x = les TV g := by
        unfold les
        intro h
        rcases (show (min x (TV x) = x ∨ min x (TV x) = TV x) ∧ (min g (TV g) = g ∨ min g (TV g) = TV g) by omega) with ⟨h3 | h3, h4 | h4⟩
        · omega
        · omega
        · have h5 : TV x = g := by omega
          rw [h5] at h2; exact hb h2
        · have h5 : TV x = TV g := by omega
          rw [h5, h1] at h2; exact ha h2
      simp [ha, hb, this]
theorem often_t {TV : Nat → Nat} (hI : ∀ k, k < 10 → TV (TV k) = k) {hn : Bool} {e g d : Nat} (hg : g < 10) (hd : d < 100) (ht : hasTwo hn e d = true) : often TV hn e g d = (decide (les TV (d % 10) = les TV g)).toNat + (decide (les TV (d / 10) = les TV g)).toNat := by
  unfold often
  rw [if_pos ht, bth_les hI hg (by omega), bth_les hI hg (by omega)]
theorem often_f {TV : Nat → Nat} (hI : ∀ k, k < 10 → TV (TV k) = k) {hn : Bool} {e g d : Nat} (hg : g < 10) (hd : d < 10) (ht : hasTwo hn e d = false) : often TV hn e g d = (decide (les TV d = les TV g)).toNat := by
  unfold often
  rw [ht, show d % 10 = d by omega, bth_les hI hg hd]; rfl
theorem bool_or (b : Bool) : b = true ∨ b = false := by cases b <;> simp
set_option maxHeartbeats 4000000 in
set_option maxRecDepth 100000 in
theorem c_X8_needed (l : Launch) (D : KD) (mo : Nat) (mhd : Bool) (mlo : Nat) (mto : Nat) (mhn : Bool) (mcu : Nat) (y_sides : Nat) (y_other : Nat) (y_prices : Nat) (y_now : Nat) (msd : Nat) (y_text : Nat) (mlen : Nat) (mfa : Int) (mat : Nat) (mnu : Nat) (mna : Nat) (mri : Bool) (y_readDays : Nat) (mrc : Nat) (y_readSides : Nat) (y_readFigures : Nat) (mrp : Nat) (y_readOther : Nat) (y_readPrices : Nat) (mtp : Nat) (y_firstOf : Nat) (y_secondOf : Nat) (y_shown : Nat) (mun : Nat) (y_past : Nat) (y_choices : Nat) (mcm : Nat) (y_wanted : Nat) (mpm : Nat) (mpf : Int) (mpo : Nat) (y_ways : Nat) (y_waysThen : Nat) (mwr : Nat) (y_wrongDay : Nat) (y_wrongShown : Nat) (y_could : Nat) (y_shownIn : Nat) (mbk : Nat) (y_book : Nat) (y_images : Nat) (y_isKept : Nat) (mTV : Nat → Nat) (mF1 : Nat → Nat) (mF2 : Nat → Int) (e9 : Nat) (g : Nat) (hmTV : ∀ k, k < 10 → mTV k < 10) (hI : ∀ k, k < 10 → mTV (mTV k) = k) (hme : e9 = pk mhd (mto + 1) mlo) (hle : mlo ≤ e9) (he : e9 ≤ 100) (hto : mto ≤ 99) (hlo9 : mlo ≤ 99) (hPL : plOk mhn e9 mF1 mF2) (hg : g < 10) : cR l yX8_needed cX8_needed 5 (some .int) rm_X8_needed D [(mo, .inr (8, [.int (nI mhd.toNat), .int (nI mlo), .int (nI mto), .int (nI mhn.toNat), .int (nI mcu), .ref y_sides, .ref y_other, .ref y_prices, .ref y_now, .int (nI msd), .ref y_text, .int (nI mlen), .int (iI mfa), .int (nI mat), .int (nI mnu), .int (nI mna), .int (nI mri.toNat), .ref y_readDays, .int (nI mrc), .ref y_readSides, .ref y_readFigures, .int (nI mrp), .ref y_readOther, .ref y_readPrices, .int (nI mtp), .ref y_firstOf, .ref y_secondOf, .ref y_shown, .int (nI mun), .ref y_past, .ref y_choices, .int (nI mcm), .ref y_wanted, .int (nI mpm), .int (iI mpf), .int (nI mpo), .ref y_ways, .ref y_waysThen, .int (nI mwr), .ref y_wrongDay, .ref y_wrongShown, .ref y_could, .ref y_shownIn, .int (nI mbk), .ref y_book, .ref y_images, .ref y_isKept])), (y_other, .inl (D.2.1, 10, .inl (nA mTV))), (y_firstOf, .inl (D.2.1, 100, .inl (nA mF1))), (y_secondOf, .inl (D.2.1, 100, .inl (zA mF2)))] [.ref mo, .int (nI g)] (nI (mostO mTV mhn mlo e9 g)) := by
  refine cR.mk (by decide) (retI _) (Nat.le_of_ble_eq_true rfl) ?_
  intro X hx hL hP hret ls hl
  subst hL
  have hl : lv_has ls 5 [(0, .ref mo), (1, .int (nI g))] := hl
  have hme1 : mhd = true → e9 = mto + 1 := fun h9 => by rw [hme, pk_t h9]
  have hme0 : mhd = false → e9 = mlo := fun h9 => by rw [hme, pk_f h9]
  have hme2 : e9 = mto + 1 ∨ e9 = mlo := by
    cases hq9 : mhd with
    | true => exact Or.inl (hme1 hq9)
    | false => exact Or.inr (hme0 hq9)
  have hlg := les_lt (TV := mTV) hg
  refine x_iconst (v := nI 0) hx dX8_needed_0 (by decide) ?_
  refine x_istore_n (lv' := [(2, .int (nI 0)), (0, .ref mo), (1, .int (nI g))]) hx dX8_needed_1 hl (Nat.le_of_ble_eq_true rfl) rfl (fun ls hl => ?_)
  refine x_aload_n hx dX8_needed_2 hl 1 rfl ?_
  refine x_get8 hx hP 0 rfl 1 (Nat.le_of_ble_eq_true rfl) wf_RX8_107 rfl dX8_needed_3 ?_
  refine x_istore_n (lv' := [(3, .int (nI mlo)), (2, .int (nI 0)), (0, .ref mo), (1, .int (nI g))]) hx dX8_needed_6 hl (Nat.le_of_ble_eq_true rfl) rfl (fun ls hl => ?_)
  have L7_1 : ∀ (L7_1n : Nat) (d : Nat), (mlo ≤ d) → (d ≤ e9) → e9 - d < L7_1n → ∀ ls : Array Slot, lv_has ls 5 [(0, .ref mo), (1, .int (nI g)), (2, .int (nI (mxTo (often mTV mhn e9 g) mlo d))), (3, .int (nI d))] → Wx X 0 0 (cxS X).heap [] 7 ls [] := by
    intro L7_1n
    induction L7_1n with
    | zero =>
      intro d h1 h2 hm
      exact absurd hm (Nat.not_lt_zero _)
    | succ L7_1n ihL7_1 =>
      intro d h1 h2 hm ls hl
      have hmx := mxTo_le (often_le mTV mhn e9 g) mlo d
      refine x_iload_n hx dX8_needed_7 hl 3 rfl ?_
      refine x_aload_n hx dX8_needed_8 hl 0 rfl ?_
      refine x_get8 hx hP 0 rfl 2 (Nat.le_of_ble_eq_true rfl) wf_RX8_110 rfl dX8_needed_9 ?_
      refine x_icmp_gt_N (a := d) (b := mto) (tgt := 103) hx dX8_needed_12 (by decide) (by omega) (by omega) (fun h_2 => ?_) (fun h_2 => ?_)
      · have hxe : d = e9 := by omega
        refine x_iload_n hx dX8_needed_103 hl 2 rfl ?_
        exact hret _ _ _ dX8_needed_104 (by rw [mostO, hxe])
      · refine x_aload_n hx dX8_needed_15 hl 0 rfl ?_
        refine x_get8 hx hP 0 rfl 0 (Nat.le_of_ble_eq_true rfl) wf_RX8_103 rfl dX8_needed_16 ?_
        refine x_if_eq_B (tgt := 103) hx dX8_needed_19 (by decide) (fun h_3 => ?_) (fun h_3 => ?_)
        · have hx0 := hme0 h_3
          have hxe : d = e9 := by omega
          refine x_iload_n hx dX8_needed_103 hl 2 rfl ?_
          exact hret _ _ _ dX8_needed_104 (by rw [mostO, hxe])
        · have hx1 := hme1 h_3
          have hPd := hPL d (by omega)
          rcases (bool_or (hasTwo mhn e9 d)) with htt | htt
          · have hsplit : True := trivial
            have hF1 : mF1 d = d / 10 := by rw [hPd.1, if_pos htt]
            have hF2 : mF2 d = ((d % 10 : Nat) : Int) := by rw [hPd.2, if_pos htt]
            have hof := often_t hI hg (show d < 100 by omega) htt
            have hl1 := les_lt (TV := mTV) (show d / 10 < 10 by omega)
            have hl2 := les_lt (TV := mTV) (show d % 10 < 10 by omega)
            refine x_aload_n hx dX8_needed_22 hl 0 rfl ?_
            refine x_aload_n hx dX8_needed_23 hl 0 rfl ?_
            refine x_get8 hx hP 0 rfl 25 (Nat.le_of_ble_eq_true rfl) wf_RX8_44 rfl dX8_needed_24 ?_
            refine x_iload_n hx dX8_needed_27 hl 3 rfl ?_
            have hj_28 : d < 100 := by omega
            refine x_iald (v := nI (mF1 d)) hx hP 2 rfl hj_28 (by decide) (rfl) dX8_needed_28 ?_
            refine x_top (u := nI (d / 10)) (congrArg nI hF1) ?_
            refine x_callRV (As := [.int (nI (d / 10))]) (rest := []) hx yv_X8_stands (c_X8_stands _ D mo mhd mlo mto mhn mcu y_sides y_other y_prices y_now msd y_text mlen mfa mat mnu mna mri y_readDays mrc y_readSides y_readFigures mrp y_readOther y_readPrices mtp y_firstOf y_secondOf y_shown mun y_past y_choices mcm y_wanted mpm mpf mpo y_ways y_waysThen mwr y_wrongDay y_wrongShown y_could y_shownIn mbk y_book y_images y_isKept mTV (d / 10) (by first | assumption | omega | (simp [*]; done)) (by first | assumption | omega | (simp [*]; done))) wm_RX8_250 hP [0, 1] rfl 0 rfl rfl ⟨rfl, rfl⟩ ⟨Nat.le_of_ble_eq_true rfl, Nat.le_of_ble_eq_true rfl⟩ ⟨Nat.zero_le _, Nat.zero_le _⟩ hl rfl rfl (Nat.le_of_ble_eq_true rfl) dX8_needed_29 ?_
            refine x_aload_n hx dX8_needed_32 hl 0 rfl ?_
            refine x_iload_n hx dX8_needed_33 hl 1 rfl ?_
            refine x_callRV (As := [.int (nI g)]) (rest := [.int (nI (les mTV (d / 10)))]) hx yv_X8_stands (c_X8_stands _ D mo mhd mlo mto mhn mcu y_sides y_other y_prices y_now msd y_text mlen mfa mat mnu mna mri y_readDays mrc y_readSides y_readFigures mrp y_readOther y_readPrices mtp y_firstOf y_secondOf y_shown mun y_past y_choices mcm y_wanted mpm mpf mpo y_ways y_waysThen mwr y_wrongDay y_wrongShown y_could y_shownIn mbk y_book y_images y_isKept mTV g (by first | assumption | omega | (simp [*]; done)) (by first | assumption | omega | (simp [*]; done))) wm_RX8_250 hP [0, 1] rfl 0 rfl rfl ⟨rfl, rfl⟩ ⟨Nat.le_of_ble_eq_true rfl, Nat.le_of_ble_eq_true rfl⟩ ⟨Nat.zero_le _, Nat.zero_le _⟩ hl rfl rfl (Nat.le_of_ble_eq_true rfl) dX8_needed_34 ?_
            refine x_icmp_ne_N (a := (les mTV (d / 10))) (b := (les mTV g)) (tgt := 44) hx dX8_needed_37 (by decide) (by omega) (by omega) (fun h_4 => ?_) (fun h_4 => ?_)
            · refine x_iconst (v := nI 0) hx dX8_needed_44 (by decide) ?_
              refine x_istore (lv' := [(4, .int (nI 0)), (0, .ref mo), (1, .int (nI g)), (2, .int (nI (mxTo (often mTV mhn e9 g) mlo d))), (3, .int (nI d))]) hx dX8_needed_45 hl (Nat.le_of_ble_eq_true rfl) rfl (fun ls hl => ?_)
              refine x_iload hx dX8_needed_47 hl 0 rfl ?_
              refine x_aload_n hx dX8_needed_49 hl 1 rfl ?_
              refine x_get8 hx hP 0 rfl 26 (Nat.le_of_ble_eq_true rfl) wf_RX8_47 rfl dX8_needed_50 ?_
              refine x_iload_n hx dX8_needed_53 hl 4 rfl ?_
              have hj_54 : d < 100 := by omega
              refine x_iald (v := iI (mF2 d)) hx hP 3 rfl hj_54 (by decide) (rfl) dX8_needed_54 ?_
              refine x_if_lt_Z (a := (mF2 d)) (tgt := 80) hx dX8_needed_55 (by decide) (by omega) (fun h_5 => ?_) (fun h_5 => ?_)
              · omega
              · refine x_aload_n hx dX8_needed_58 hl 1 rfl ?_
                refine x_aload_n hx dX8_needed_59 hl 1 rfl ?_
                refine x_get8 hx hP 0 rfl 26 (Nat.le_of_ble_eq_true rfl) wf_RX8_47 rfl dX8_needed_60 ?_
                refine x_iload_n hx dX8_needed_63 hl 4 rfl ?_
                have hj_64 : d < 100 := by omega
                refine x_iald (v := iI (mF2 d)) hx hP 3 rfl hj_64 (by decide) (rfl) dX8_needed_64 ?_
                refine x_top (u := nI (d % 10)) (by rw [hF2]; rfl) ?_
                refine x_callRV (As := [.int (nI (d % 10))]) (rest := [.int (nI 0)]) hx yv_X8_stands (c_X8_stands _ D mo mhd mlo mto mhn mcu y_sides y_other y_prices y_now msd y_text mlen mfa mat mnu mna mri y_readDays mrc y_readSides y_readFigures mrp y_readOther y_readPrices mtp y_firstOf y_secondOf y_shown mun y_past y_choices mcm y_wanted mpm mpf mpo y_ways y_waysThen mwr y_wrongDay y_wrongShown y_could y_shownIn mbk y_book y_images y_isKept mTV (d % 10) (by first | assumption | omega | (simp [*]; done)) (by first | assumption | omega | (simp [*]; done))) wm_RX8_250 hP [0, 1] rfl 0 rfl rfl ⟨rfl, rfl⟩ ⟨Nat.le_of_ble_eq_true rfl, Nat.le_of_ble_eq_true rfl⟩ ⟨Nat.zero_le _, Nat.zero_le _⟩ hl rfl rfl (Nat.le_of_ble_eq_true rfl) dX8_needed_65 ?_
                refine x_aload_n hx dX8_needed_68 hl 1 rfl ?_
                refine x_iload_n hx dX8_needed_69 hl 2 rfl ?_
                refine x_callRV (As := [.int (nI g)]) (rest := [.int (nI (les mTV (d % 10))), .int (nI 0)]) hx yv_X8_stands (c_X8_stands _ D mo mhd mlo mto mhn mcu y_sides y_other y_prices y_now msd y_text mlen mfa mat mnu mna mri y_readDays mrc y_readSides y_readFigures mrp y_readOther y_readPrices mtp y_firstOf y_secondOf y_shown mun y_past y_choices mcm y_wanted mpm mpf mpo y_ways y_waysThen mwr y_wrongDay y_wrongShown y_could y_shownIn mbk y_book y_images y_isKept mTV g (by first | assumption | omega | (simp [*]; done)) (by first | assumption | omega | (simp [*]; done))) wm_RX8_250 hP [0, 1] rfl 0 rfl rfl ⟨rfl, rfl⟩ ⟨Nat.le_of_ble_eq_true rfl, Nat.le_of_ble_eq_true rfl⟩ ⟨Nat.zero_le _, Nat.zero_le _⟩ hl rfl rfl (Nat.le_of_ble_eq_true rfl) dX8_needed_70 ?_
                refine x_icmp_ne_N (a := (les mTV (d % 10))) (b := (les mTV g)) (tgt := 80) hx dX8_needed_73 (by decide) (by omega) (by omega) (fun h_6 => ?_) (fun h_6 => ?_)
                · refine x_iconst (v := nI 0) hx dX8_needed_80 (by decide) ?_
                  refine x_iadd (v := nI (0 + 0)) hx dX8_needed_81 (nI_add _ _) ?_
                  refine x_istore (lv' := [(4, .int (nI (0 + 0))), (0, .ref mo), (1, .int (nI g)), (2, .int (nI (mxTo (often mTV mhn e9 g) mlo d))), (3, .int (nI d))]) hx dX8_needed_82 hl (Nat.le_of_ble_eq_true rfl) rfl (fun ls hl => ?_)
                  refine x_iload hx dX8_needed_84 hl 0 rfl ?_
                  refine x_iload_n hx dX8_needed_86 hl 3 rfl ?_
                  refine x_icmp_le_N (a := (0 + 0)) (b := (mxTo (often mTV mhn e9 g) mlo d)) (tgt := 95) hx dX8_needed_87 (by decide) (by omega) (by omega) (fun h_7 => ?_) (fun h_7 => ?_)
                  · refine x_iload_n hx dX8_needed_95 hl 3 rfl ?_
                    refine x_istore_n (lv' := [(2, .int (nI (mxTo (often mTV mhn e9 g) mlo d))), (4, .int (nI (0 + 0))), (0, .ref mo), (1, .int (nI g)), (3, .int (nI d))]) hx dX8_needed_96 hl (Nat.le_of_ble_eq_true rfl) rfl (fun ls hl => ?_)
                    refine x_iinc (v := nI (d + 1)) (lv' := [(3, .int (nI (d + 1))), (2, .int (nI (mxTo (often mTV mhn e9 g) mlo d))), (4, .int (nI (0 + 0))), (0, .ref mo), (1, .int (nI g))]) hx dX8_needed_97 hl 4 rfl (nI_addc d 1) (Nat.le_of_ble_eq_true rfl) rfl (fun ls hl => ?_)
                    refine x_goto (tgt := 7) hx dX8_needed_100 (by decide) ?_
                    have e_8 : (mxTo (often mTV mhn e9 g) mlo d : Nat) = mxTo (often mTV mhn e9 g) mlo (d + 1) := by
                      first | (rw [mxTo_0]; done) | (rw [mxTo_s _ h1, hof]; (repeat first | rw [decide_eq_true (by assumption)] | rw [decide_eq_false (by assumption)]); simp only [Bool.toNat_true, Bool.toNat_false]; omega)
                    have e_9 : (d + 1 : Nat) = (d + 1) := by
                      first | rfl | omega | (simp [*]; done) | (simp [*]; omega)
                    exact ihL7_1 (d + 1) (by first | assumption | omega | (simp [*]; done)) (by first | assumption | omega | (simp [*]; done)) (by omega) _ (lv_to (l := [(0, .ref mo), (1, .int (nI g)), (2, .int (nI (mxTo (often mTV mhn e9 g) mlo d))), (3, .int (nI (d + 1)))]) (l2 := [(0, .ref mo), (1, .int (nI g)), (2, .int (nI (mxTo (often mTV mhn e9 g) mlo (d + 1)))), (3, .int (nI (d + 1)))]) (lv_sub hl [3, 4, 1, 0] rfl) (cE rfl (cE rfl (cE (congrArg (fun z => ((2, Value.int z) : Nat × Value)) (congrArg (fun z : Nat => nI z) e_8)) (cE (congrArg (fun z => ((3, Value.int z) : Nat × Value)) (congrArg (fun z : Nat => nI z) e_9)) rfl)))))
                  · refine x_iload hx dX8_needed_90 hl 0 rfl ?_
                    refine x_goto (tgt := 96) hx dX8_needed_92 (by decide) ?_
                    refine x_istore_n (lv' := [(2, .int (nI (0 + 0))), (4, .int (nI (0 + 0))), (0, .ref mo), (1, .int (nI g)), (3, .int (nI d))]) hx dX8_needed_96 hl (Nat.le_of_ble_eq_true rfl) rfl (fun ls hl => ?_)
                    refine x_iinc (v := nI (d + 1)) (lv' := [(3, .int (nI (d + 1))), (2, .int (nI (0 + 0))), (4, .int (nI (0 + 0))), (0, .ref mo), (1, .int (nI g))]) hx dX8_needed_97 hl 4 rfl (nI_addc d 1) (Nat.le_of_ble_eq_true rfl) rfl (fun ls hl => ?_)
                    refine x_goto (tgt := 7) hx dX8_needed_100 (by decide) ?_
                    have e_10 : (0 + 0 : Nat) = mxTo (often mTV mhn e9 g) mlo (d + 1) := by
                      first | (rw [mxTo_0]; done) | (rw [mxTo_s _ h1, hof]; (repeat first | rw [decide_eq_true (by assumption)] | rw [decide_eq_false (by assumption)]); simp only [Bool.toNat_true, Bool.toNat_false]; omega)
                    have e_11 : (d + 1 : Nat) = (d + 1) := by
                      first | rfl | omega | (simp [*]; done) | (simp [*]; omega)
                    exact ihL7_1 (d + 1) (by first | assumption | omega | (simp [*]; done)) (by first | assumption | omega | (simp [*]; done)) (by omega) _ (lv_to (l := [(0, .ref mo), (1, .int (nI g)), (2, .int (nI (0 + 0))), (3, .int (nI (d + 1)))]) (l2 := [(0, .ref mo), (1, .int (nI g)), (2, .int (nI (mxTo (often mTV mhn e9 g) mlo (d + 1)))), (3, .int (nI (d + 1)))]) (lv_sub hl [3, 4, 1, 0] rfl) (cE rfl (cE rfl (cE (congrArg (fun z => ((2, Value.int z) : Nat × Value)) (congrArg (fun z : Nat => nI z) e_10)) (cE (congrArg (fun z => ((3, Value.int z) : Nat × Value)) (congrArg (fun z : Nat => nI z) e_11)) rfl)))))
                · refine x_iconst (v := nI 1) hx dX8_needed_76 (by decide) ?_
                  refine x_goto (tgt := 81) hx dX8_needed_77 (by decide) ?_
                  refine x_iadd (v := nI (0 + 1)) hx dX8_needed_81 (nI_add _ _) ?_
                  refine x_istore (lv' := [(4, .int (nI (0 + 1))), (0, .ref mo), (1, .int (nI g)), (2, .int (nI (mxTo (often mTV mhn e9 g) mlo d))), (3, .int (nI d))]) hx dX8_needed_82 hl (Nat.le_of_ble_eq_true rfl) rfl (fun ls hl => ?_)
                  refine x_iload hx dX8_needed_84 hl 0 rfl ?_
                  refine x_iload_n hx dX8_needed_86 hl 3 rfl ?_
                  refine x_icmp_le_N (a := (0 + 1)) (b := (mxTo (often mTV mhn e9 g) mlo d)) (tgt := 95) hx dX8_needed_87 (by decide) (by omega) (by omega) (fun h_12 => ?_) (fun h_12 => ?_)
                  · refine x_iload_n hx dX8_needed_95 hl 3 rfl ?_
                    refine x_istore_n (lv' := [(2, .int (nI (mxTo (often mTV mhn e9 g) mlo d))), (4, .int (nI (0 + 1))), (0, .ref mo), (1, .int (nI g)), (3, .int (nI d))]) hx dX8_needed_96 hl (Nat.le_of_ble_eq_true rfl) rfl (fun ls hl => ?_)
                    refine x_iinc (v := nI (d + 1)) (lv' := [(3, .int (nI (d + 1))), (2, .int (nI (mxTo (often mTV mhn e9 g) mlo d))), (4, .int (nI (0 + 1))), (0, .ref mo), (1, .int (nI g))]) hx dX8_needed_97 hl 4 rfl (nI_addc d 1) (Nat.le_of_ble_eq_true rfl) rfl (fun ls hl => ?_)
                    refine x_goto (tgt := 7) hx dX8_needed_100 (by decide) ?_
                    have e_13 : (mxTo (often mTV mhn e9 g) mlo d : Nat) = mxTo (often mTV mhn e9 g) mlo (d + 1) := by
                      first | (rw [mxTo_0]; done) | (rw [mxTo_s _ h1, hof]; (repeat first | rw [decide_eq_true (by assumption)] | rw [decide_eq_false (by assumption)]); simp only [Bool.toNat_true, Bool.toNat_false]; omega)
                    have e_14 : (d + 1 : Nat) = (d + 1) := by
                      first | rfl | omega | (simp [*]; done) | (simp [*]; omega)
                    exact ihL7_1 (d + 1) (by first | assumption | omega | (simp [*]; done)) (by first | assumption | omega | (simp [*]; done)) (by omega) _ (lv_to (l := [(0, .ref mo), (1, .int (nI g)), (2, .int (nI (mxTo (often mTV mhn e9 g) mlo d))), (3, .int (nI (d + 1)))]) (l2 := [(0, .ref mo), (1, .int (nI g)), (2, .int (nI (mxTo (often mTV mhn e9 g) mlo (d + 1)))), (3, .int (nI (d + 1)))]) (lv_sub hl [3, 4, 1, 0] rfl) (cE rfl (cE rfl (cE (congrArg (fun z => ((2, Value.int z) : Nat × Value)) (congrArg (fun z : Nat => nI z) e_13)) (cE (congrArg (fun z => ((3, Value.int z) : Nat × Value)) (congrArg (fun z : Nat => nI z) e_14)) rfl)))))
                  · refine x_iload hx dX8_needed_90 hl 0 rfl ?_
                    refine x_goto (tgt := 96) hx dX8_needed_92 (by decide) ?_
                    refine x_istore_n (lv' := [(2, .int (nI (0 + 1))), (4, .int (nI (0 + 1))), (0, .ref mo), (1, .int (nI g)), (3, .int (nI d))]) hx dX8_needed_96 hl (Nat.le_of_ble_eq_true rfl) rfl (fun ls hl => ?_)
                    refine x_iinc (v := nI (d + 1)) (lv' := [(3, .int (nI (d + 1))), (2, .int (nI (0 + 1))), (4, .int (nI (0 + 1))), (0, .ref mo), (1, .int (nI g))]) hx dX8_needed_97 hl 4 rfl (nI_addc d 1) (Nat.le_of_ble_eq_true rfl) rfl (fun ls hl => ?_)
                    refine x_goto (tgt := 7) hx dX8_needed_100 (by decide) ?_
                    have e_15 : (0 + 1 : Nat) = mxTo (often mTV mhn e9 g) mlo (d + 1) := by
                      first | (rw [mxTo_0]; done) | (rw [mxTo_s _ h1, hof]; (repeat first | rw [decide_eq_true (by assumption)] | rw [decide_eq_false (by assumption)]); simp only [Bool.toNat_true, Bool.toNat_false]; omega)
                    have e_16 : (d + 1 : Nat) = (d + 1) := by
                      first | rfl | omega | (simp [*]; done) | (simp [*]; omega)
                    exact ihL7_1 (d + 1) (by first | assumption | omega | (simp [*]; done)) (by first | assumption | omega | (simp [*]; done)) (by omega) _ (lv_to (l := [(0, .ref mo), (1, .int (nI g)), (2, .int (nI (0 + 1))), (3, .int (nI (d + 1)))]) (l2 := [(0, .ref mo), (1, .int (nI g)), (2, .int (nI (mxTo (often mTV mhn e9 g) mlo (d + 1)))), (3, .int (nI (d + 1)))]) (lv_sub hl [3, 4, 1, 0] rfl) (cE rfl (cE rfl (cE (congrArg (fun z => ((2, Value.int z) : Nat × Value)) (congrArg (fun z : Nat => nI z) e_15)) (cE (congrArg (fun z => ((3, Value.int z) : Nat × Value)) (congrArg (fun z : Nat => nI z) e_16)) rfl)))))
            · refine x_iconst (v := nI 1) hx dX8_needed_40 (by decide) ?_
              refine x_goto (tgt := 45) hx dX8_needed_41 (by decide) ?_
              refine x_istore (lv' := [(4, .int (nI 1)), (0, .ref mo), (1, .int (nI g)), (2, .int (nI (mxTo (often mTV mhn e9 g) mlo d))), (3, .int (nI d))]) hx dX8_needed_45 hl (Nat.le_of_ble_eq_true rfl) rfl (fun ls hl => ?_)
              refine x_iload hx dX8_needed_47 hl 0 rfl ?_
              refine x_aload_n hx dX8_needed_49 hl 1 rfl ?_
              refine x_get8 hx hP 0 rfl 26 (Nat.le_of_ble_eq_true rfl) wf_RX8_47 rfl dX8_needed_50 ?_
              refine x_iload_n hx dX8_needed_53 hl 4 rfl ?_
              have hj_54 : d < 100 := by omega
              refine x_iald (v := iI (mF2 d)) hx hP 3 rfl hj_54 (by decide) (rfl) dX8_needed_54 ?_
              refine x_if_lt_Z (a := (mF2 d)) (tgt := 80) hx dX8_needed_55 (by decide) (by omega) (fun h_17 => ?_) (fun h_17 => ?_)
              · omega
              · refine x_aload_n hx dX8_needed_58 hl 1 rfl ?_
                refine x_aload_n hx dX8_needed_59 hl 1 rfl ?_
                refine x_get8 hx hP 0 rfl 26 (Nat.le_of_ble_eq_true rfl) wf_RX8_47 rfl dX8_needed_60 ?_
                refine x_iload_n hx dX8_needed_63 hl 4 rfl ?_
                have hj_64 : d < 100 := by omega
                refine x_iald (v := iI (mF2 d)) hx hP 3 rfl hj_64 (by decide) (rfl) dX8_needed_64 ?_
                refine x_top (u := nI (d % 10)) (by rw [hF2]; rfl) ?_
                refine x_callRV (As := [.int (nI (d % 10))]) (rest := [.int (nI 1)]) hx yv_X8_stands (c_X8_stands _ D mo mhd mlo mto mhn mcu y_sides y_other y_prices y_now msd y_text mlen mfa mat mnu mna mri y_readDays mrc y_readSides y_readFigures mrp y_readOther y_readPrices mtp y_firstOf y_secondOf y_shown mun y_past y_choices mcm y_wanted mpm mpf mpo y_ways y_waysThen mwr y_wrongDay y_wrongShown y_could y_shownIn mbk y_book y_images y_isKept mTV (d % 10) (by first | assumption | omega | (simp [*]; done)) (by first | assumption | omega | (simp [*]; done))) wm_RX8_250 hP [0, 1] rfl 0 rfl rfl ⟨rfl, rfl⟩ ⟨Nat.le_of_ble_eq_true rfl, Nat.le_of_ble_eq_true rfl⟩ ⟨Nat.zero_le _, Nat.zero_le _⟩ hl rfl rfl (Nat.le_of_ble_eq_true rfl) dX8_needed_65 ?_
                refine x_aload_n hx dX8_needed_68 hl 1 rfl ?_
                refine x_iload_n hx dX8_needed_69 hl 2 rfl ?_
                refine x_callRV (As := [.int (nI g)]) (rest := [.int (nI (les mTV (d % 10))), .int (nI 1)]) hx yv_X8_stands (c_X8_stands _ D mo mhd mlo mto mhn mcu y_sides y_other y_prices y_now msd y_text mlen mfa mat mnu mna mri y_readDays mrc y_readSides y_readFigures mrp y_readOther y_readPrices mtp y_firstOf y_secondOf y_shown mun y_past y_choices mcm y_wanted mpm mpf mpo y_ways y_waysThen mwr y_wrongDay y_wrongShown y_could y_shownIn mbk y_book y_images y_isKept mTV g (by first | assumption | omega | (simp [*]; done)) (by first | assumption | omega | (simp [*]; done))) wm_RX8_250 hP [0, 1] rfl 0 rfl rfl ⟨rfl, rfl⟩ ⟨Nat.le_of_ble_eq_true rfl, Nat.le_of_ble_eq_true rfl⟩ ⟨Nat.zero_le _, Nat.zero_le _⟩ hl rfl rfl (Nat.le_of_ble_eq_true rfl) dX8_needed_70 ?_
                refine x_icmp_ne_N (a := (les mTV (d % 10))) (b := (les mTV g)) (tgt := 80) hx dX8_needed_73 (by decide) (by omega) (by omega) (fun h_18 => ?_) (fun h_18 => ?_)
                · refine x_iconst (v := nI 0) hx dX8_needed_80 (by decide) ?_
                  refine x_iadd (v := nI (1 + 0)) hx dX8_needed_81 (nI_add _ _) ?_
                  refine x_istore (lv' := [(4, .int (nI (1 + 0))), (0, .ref mo), (1, .int (nI g)), (2, .int (nI (mxTo (often mTV mhn e9 g) mlo d))), (3, .int (nI d))]) hx dX8_needed_82 hl (Nat.le_of_ble_eq_true rfl) rfl (fun ls hl => ?_)
                  refine x_iload hx dX8_needed_84 hl 0 rfl ?_
                  refine x_iload_n hx dX8_needed_86 hl 3 rfl ?_
                  refine x_icmp_le_N (a := (1 + 0)) (b := (mxTo (often mTV mhn e9 g) mlo d)) (tgt := 95) hx dX8_needed_87 (by decide) (by omega) (by omega) (fun h_19 => ?_) (fun h_19 => ?_)
                  · refine x_iload_n hx dX8_needed_95 hl 3 rfl ?_
                    refine x_istore_n (lv' := [(2, .int (nI (mxTo (often mTV mhn e9 g) mlo d))), (4, .int (nI (1 + 0))), (0, .ref mo), (1, .int (nI g)), (3, .int (nI d))]) hx dX8_needed_96 hl (Nat.le_of_ble_eq_true rfl) rfl (fun ls hl => ?_)
                    refine x_iinc (v := nI (d + 1)) (lv' := [(3, .int (nI (d + 1))), (2, .int (nI (mxTo (often mTV mhn e9 g) mlo d))), (4, .int (nI (1 + 0))), (0, .ref mo), (1, .int (nI g))]) hx dX8_needed_97 hl 4 rfl (nI_addc d 1) (Nat.le_of_ble_eq_true rfl) rfl (fun ls hl => ?_)
                    refine x_goto (tgt := 7) hx dX8_needed_100 (by decide) ?_
                    have e_20 : (mxTo (often mTV mhn e9 g) mlo d : Nat) = mxTo (often mTV mhn e9 g) mlo (d + 1) := by
                      first | (rw [mxTo_0]; done) | (rw [mxTo_s _ h1, hof]; (repeat first | rw [decide_eq_true (by assumption)] | rw [decide_eq_false (by assumption)]); simp only [Bool.toNat_true, Bool.toNat_false]; omega)
                    have e_21 : (d + 1 : Nat) = (d + 1) := by
                      first | rfl | omega | (simp [*]; done) | (simp [*]; omega)
                    exact ihL7_1 (d + 1) (by first | assumption | omega | (simp [*]; done)) (by first | assumption | omega | (simp [*]; done)) (by omega) _ (lv_to (l := [(0, .ref mo), (1, .int (nI g)), (2, .int (nI (mxTo (often mTV mhn e9 g) mlo d))), (3, .int (nI (d + 1)))]) (l2 := [(0, .ref mo), (1, .int (nI g)), (2, .int (nI (mxTo (often mTV mhn e9 g) mlo (d + 1)))), (3, .int (nI (d + 1)))]) (lv_sub hl [3, 4, 1, 0] rfl) (cE rfl (cE rfl (cE (congrArg (fun z => ((2, Value.int z) : Nat × Value)) (congrArg (fun z : Nat => nI z) e_20)) (cE (congrArg (fun z => ((3, Value.int z) : Nat × Value)) (congrArg (fun z : Nat => nI z) e_21)) rfl)))))
                  · refine x_iload hx dX8_needed_90 hl 0 rfl ?_
                    refine x_goto (tgt := 96) hx dX8_needed_92 (by decide) ?_
                    refine x_istore_n (lv' := [(2, .int (nI (1 + 0))), (4, .int (nI (1 + 0))), (0, .ref mo), (1, .int (nI g)), (3, .int (nI d))]) hx dX8_needed_96 hl (Nat.le_of_ble_eq_true rfl) rfl (fun ls hl => ?_)
                    refine x_iinc (v := nI (d + 1)) (lv' := [(3, .int (nI (d + 1))), (2, .int (nI (1 + 0))), (4, .int (nI (1 + 0))), (0, .ref mo), (1, .int (nI g))]) hx dX8_needed_97 hl 4 rfl (nI_addc d 1) (Nat.le_of_ble_eq_true rfl) rfl (fun ls hl => ?_)
                    refine x_goto (tgt := 7) hx dX8_needed_100 (by decide) ?_
                    have e_22 : (1 + 0 : Nat) = mxTo (often mTV mhn e9 g) mlo (d + 1) := by
                      first | (rw [mxTo_0]; done) | (rw [mxTo_s _ h1, hof]; (repeat first | rw [decide_eq_true (by assumption)] | rw [decide_eq_false (by assumption)]); simp only [Bool.toNat_true, Bool.toNat_false]; omega)
                    have e_23 : (d + 1 : Nat) = (d + 1) := by
                      first | rfl | omega | (simp [*]; done) | (simp [*]; omega)
                    exact ihL7_1 (d + 1) (by first | assumption | omega | (simp [*]; done)) (by first | assumption | omega | (simp [*]; done)) (by omega) _ (lv_to (l := [(0, .ref mo), (1, .int (nI g)), (2, .int (nI (1 + 0))), (3, .int (nI (d + 1)))]) (l2 := [(0, .ref mo), (1, .int (nI g)), (2, .int (nI (mxTo (often mTV mhn e9 g) mlo (d + 1)))), (3, .int (nI (d + 1)))]) (lv_sub hl [3, 4, 1, 0] rfl) (cE rfl (cE rfl (cE (congrArg (fun z => ((2, Value.int z) : Nat × Value)) (congrArg (fun z : Nat => nI z) e_22)) (cE (congrArg (fun z => ((3, Value.int z) : Nat × Value)) (congrArg (fun z : Nat => nI z) e_23)) rfl)))))
                · refine x_iconst (v := nI 1) hx dX8_needed_76 (by decide) ?_
                  refine x_goto (tgt := 81) hx dX8_needed_77 (by decide) ?_
                  refine x_iadd (v := nI (1 + 1)) hx dX8_needed_81 (nI_add _ _) ?_
                  refine x_istore (lv' := [(4, .int (nI (1 + 1))), (0, .ref mo), (1, .int (nI g)), (2, .int (nI (mxTo (often mTV mhn e9 g) mlo d))), (3, .int (nI d))]) hx dX8_needed_82 hl (Nat.le_of_ble_eq_true rfl) rfl (fun ls hl => ?_)
                  refine x_iload hx dX8_needed_84 hl 0 rfl ?_
                  refine x_iload_n hx dX8_needed_86 hl 3 rfl ?_
                  refine x_icmp_le_N (a := (1 + 1)) (b := (mxTo (often mTV mhn e9 g) mlo d)) (tgt := 95) hx dX8_needed_87 (by decide) (by omega) (by omega) (fun h_24 => ?_) (fun h_24 => ?_)
                  · refine x_iload_n hx dX8_needed_95 hl 3 rfl ?_
                    refine x_istore_n (lv' := [(2, .int (nI (mxTo (often mTV mhn e9 g) mlo d))), (4, .int (nI (1 + 1))), (0, .ref mo), (1, .int (nI g)), (3, .int (nI d))]) hx dX8_needed_96 hl (Nat.le_of_ble_eq_true rfl) rfl (fun ls hl => ?_)
                    refine x_iinc (v := nI (d + 1)) (lv' := [(3, .int (nI (d + 1))), (2, .int (nI (mxTo (often mTV mhn e9 g) mlo d))), (4, .int (nI (1 + 1))), (0, .ref mo), (1, .int (nI g))]) hx dX8_needed_97 hl 4 rfl (nI_addc d 1) (Nat.le_of_ble_eq_true rfl) rfl (fun ls hl => ?_)
                    refine x_goto (tgt := 7) hx dX8_needed_100 (by decide) ?_
                    have e_25 : (mxTo (often mTV mhn e9 g) mlo d : Nat) = mxTo (often mTV mhn e9 g) mlo (d + 1) := by
                      first | (rw [mxTo_0]; done) | (rw [mxTo_s _ h1, hof]; (repeat first | rw [decide_eq_true (by assumption)] | rw [decide_eq_false (by assumption)]); simp only [Bool.toNat_true, Bool.toNat_false]; omega)
                    have e_26 : (d + 1 : Nat) = (d + 1) := by
                      first | rfl | omega | (simp [*]; done) | (simp [*]; omega)
                    exact ihL7_1 (d + 1) (by first | assumption | omega | (simp [*]; done)) (by first | assumption | omega | (simp [*]; done)) (by omega) _ (lv_to (l := [(0, .ref mo), (1, .int (nI g)), (2, .int (nI (mxTo (often mTV mhn e9 g) mlo d))), (3, .int (nI (d + 1)))]) (l2 := [(0, .ref mo), (1, .int (nI g)), (2, .int (nI (mxTo (often mTV mhn e9 g) mlo (d + 1)))), (3, .int (nI (d + 1)))]) (lv_sub hl [3, 4, 1, 0] rfl) (cE rfl (cE rfl (cE (congrArg (fun z => ((2, Value.int z) : Nat × Value)) (congrArg (fun z : Nat => nI z) e_25)) (cE (congrArg (fun z => ((3, Value.int z) : Nat × Value)) (congrArg (fun z : Nat => nI z) e_26)) rfl)))))
                  · refine x_iload hx dX8_needed_90 hl 0 rfl ?_
                    refine x_goto (tgt := 96) hx dX8_needed_92 (by decide) ?_
                    refine x_istore_n (lv' := [(2, .int (nI (1 + 1))), (4, .int (nI (1 + 1))), (0, .ref mo), (1, .int (nI g)), (3, .int (nI d))]) hx dX8_needed_96 hl (Nat.le_of_ble_eq_true rfl) rfl (fun ls hl => ?_)
                    refine x_iinc (v := nI (d + 1)) (lv' := [(3, .int (nI (d + 1))), (2, .int (nI (1 + 1))), (4, .int (nI (1 + 1))), (0, .ref mo), (1, .int (nI g))]) hx dX8_needed_97 hl 4 rfl (nI_addc d 1) (Nat.le_of_ble_eq_true rfl) rfl (fun ls hl => ?_)
                    refine x_goto (tgt := 7) hx dX8_needed_100 (by decide) ?_
                    have e_27 : (1 + 1 : Nat) = mxTo (often mTV mhn e9 g) mlo (d + 1) := by
                      first | (rw [mxTo_0]; done) | (rw [mxTo_s _ h1, hof]; (repeat first | rw [decide_eq_true (by assumption)] | rw [decide_eq_false (by assumption)]); simp only [Bool.toNat_true, Bool.toNat_false]; omega)
                    have e_28 : (d + 1 : Nat) = (d + 1) := by
                      first | rfl | omega | (simp [*]; done) | (simp [*]; omega)
                    exact ihL7_1 (d + 1) (by first | assumption | omega | (simp [*]; done)) (by first | assumption | omega | (simp [*]; done)) (by omega) _ (lv_to (l := [(0, .ref mo), (1, .int (nI g)), (2, .int (nI (1 + 1))), (3, .int (nI (d + 1)))]) (l2 := [(0, .ref mo), (1, .int (nI g)), (2, .int (nI (mxTo (often mTV mhn e9 g) mlo (d + 1)))), (3, .int (nI (d + 1)))]) (lv_sub hl [3, 4, 1, 0] rfl) (cE rfl (cE rfl (cE (congrArg (fun z => ((2, Value.int z) : Nat × Value)) (congrArg (fun z : Nat => nI z) e_27)) (cE (congrArg (fun z => ((3, Value.int z) : Nat × Value)) (congrArg (fun z : Nat => nI z) e_28)) rfl)))))
          · have hsplit : True := trivial
            have hd10 := two_f (show d < e9 by omega) htt
            have hF1 : mF1 d = d := by rw [hPd.1, htt]; rfl
            have hF2 : mF2 d = -1 := by rw [hPd.2, htt]; rfl
            have hof := often_f hI hg hd10 htt
            have hl1 := les_lt (TV := mTV) hd10
            refine x_aload_n hx dX8_needed_22 hl 0 rfl ?_
            refine x_aload_n hx dX8_needed_23 hl 0 rfl ?_
            refine x_get8 hx hP 0 rfl 25 (Nat.le_of_ble_eq_true rfl) wf_RX8_44 rfl dX8_needed_24 ?_
            refine x_iload_n hx dX8_needed_27 hl 3 rfl ?_
            have hj_28 : d < 100 := by omega
            refine x_iald (v := nI (mF1 d)) hx hP 2 rfl hj_28 (by decide) (rfl) dX8_needed_28 ?_
            refine x_top (u := nI d) (congrArg nI hF1) ?_
            refine x_callRV (As := [.int (nI d)]) (rest := []) hx yv_X8_stands (c_X8_stands _ D mo mhd mlo mto mhn mcu y_sides y_other y_prices y_now msd y_text mlen mfa mat mnu mna mri y_readDays mrc y_readSides y_readFigures mrp y_readOther y_readPrices mtp y_firstOf y_secondOf y_shown mun y_past y_choices mcm y_wanted mpm mpf mpo y_ways y_waysThen mwr y_wrongDay y_wrongShown y_could y_shownIn mbk y_book y_images y_isKept mTV d (by first | assumption | omega | (simp [*]; done)) (by first | assumption | omega | (simp [*]; done))) wm_RX8_250 hP [0, 1] rfl 0 rfl rfl ⟨rfl, rfl⟩ ⟨Nat.le_of_ble_eq_true rfl, Nat.le_of_ble_eq_true rfl⟩ ⟨Nat.zero_le _, Nat.zero_le _⟩ hl rfl rfl (Nat.le_of_ble_eq_true rfl) dX8_needed_29 ?_
            refine x_aload_n hx dX8_needed_32 hl 0 rfl ?_
            refine x_iload_n hx dX8_needed_33 hl 1 rfl ?_
            refine x_callRV (As := [.int (nI g)]) (rest := [.int (nI (les mTV d))]) hx yv_X8_stands (c_X8_stands _ D mo mhd mlo mto mhn mcu y_sides y_other y_prices y_now msd y_text mlen mfa mat mnu mna mri y_readDays mrc y_readSides y_readFigures mrp y_readOther y_readPrices mtp y_firstOf y_secondOf y_shown mun y_past y_choices mcm y_wanted mpm mpf mpo y_ways y_waysThen mwr y_wrongDay y_wrongShown y_could y_shownIn mbk y_book y_images y_isKept mTV g (by first | assumption | omega | (simp [*]; done)) (by first | assumption | omega | (simp [*]; done))) wm_RX8_250 hP [0, 1] rfl 0 rfl rfl ⟨rfl, rfl⟩ ⟨Nat.le_of_ble_eq_true rfl, Nat.le_of_ble_eq_true rfl⟩ ⟨Nat.zero_le _, Nat.zero_le _⟩ hl rfl rfl (Nat.le_of_ble_eq_true rfl) dX8_needed_34 ?_
            refine x_icmp_ne_N (a := (les mTV d)) (b := (les mTV g)) (tgt := 44) hx dX8_needed_37 (by decide) (by omega) (by omega) (fun h_29 => ?_) (fun h_29 => ?_)
            · refine x_iconst (v := nI 0) hx dX8_needed_44 (by decide) ?_
              refine x_istore (lv' := [(4, .int (nI 0)), (0, .ref mo), (1, .int (nI g)), (2, .int (nI (mxTo (often mTV mhn e9 g) mlo d))), (3, .int (nI d))]) hx dX8_needed_45 hl (Nat.le_of_ble_eq_true rfl) rfl (fun ls hl => ?_)
              refine x_iload hx dX8_needed_47 hl 0 rfl ?_
              refine x_aload_n hx dX8_needed_49 hl 1 rfl ?_
              refine x_get8 hx hP 0 rfl 26 (Nat.le_of_ble_eq_true rfl) wf_RX8_47 rfl dX8_needed_50 ?_
              refine x_iload_n hx dX8_needed_53 hl 4 rfl ?_
              have hj_54 : d < 100 := by omega
              refine x_iald (v := iI (mF2 d)) hx hP 3 rfl hj_54 (by decide) (rfl) dX8_needed_54 ?_
              refine x_if_lt_Z (a := (mF2 d)) (tgt := 80) hx dX8_needed_55 (by decide) (by omega) (fun h_30 => ?_) (fun h_30 => ?_)
              · refine x_iconst (v := nI 0) hx dX8_needed_80 (by decide) ?_
                refine x_iadd (v := nI (0 + 0)) hx dX8_needed_81 (nI_add _ _) ?_
                refine x_istore (lv' := [(4, .int (nI (0 + 0))), (0, .ref mo), (1, .int (nI g)), (2, .int (nI (mxTo (often mTV mhn e9 g) mlo d))), (3, .int (nI d))]) hx dX8_needed_82 hl (Nat.le_of_ble_eq_true rfl) rfl (fun ls hl => ?_)
                refine x_iload hx dX8_needed_84 hl 0 rfl ?_
                refine x_iload_n hx dX8_needed_86 hl 3 rfl ?_
                refine x_icmp_le_N (a := (0 + 0)) (b := (mxTo (often mTV mhn e9 g) mlo d)) (tgt := 95) hx dX8_needed_87 (by decide) (by omega) (by omega) (fun h_31 => ?_) (fun h_31 => ?_)
                · refine x_iload_n hx dX8_needed_95 hl 3 rfl ?_
                  refine x_istore_n (lv' := [(2, .int (nI (mxTo (often mTV mhn e9 g) mlo d))), (4, .int (nI (0 + 0))), (0, .ref mo), (1, .int (nI g)), (3, .int (nI d))]) hx dX8_needed_96 hl (Nat.le_of_ble_eq_true rfl) rfl (fun ls hl => ?_)
                  refine x_iinc (v := nI (d + 1)) (lv' := [(3, .int (nI (d + 1))), (2, .int (nI (mxTo (often mTV mhn e9 g) mlo d))), (4, .int (nI (0 + 0))), (0, .ref mo), (1, .int (nI g))]) hx dX8_needed_97 hl 4 rfl (nI_addc d 1) (Nat.le_of_ble_eq_true rfl) rfl (fun ls hl => ?_)
                  refine x_goto (tgt := 7) hx dX8_needed_100 (by decide) ?_
                  have e_32 : (mxTo (often mTV mhn e9 g) mlo d : Nat) = mxTo (often mTV mhn e9 g) mlo (d + 1) := by
                    first | (rw [mxTo_0]; done) | (rw [mxTo_s _ h1, hof]; (repeat first | rw [decide_eq_true (by assumption)] | rw [decide_eq_false (by assumption)]); simp only [Bool.toNat_true, Bool.toNat_false]; omega)
                  have e_33 : (d + 1 : Nat) = (d + 1) := by
                    first | rfl | omega | (simp [*]; done) | (simp [*]; omega)
                  exact ihL7_1 (d + 1) (by first | assumption | omega | (simp [*]; done)) (by first | assumption | omega | (simp [*]; done)) (by omega) _ (lv_to (l := [(0, .ref mo), (1, .int (nI g)), (2, .int (nI (mxTo (often mTV mhn e9 g) mlo d))), (3, .int (nI (d + 1)))]) (l2 := [(0, .ref mo), (1, .int (nI g)), (2, .int (nI (mxTo (often mTV mhn e9 g) mlo (d + 1)))), (3, .int (nI (d + 1)))]) (lv_sub hl [3, 4, 1, 0] rfl) (cE rfl (cE rfl (cE (congrArg (fun z => ((2, Value.int z) : Nat × Value)) (congrArg (fun z : Nat => nI z) e_32)) (cE (congrArg (fun z => ((3, Value.int z) : Nat × Value)) (congrArg (fun z : Nat => nI z) e_33)) rfl)))))
                · refine x_iload hx dX8_needed_90 hl 0 rfl ?_
                  refine x_goto (tgt := 96) hx dX8_needed_92 (by decide) ?_
                  refine x_istore_n (lv' := [(2, .int (nI (0 + 0))), (4, .int (nI (0 + 0))), (0, .ref mo), (1, .int (nI g)), (3, .int (nI d))]) hx dX8_needed_96 hl (Nat.le_of_ble_eq_true rfl) rfl (fun ls hl => ?_)
                  refine x_iinc (v := nI (d + 1)) (lv' := [(3, .int (nI (d + 1))), (2, .int (nI (0 + 0))), (4, .int (nI (0 + 0))), (0, .ref mo), (1, .int (nI g))]) hx dX8_needed_97 hl 4 rfl (nI_addc d 1) (Nat.le_of_ble_eq_true rfl) rfl (fun ls hl => ?_)
                  refine x_goto (tgt := 7) hx dX8_needed_100 (by decide) ?_
                  have e_34 : (0 + 0 : Nat) = mxTo (often mTV mhn e9 g) mlo (d + 1) := by
                    first | (rw [mxTo_0]; done) | (rw [mxTo_s _ h1, hof]; (repeat first | rw [decide_eq_true (by assumption)] | rw [decide_eq_false (by assumption)]); simp only [Bool.toNat_true, Bool.toNat_false]; omega)
                  have e_35 : (d + 1 : Nat) = (d + 1) := by
                    first | rfl | omega | (simp [*]; done) | (simp [*]; omega)
                  exact ihL7_1 (d + 1) (by first | assumption | omega | (simp [*]; done)) (by first | assumption | omega | (simp [*]; done)) (by omega) _ (lv_to (l := [(0, .ref mo), (1, .int (nI g)), (2, .int (nI (0 + 0))), (3, .int (nI (d + 1)))]) (l2 := [(0, .ref mo), (1, .int (nI g)), (2, .int (nI (mxTo (often mTV mhn e9 g) mlo (d + 1)))), (3, .int (nI (d + 1)))]) (lv_sub hl [3, 4, 1, 0] rfl) (cE rfl (cE rfl (cE (congrArg (fun z => ((2, Value.int z) : Nat × Value)) (congrArg (fun z : Nat => nI z) e_34)) (cE (congrArg (fun z => ((3, Value.int z) : Nat × Value)) (congrArg (fun z : Nat => nI z) e_35)) rfl)))))
              · omega
            · refine x_iconst (v := nI 1) hx dX8_needed_40 (by decide) ?_
              refine x_goto (tgt := 45) hx dX8_needed_41 (by decide) ?_
              refine x_istore (lv' := [(4, .int (nI 1)), (0, .ref mo), (1, .int (nI g)), (2, .int (nI (mxTo (often mTV mhn e9 g) mlo d))), (3, .int (nI d))]) hx dX8_needed_45 hl (Nat.le_of_ble_eq_true rfl) rfl (fun ls hl => ?_)
              refine x_iload hx dX8_needed_47 hl 0 rfl ?_
              refine x_aload_n hx dX8_needed_49 hl 1 rfl ?_
              refine x_get8 hx hP 0 rfl 26 (Nat.le_of_ble_eq_true rfl) wf_RX8_47 rfl dX8_needed_50 ?_
              refine x_iload_n hx dX8_needed_53 hl 4 rfl ?_
              have hj_54 : d < 100 := by omega
              refine x_iald (v := iI (mF2 d)) hx hP 3 rfl hj_54 (by decide) (rfl) dX8_needed_54 ?_
              refine x_if_lt_Z (a := (mF2 d)) (tgt := 80) hx dX8_needed_55 (by decide) (by omega) (fun h_36 => ?_) (fun h_36 => ?_)
              · refine x_iconst (v := nI 0) hx dX8_needed_80 (by decide) ?_
                refine x_iadd (v := nI (1 + 0)) hx dX8_needed_81 (nI_add _ _) ?_
                refine x_istore (lv' := [(4, .int (nI (1 + 0))), (0, .ref mo), (1, .int (nI g)), (2, .int (nI (mxTo (often mTV mhn e9 g) mlo d))), (3, .int (nI d))]) hx dX8_needed_82 hl (Nat.le_of_ble_eq_true rfl) rfl (fun ls hl => ?_)
                refine x_iload hx dX8_needed_84 hl 0 rfl ?_
                refine x_iload_n hx dX8_needed_86 hl 3 rfl ?_
                refine x_icmp_le_N (a := (1 + 0)) (b := (mxTo (often mTV mhn e9 g) mlo d)) (tgt := 95) hx dX8_needed_87 (by decide) (by omega) (by omega) (fun h_37 => ?_) (fun h_37 => ?_)
                · refine x_iload_n hx dX8_needed_95 hl 3 rfl ?_
                  refine x_istore_n (lv' := [(2, .int (nI (mxTo (often mTV mhn e9 g) mlo d))), (4, .int (nI (1 + 0))), (0, .ref mo), (1, .int (nI g)), (3, .int (nI d))]) hx dX8_needed_96 hl (Nat.le_of_ble_eq_true rfl) rfl (fun ls hl => ?_)
                  refine x_iinc (v := nI (d + 1)) (lv' := [(3, .int (nI (d + 1))), (2, .int (nI (mxTo (often mTV mhn e9 g) mlo d))), (4, .int (nI (1 + 0))), (0, .ref mo), (1, .int (nI g))]) hx dX8_needed_97 hl 4 rfl (nI_addc d 1) (Nat.le_of_ble_eq_true rfl) rfl (fun ls hl => ?_)
                  refine x_goto (tgt := 7) hx dX8_needed_100 (by decide) ?_
                  have e_38 : (mxTo (often mTV mhn e9 g) mlo d : Nat) = mxTo (often mTV mhn e9 g) mlo (d + 1) := by
                    first | (rw [mxTo_0]; done) | (rw [mxTo_s _ h1, hof]; (repeat first | rw [decide_eq_true (by assumption)] | rw [decide_eq_false (by assumption)]); simp only [Bool.toNat_true, Bool.toNat_false]; omega)
                  have e_39 : (d + 1 : Nat) = (d + 1) := by
                    first | rfl | omega | (simp [*]; done) | (simp [*]; omega)
                  exact ihL7_1 (d + 1) (by first | assumption | omega | (simp [*]; done)) (by first | assumption | omega | (simp [*]; done)) (by omega) _ (lv_to (l := [(0, .ref mo), (1, .int (nI g)), (2, .int (nI (mxTo (often mTV mhn e9 g) mlo d))), (3, .int (nI (d + 1)))]) (l2 := [(0, .ref mo), (1, .int (nI g)), (2, .int (nI (mxTo (often mTV mhn e9 g) mlo (d + 1)))), (3, .int (nI (d + 1)))]) (lv_sub hl [3, 4, 1, 0] rfl) (cE rfl (cE rfl (cE (congrArg (fun z => ((2, Value.int z) : Nat × Value)) (congrArg (fun z : Nat => nI z) e_38)) (cE (congrArg (fun z => ((3, Value.int z) : Nat × Value)) (congrArg (fun z : Nat => nI z) e_39)) rfl)))))
                · refine x_iload hx dX8_needed_90 hl 0 rfl ?_
                  refine x_goto (tgt := 96) hx dX8_needed_92 (by decide) ?_
                  refine x_istore_n (lv' := [(2, .int (nI (1 + 0))), (4, .int (nI (1 + 0))), (0, .ref mo), (1, .int (nI g)), (3, .int (nI d))]) hx dX8_needed_96 hl (Nat.le_of_ble_eq_true rfl) rfl (fun ls hl => ?_)
                  refine x_iinc (v := nI (d + 1)) (lv' := [(3, .int (nI (d + 1))), (2, .int (nI (1 + 0))), (4, .int (nI (1 + 0))), (0, .ref mo), (1, .int (nI g))]) hx dX8_needed_97 hl 4 rfl (nI_addc d 1) (Nat.le_of_ble_eq_true rfl) rfl (fun ls hl => ?_)
                  refine x_goto (tgt := 7) hx dX8_needed_100 (by decide) ?_
                  have e_40 : (1 + 0 : Nat) = mxTo (often mTV mhn e9 g) mlo (d + 1) := by
                    first | (rw [mxTo_0]; done) | (rw [mxTo_s _ h1, hof]; (repeat first | rw [decide_eq_true (by assumption)] | rw [decide_eq_false (by assumption)]); simp only [Bool.toNat_true, Bool.toNat_false]; omega)
                  have e_41 : (d + 1 : Nat) = (d + 1) := by
                    first | rfl | omega | (simp [*]; done) | (simp [*]; omega)
                  exact ihL7_1 (d + 1) (by first | assumption | omega | (simp [*]; done)) (by first | assumption | omega | (simp [*]; done)) (by omega) _ (lv_to (l := [(0, .ref mo), (1, .int (nI g)), (2, .int (nI (1 + 0))), (3, .int (nI (d + 1)))]) (l2 := [(0, .ref mo), (1, .int (nI g)), (2, .int (nI (mxTo (often mTV mhn e9 g) mlo (d + 1)))), (3, .int (nI (d + 1)))]) (lv_sub hl [3, 4, 1, 0] rfl) (cE rfl (cE rfl (cE (congrArg (fun z => ((2, Value.int z) : Nat × Value)) (congrArg (fun z : Nat => nI z) e_40)) (cE (congrArg (fun z => ((3, Value.int z) : Nat × Value)) (congrArg (fun z : Nat => nI z) e_41)) rfl)))))
              · omega
  have e_42 : (0 : Nat) = mxTo (often mTV mhn e9 g) mlo mlo := by
    first | (rw [mxTo_0]; done) | (rw [mxTo_s _ h1, hof]; (repeat first | rw [decide_eq_true (by assumption)] | rw [decide_eq_false (by assumption)]); simp only [Bool.toNat_true, Bool.toNat_false]; omega)
  exact L7_1 (e9 - mlo + 1) mlo (by first | assumption | omega | (simp [*]; done)) (by first | assumption | omega | (simp [*]; done)) (Nat.lt_succ_self _) _ (lv_to (l := [(0, .ref mo), (1, .int (nI g)), (2, .int (nI 0)), (3, .int (nI mlo))]) (l2 := [(0, .ref mo), (1, .int (nI g)), (2, .int (nI (mxTo (often mTV mhn e9 g) mlo mlo))), (3, .int (nI mlo))]) (lv_sub hl [2, 3, 1, 0] rfl) (cE rfl (cE rfl (cE (congrArg (fun z => ((2, Value.int z) : Nat × Value)) (congrArg (fun z : Nat => nI z) e_42)) (cE rfl rfl)))))
set_option maxHeartbeats 4000000 in
set_option maxRecDepth 100000 in
theorem c_X8_must (l : Launch) (D : KD) (mo : Nat) (mhd : Bool) (mlo : Nat) (mto : Nat) (mhn : Bool) (mcu : Nat) (y_sides : Nat) (y_other : Nat) (y_prices : Nat) (y_now : Nat) (msd : Nat) (y_text : Nat) (mlen : Nat) (mfa : Int) (mat : Nat) (mnu : Nat) (mna : Nat) (mri : Bool) (y_readDays : Nat) (mrc : Nat) (y_readSides : Nat) (y_readFigures : Nat) (mrp : Nat) (y_readOther : Nat) (y_readPrices : Nat) (mtp : Nat) (y_firstOf : Nat) (y_secondOf : Nat) (y_shown : Nat) (mun : Nat) (y_past : Nat) (y_choices : Nat) (mcm : Nat) (y_wanted : Nat) (mpm : Nat) (mpf : Int) (mpo : Nat) (y_ways : Nat) (y_waysThen : Nat) (mwr : Nat) (y_wrongDay : Nat) (y_wrongShown : Nat) (y_could : Nat) (y_shownIn : Nat) (mbk : Nat) (y_book : Nat) (y_images : Nat) (y_isKept : Nat) (mTV : Nat → Nat) (mF1 : Nat → Nat) (mF2 : Nat → Int) (e9 : Nat) (z : Int) (hmTV : ∀ k, k < 10 → mTV k < 10) (hI : ∀ k, k < 10 → mTV (mTV k) = k) (hme : e9 = pk mhd (mto + 1) mlo) (hle : mlo ≤ e9) (he : e9 ≤ 100) (hto : mto ≤ 99) (hlo9 : mlo ≤ 99) (hPL : plOk mhn e9 mF1 mF2) (hz : -2147483648 ≤ z ∧ z < 2147483648) : cR l yX8_must cX8_must 2 (some .int) rm_X8_must D [(mo, .inr (8, [.int (nI mhd.toNat), .int (nI mlo), .int (nI mto), .int (nI mhn.toNat), .int (nI mcu), .ref y_sides, .ref y_other, .ref y_prices, .ref y_now, .int (nI msd), .ref y_text, .int (nI mlen), .int (iI mfa), .int (nI mat), .int (nI mnu), .int (nI mna), .int (nI mri.toNat), .ref y_readDays, .int (nI mrc), .ref y_readSides, .ref y_readFigures, .int (nI mrp), .ref y_readOther, .ref y_readPrices, .int (nI mtp), .ref y_firstOf, .ref y_secondOf, .ref y_shown, .int (nI mun), .ref y_past, .ref y_choices, .int (nI mcm), .ref y_wanted, .int (nI mpm), .int (iI mpf), .int (nI mpo), .ref y_ways, .ref y_waysThen, .int (nI mwr), .ref y_wrongDay, .ref y_wrongShown, .ref y_could, .ref y_shownIn, .int (nI mbk), .ref y_book, .ref y_images, .ref y_isKept])), (y_other, .inl (D.2.1, 10, .inl (nA mTV))), (y_firstOf, .inl (D.2.1, 100, .inl (nA mF1))), (y_secondOf, .inl (D.2.1, 100, .inl (zA mF2)))] [.ref mo, .int (iI z)] (iI (figF (mostO mTV mhn mlo e9) z)) := by
  refine cR.mk (by decide) (retI _) (Nat.le_of_ble_eq_true rfl) ?_
  intro X hx hL hP hret ls hl
  subst hL
  have hl : lv_has ls 2 [(0, .ref mo), (1, .int (iI z))] := hl
  refine x_iload_n hx dX8_must_0 hl 1 rfl ?_
  refine x_callRS (As := [.int (iI z)]) (rest := []) hx yv_X8_isFigure (c_X8_isFigure _ D z (by first | assumption | omega | (simp [*]; done))) wm_RX8_201 hP [] rfl ⟨rfl, rfl⟩ ⟨Nat.le_of_ble_eq_true rfl, Nat.le_of_ble_eq_true rfl⟩ ⟨Nat.zero_le _, Nat.zero_le _⟩ hl rfl rfl (Nat.le_of_ble_eq_true rfl) dX8_must_1 ?_
  refine x_if_eq_B (tgt := 15) hx dX8_must_4 (by decide) (fun h_1 => ?_) (fun h_1 => ?_)
  · have hd_2 := of_decide_eq_false h_1
    refine x_ldc (u := iI (-1000000001)) hx wk_RX8_197 (by decide) dX8_must_15 ?_
    exact hret _ _ _ dX8_must_17 (by simp only [figF, Int.toNat_natCast]; (repeat first | rw [if_pos (by omega)] | rw [if_neg (by omega)]); try rfl)
  · have hd_3 := of_decide_eq_true h_1
    obtain ⟨c, rfl⟩ := Int.eq_ofNat_of_zero_le (show 0 ≤ z from by omega)
    have hl : lv_has ls 2 [(0, .ref mo), (1, .int (nI c))] := hl
    refine x_aload_n hx dX8_must_7 hl 0 rfl ?_
    refine x_iload_n hx dX8_must_8 hl 1 rfl ?_
    refine x_callRV (As := [.int (nI c)]) (rest := []) hx yv_X8_needed (c_X8_needed _ D mo mhd mlo mto mhn mcu y_sides y_other y_prices y_now msd y_text mlen mfa mat mnu mna mri y_readDays mrc y_readSides y_readFigures mrp y_readOther y_readPrices mtp y_firstOf y_secondOf y_shown mun y_past y_choices mcm y_wanted mpm mpf mpo y_ways y_waysThen mwr y_wrongDay y_wrongShown y_could y_shownIn mbk y_book y_images y_isKept mTV mF1 mF2 e9 c (by first | assumption | omega | (simp [*]; done)) (by first | assumption | omega | (simp [*]; done)) (by first | assumption | omega | (simp [*]; done)) (by first | assumption | omega | (simp [*]; done)) (by first | assumption | omega | (simp [*]; done)) (by first | assumption | omega | (simp [*]; done)) (by first | assumption | omega | (simp [*]; done)) (by first | assumption | omega | (simp [*]; done)) (by first | assumption | omega | (simp [*]; done))) wm_RX8_253 hP [0, 1, 2, 3] rfl 0 rfl rfl ⟨rfl, rfl⟩ ⟨Nat.le_of_ble_eq_true rfl, Nat.le_of_ble_eq_true rfl⟩ ⟨Nat.zero_le _, Nat.zero_le _⟩ hl rfl rfl (Nat.le_of_ble_eq_true rfl) dX8_must_9 ?_
    refine x_goto (tgt := 17) hx dX8_must_12 (by decide) ?_
    exact hret _ _ _ dX8_must_17 (by simp only [figF, Int.toNat_natCast]; (repeat first | rw [if_pos (by omega)] | rw [if_neg (by omega)]); try rfl)
theorem les_self {TV : Nat → Nat} {g : Nat} : les TV g = g ↔ ¬ TV g < g := by unfold les; omega
set_option maxHeartbeats 4000000 in
set_option maxRecDepth 100000 in
theorem c_X8_board (l : Launch) (D : KD) (mo : Nat) (mhd : Bool) (mlo : Nat) (mto : Nat) (mhn : Bool) (mcu : Nat) (y_sides : Nat) (y_other : Nat) (y_prices : Nat) (y_now : Nat) (msd : Nat) (y_text : Nat) (mlen : Nat) (mfa : Int) (mat : Nat) (mnu : Nat) (mna : Nat) (mri : Bool) (y_readDays : Nat) (mrc : Nat) (y_readSides : Nat) (y_readFigures : Nat) (mrp : Nat) (y_readOther : Nat) (y_readPrices : Nat) (mtp : Nat) (y_firstOf : Nat) (y_secondOf : Nat) (y_shown : Nat) (mun : Nat) (y_past : Nat) (y_choices : Nat) (mcm : Nat) (y_wanted : Nat) (mpm : Nat) (mpf : Int) (mpo : Nat) (y_ways : Nat) (y_waysThen : Nat) (mwr : Nat) (y_wrongDay : Nat) (y_wrongShown : Nat) (y_could : Nat) (y_shownIn : Nat) (mbk : Nat) (y_book : Nat) (y_images : Nat) (y_isKept : Nat) (mTV : Nat → Nat) (mF1 : Nat → Nat) (mF2 : Nat → Int) (e9 : Nat) (q : Int) (z : Int) (hmTV : ∀ k, k < 10 → mTV k < 10) (hI : ∀ k, k < 10 → mTV (mTV k) = k) (hme : e9 = pk mhd (mto + 1) mlo) (hle : mlo ≤ e9) (he : e9 ≤ 100) (hto : mto ≤ 99) (hlo9 : mlo ≤ 99) (hPL : plOk mhn e9 mF1 mF2) (hz : -2147483648 ≤ z ∧ z < 2147483648) (hq : -2147483648 ≤ q ∧ q < 2147483648) : cR l yX8_board cX8_board 3 (some .int) rm_X8_board D [(mo, .inr (8, [.int (nI mhd.toNat), .int (nI mlo), .int (nI mto), .int (nI mhn.toNat), .int (nI mcu), .ref y_sides, .ref y_other, .ref y_prices, .ref y_now, .int (nI msd), .ref y_text, .int (nI mlen), .int (iI mfa), .int (nI mat), .int (nI mnu), .int (nI mna), .int (nI mri.toNat), .ref y_readDays, .int (nI mrc), .ref y_readSides, .ref y_readFigures, .int (nI mrp), .ref y_readOther, .ref y_readPrices, .int (nI mtp), .ref y_firstOf, .ref y_secondOf, .ref y_shown, .int (nI mun), .ref y_past, .ref y_choices, .int (nI mcm), .ref y_wanted, .int (nI mpm), .int (iI mpf), .int (nI mpo), .ref y_ways, .ref y_waysThen, .int (nI mwr), .ref y_wrongDay, .ref y_wrongShown, .ref y_could, .ref y_shownIn, .int (nI mbk), .ref y_book, .ref y_images, .ref y_isKept])), (y_other, .inl (D.2.1, 10, .inl (nA mTV))), (y_firstOf, .inl (D.2.1, 100, .inl (nA mF1))), (y_secondOf, .inl (D.2.1, 100, .inl (zA mF2)))] [.ref mo, .int (iI q), .int (iI z)] (iI (boardF mTV mhn mlo e9 q z)) := by
  refine cR.mk (by decide) (retI _) (Nat.le_of_ble_eq_true rfl) ?_
  intro X hx hL hP hret ls hl
  subst hL
  have hl : lv_has ls 3 [(0, .ref mo), (1, .int (iI q)), (2, .int (iI z))] := hl
  refine x_iload_n hx dX8_board_0 hl 2 rfl ?_
  refine x_callRS (As := [.int (iI z)]) (rest := []) hx yv_X8_isFigure (c_X8_isFigure _ D z (by first | assumption | omega | (simp [*]; done))) wm_RX8_201 hP [] rfl ⟨rfl, rfl⟩ ⟨Nat.le_of_ble_eq_true rfl, Nat.le_of_ble_eq_true rfl⟩ ⟨Nat.zero_le _, Nat.zero_le _⟩ hl rfl rfl (Nat.le_of_ble_eq_true rfl) dX8_board_1 ?_
  refine x_if_ne_B (tgt := 10) hx dX8_board_4 (by decide) (fun h_1 => ?_) (fun h_1 => ?_)
  · have hd_2 := of_decide_eq_true h_1
    obtain ⟨c, rfl⟩ := Int.eq_ofNat_of_zero_le (show 0 ≤ z from by omega)
    have hl : lv_has ls 3 [(0, .ref mo), (1, .int (iI q)), (2, .int (nI c))] := hl
    have hlc := les_lt (TV := mTV) (show c < 10 by omega)
    refine x_iload_n hx dX8_board_10 hl 1 rfl ?_
    refine x_i2l (v := lI q) hx dX8_board_11 (lI_of (by omega)) ?_
    refine x_lconst (v := lN 1) hx dX8_board_12 (by decide) ?_
    refine x_ldc2 (u := lN 5) hx wk_RX8_293 (by decide) dX8_board_13 ?_
    refine x_callRS (As := [.long (lI q), .long (lN 1), .long (lN 5)]) (rest := []) hx yv_X8_in (c_X8_in _ D q 1 5 (by first | assumption | omega | (simp [*]; done)) (by first | assumption | omega | (simp [*]; done)) (by first | assumption | omega | (simp [*]; done))) wm_RX8_93 hP [] rfl ⟨rfl, rfl⟩ ⟨Nat.le_of_ble_eq_true rfl, Nat.le_of_ble_eq_true rfl⟩ ⟨Nat.zero_le _, Nat.zero_le _⟩ hl rfl rfl (Nat.le_of_ble_eq_true rfl) dX8_board_16 ?_
    refine x_if_ne_B (tgt := 25) hx dX8_board_19 (by decide) (fun h_3 => ?_) (fun h_3 => ?_)
    · have hd_4 := of_decide_eq_true h_3
      obtain ⟨m, rfl⟩ := Int.eq_ofNat_of_zero_le (show 0 ≤ q from by omega)
      have hl : lv_has ls 3 [(0, .ref mo), (1, .int (nI m)), (2, .int (nI c))] := hl
      refine x_aload_n hx dX8_board_25 hl 0 rfl ?_
      refine x_iload_n hx dX8_board_26 hl 2 rfl ?_
      refine x_callRV (As := [.int (nI c)]) (rest := []) hx yv_X8_stands (c_X8_stands _ D mo mhd mlo mto mhn mcu y_sides y_other y_prices y_now msd y_text mlen mfa mat mnu mna mri y_readDays mrc y_readSides y_readFigures mrp y_readOther y_readPrices mtp y_firstOf y_secondOf y_shown mun y_past y_choices mcm y_wanted mpm mpf mpo y_ways y_waysThen mwr y_wrongDay y_wrongShown y_could y_shownIn mbk y_book y_images y_isKept mTV c (by first | assumption | omega | (simp [*]; done)) (by first | assumption | omega | (simp [*]; done))) wm_RX8_250 hP [0, 1] rfl 0 rfl rfl ⟨rfl, rfl⟩ ⟨Nat.le_of_ble_eq_true rfl, Nat.le_of_ble_eq_true rfl⟩ ⟨Nat.zero_le _, Nat.zero_le _⟩ hl rfl rfl (Nat.le_of_ble_eq_true rfl) dX8_board_27 ?_
      refine x_iload_n hx dX8_board_30 hl 2 rfl ?_
      refine x_icmp_ne_N (a := (les mTV c)) (b := c) (tgt := 44) hx dX8_board_31 (by decide) (by omega) (by omega) (fun h_5 => ?_) (fun h_5 => ?_)
      · have hls : mTV c < c := by
          rcases Nat.lt_or_ge (mTV c) c with h9 | h9
          · exact h9
          · exact absurd (les_self.mpr (by omega)) h_5
        refine x_iconst (v := nI 0) hx dX8_board_44 (by decide) ?_
        exact hret _ _ _ dX8_board_45 (by simp only [boardF, Int.toNat_natCast]; (repeat first | rw [if_pos (by omega)] | rw [if_neg (by omega)]); try rfl)
      · have hls := les_self.mp h_5
        refine x_iload_n hx dX8_board_34 hl 1 rfl ?_
        refine x_aload_n hx dX8_board_35 hl 0 rfl ?_
        refine x_iload_n hx dX8_board_36 hl 2 rfl ?_
        refine x_callRV (As := [.int (nI c)]) (rest := [.int (nI m)]) hx yv_X8_needed (c_X8_needed _ D mo mhd mlo mto mhn mcu y_sides y_other y_prices y_now msd y_text mlen mfa mat mnu mna mri y_readDays mrc y_readSides y_readFigures mrp y_readOther y_readPrices mtp y_firstOf y_secondOf y_shown mun y_past y_choices mcm y_wanted mpm mpf mpo y_ways y_waysThen mwr y_wrongDay y_wrongShown y_could y_shownIn mbk y_book y_images y_isKept mTV mF1 mF2 e9 c (by first | assumption | omega | (simp [*]; done)) (by first | assumption | omega | (simp [*]; done)) (by first | assumption | omega | (simp [*]; done)) (by first | assumption | omega | (simp [*]; done)) (by first | assumption | omega | (simp [*]; done)) (by first | assumption | omega | (simp [*]; done)) (by first | assumption | omega | (simp [*]; done)) (by first | assumption | omega | (simp [*]; done)) (by first | assumption | omega | (simp [*]; done))) wm_RX8_253 hP [0, 1, 2, 3] rfl 0 rfl rfl ⟨rfl, rfl⟩ ⟨Nat.le_of_ble_eq_true rfl, Nat.le_of_ble_eq_true rfl⟩ ⟨Nat.zero_le _, Nat.zero_le _⟩ hl rfl rfl (Nat.le_of_ble_eq_true rfl) dX8_board_37 ?_
        have hmx := mxTo_le (often_le mTV mhn e9 c) mlo e9
        refine x_imul (v := nI (m * (mostO mTV mhn mlo e9 c))) hx dX8_board_40 (pk_mul _ _) ?_
        refine x_goto (tgt := 45) hx dX8_board_41 (by decide) ?_
        exact hret _ _ _ dX8_board_45 (by simp only [boardF, Int.toNat_natCast]; (repeat first | rw [if_pos (by omega)] | rw [if_neg (by omega)]); try rfl)
    · have hd_6 := of_decide_eq_false h_3
      refine x_ldc (u := iI (-1000000002)) hx wk_RX8_115 (by decide) dX8_board_22 ?_
      exact hret _ _ _ dX8_board_24 (by simp only [boardF, Int.toNat_natCast]; (repeat first | rw [if_pos (by omega)] | rw [if_neg (by omega)]); try rfl)
  · have hd_7 := of_decide_eq_false h_1
    refine x_ldc (u := iI (-1000000001)) hx wk_RX8_197 (by decide) dX8_board_7 ?_
    exact hret _ _ _ dX8_board_9 (by simp only [boardF, Int.toNat_natCast]; (repeat first | rw [if_pos (by omega)] | rw [if_neg (by omega)]); try rfl)
set_option maxHeartbeats 4000000 in
set_option maxRecDepth 100000 in
theorem c_X8_wrong_no (l : Launch) (D : KD) (mo : Nat) (mhd : Bool) (mlo : Nat) (mto : Nat) (mhn : Bool) (mcu : Nat) (y_sides : Nat) (y_other : Nat) (y_prices : Nat) (y_now : Nat) (msd : Nat) (y_text : Nat) (mlen : Nat) (mfa : Int) (mat : Nat) (mnu : Nat) (mna : Nat) (mri : Bool) (y_readDays : Nat) (mrc : Nat) (y_readSides : Nat) (y_readFigures : Nat) (mrp : Nat) (y_readOther : Nat) (y_readPrices : Nat) (mtp : Nat) (y_firstOf : Nat) (y_secondOf : Nat) (y_shown : Nat) (mun : Nat) (y_past : Nat) (y_choices : Nat) (mcm : Nat) (y_wanted : Nat) (mpm : Nat) (mpf : Int) (mpo : Nat) (y_ways : Nat) (y_waysThen : Nat) (mwr : Nat) (y_wrongDay : Nat) (y_wrongShown : Nat) (y_could : Nat) (y_shownIn : Nat) (mbk : Nat) (y_book : Nat) (y_images : Nat) (y_isKept : Nat) (e9 : Nat) (z : Int) (b : Bool) (hme : e9 = pk mhd (mto + 1) mlo) (hle : mlo ≤ e9) (he : e9 ≤ 100) (hto : mto ≤ 99) (hlo9 : mlo ≤ 99) (hz : -2147483648 ≤ z ∧ z < 2147483648) (hw : mwr ≤ 6) (hno : ¬ (((mlo : Int) ≤ z ∧ z < (e9 : Int)) ∧ mwr < 6)) : cR l yX8_wrong cX8_wrong 3 (some .int) rm_X8_wrong D [(mo, .inr (8, [.int (nI mhd.toNat), .int (nI mlo), .int (nI mto), .int (nI mhn.toNat), .int (nI mcu), .ref y_sides, .ref y_other, .ref y_prices, .ref y_now, .int (nI msd), .ref y_text, .int (nI mlen), .int (iI mfa), .int (nI mat), .int (nI mnu), .int (nI mna), .int (nI mri.toNat), .ref y_readDays, .int (nI mrc), .ref y_readSides, .ref y_readFigures, .int (nI mrp), .ref y_readOther, .ref y_readPrices, .int (nI mtp), .ref y_firstOf, .ref y_secondOf, .ref y_shown, .int (nI mun), .ref y_past, .ref y_choices, .int (nI mcm), .ref y_wanted, .int (nI mpm), .int (iI mpf), .int (nI mpo), .ref y_ways, .ref y_waysThen, .int (nI mwr), .ref y_wrongDay, .ref y_wrongShown, .ref y_could, .ref y_shownIn, .int (nI mbk), .ref y_book, .ref y_images, .ref y_isKept]))] [.ref mo, .int (iI z), .int (nI b.toNat)] (iI (if (mlo : Int) ≤ z ∧ z < (e9 : Int) then -1000000004 else -1000000002)) := by
  refine cR.mk (by decide) (retI _) (Nat.le_of_ble_eq_true rfl) ?_
  intro X hx hL hP hret ls hl
  subst hL
  have hl : lv_has ls 3 [(0, .ref mo), (1, .int (iI z)), (2, .int (nI b.toNat))] := hl
  have hme1 : mhd = true → e9 = mto + 1 := fun h9 => by rw [hme, pk_t h9]
  have hme0 : mhd = false → e9 = mlo := fun h9 => by rw [hme, pk_f h9]
  have hme2 : e9 = mto + 1 ∨ e9 = mlo := by
    cases hq9 : mhd with
    | true => exact Or.inl (hme1 hq9)
    | false => exact Or.inr (hme0 hq9)
  refine x_aload_n hx dX8_wrong_0 hl 0 rfl ?_
  refine x_iload_n hx dX8_wrong_1 hl 1 rfl ?_
  refine x_callRV (As := [.int (iI z)]) (rest := []) hx yv_X8_isDay (c_X8_isDay _ D mo mhd mlo mto mhn mcu y_sides y_other y_prices y_now msd y_text mlen mfa mat mnu mna mri y_readDays mrc y_readSides y_readFigures mrp y_readOther y_readPrices mtp y_firstOf y_secondOf y_shown mun y_past y_choices mcm y_wanted mpm mpf mpo y_ways y_waysThen mwr y_wrongDay y_wrongShown y_could y_shownIn mbk y_book y_images y_isKept z (by first | assumption | omega | (simp [*]; done)) (by first | assumption | omega | (simp [*]; done)) (by first | assumption | omega | (simp [*]; done))) wm_RX8_211 hP [0] rfl 0 rfl rfl ⟨rfl, rfl⟩ ⟨Nat.le_of_ble_eq_true rfl, Nat.le_of_ble_eq_true rfl⟩ ⟨Nat.zero_le _, Nat.zero_le _⟩ hl rfl rfl (Nat.le_of_ble_eq_true rfl) dX8_wrong_2 ?_
  refine x_if_ne_B (tgt := 11) hx dX8_wrong_5 (by decide) (fun h_1 => ?_) (fun h_1 => ?_)
  · simp only [Bool.and_eq_true, decide_eq_true_eq] at h_1
    have hx1 := hme1 h_1.1
    refine x_aload_n hx dX8_wrong_11 hl 0 rfl ?_
    refine x_get8 hx hP 0 rfl 38 (Nat.le_of_ble_eq_true rfl) wf_RX8_184 rfl dX8_wrong_12 ?_
    refine x_bipush (v := nI 6) hx dX8_wrong_15 (by decide) ?_
    refine x_icmp_ne_N (a := mwr) (b := 6) (tgt := 23) hx dX8_wrong_17 (by decide) (by omega) (by omega) (fun h_2 => ?_) (fun h_2 => ?_)
    · omega
    · refine x_ldc (u := iI (-1000000004)) hx wk_RX8_119 (by decide) dX8_wrong_20 ?_
      exact hret _ _ _ dX8_wrong_22 (by congr 1; first | (rw [if_pos (by omega)]; done) | (rw [if_neg (by omega)]; done))
  · have hx2 : ¬ ((mlo : Int) ≤ z ∧ z < (e9 : Int)) := by
      intro h9
      cases hq9 : mhd with
      | false => have := hme0 hq9; omega
      | true =>
        have := hme1 hq9
        rw [hq9, Bool.true_and, decide_eq_false_iff_not] at h_1
        omega
    refine x_ldc (u := iI (-1000000002)) hx wk_RX8_115 (by decide) dX8_wrong_8 ?_
    exact hret _ _ _ dX8_wrong_10 (by congr 1; first | (rw [if_pos (by omega)]; done) | (rw [if_neg (by omega)]; done))
set_option maxHeartbeats 4000000 in
set_option maxRecDepth 100000 in
theorem c_X8_wrong (l : Launch) (D : KD) (mo : Nat) (mhd : Bool) (mlo : Nat) (mto : Nat) (mhn : Bool) (mcu : Nat) (y_sides : Nat) (y_other : Nat) (y_prices : Nat) (y_now : Nat) (msd : Nat) (y_text : Nat) (mlen : Nat) (mfa : Int) (mat : Nat) (mnu : Nat) (mna : Nat) (mri : Bool) (y_readDays : Nat) (mrc : Nat) (y_readSides : Nat) (y_readFigures : Nat) (mrp : Nat) (y_readOther : Nat) (y_readPrices : Nat) (mtp : Nat) (y_firstOf : Nat) (y_secondOf : Nat) (y_shown : Nat) (mun : Nat) (y_past : Nat) (y_choices : Nat) (mcm : Nat) (y_wanted : Nat) (mpm : Nat) (mpf : Int) (mpo : Nat) (y_ways : Nat) (y_waysThen : Nat) (mwr : Nat) (y_wrongDay : Nat) (y_wrongShown : Nat) (y_could : Nat) (y_shownIn : Nat) (mbk : Nat) (y_book : Nat) (y_images : Nat) (y_isKept : Nat) (mWD : Nat → Nat) (mWS : Nat → Bool) (e9 : Nat) (d : Nat) (b : Bool) (hme : e9 = pk mhd (mto + 1) mlo) (hle : mlo ≤ e9) (he : e9 ≤ 100) (hto : mto ≤ 99) (hlo9 : mlo ≤ 99) (hd1 : mlo ≤ d) (hd2 : d < e9) (hw : mwr < 6) : cM l yX8_wrong cX8_wrong 3 (some .int) rm_X8_wrong D [(mo, .inr (8, [.int (nI mhd.toNat), .int (nI mlo), .int (nI mto), .int (nI mhn.toNat), .int (nI mcu), .ref y_sides, .ref y_other, .ref y_prices, .ref y_now, .int (nI msd), .ref y_text, .int (nI mlen), .int (iI mfa), .int (nI mat), .int (nI mnu), .int (nI mna), .int (nI mri.toNat), .ref y_readDays, .int (nI mrc), .ref y_readSides, .ref y_readFigures, .int (nI mrp), .ref y_readOther, .ref y_readPrices, .int (nI mtp), .ref y_firstOf, .ref y_secondOf, .ref y_shown, .int (nI mun), .ref y_past, .ref y_choices, .int (nI mcm), .ref y_wanted, .int (nI mpm), .int (iI mpf), .int (nI mpo), .ref y_ways, .ref y_waysThen, .int (nI mwr), .ref y_wrongDay, .ref y_wrongShown, .ref y_could, .ref y_shownIn, .int (nI mbk), .ref y_book, .ref y_images, .ref y_isKept])), (y_wrongDay, .inl (D.2.1, 6, .inl (nA mWD))), (y_wrongShown, .inl (D.2.2.1, 6, .inl (bA mWS)))] [.ref mo, .int (nI d), .int (nI b.toNat)] (nI (mwr + 1)) [(mo, .inr (8, [.int (nI mhd.toNat), .int (nI mlo), .int (nI mto), .int (nI mhn.toNat), .int (nI mcu), .ref y_sides, .ref y_other, .ref y_prices, .ref y_now, .int (nI msd), .ref y_text, .int (nI mlen), .int (iI mfa), .int (nI mat), .int (nI mnu), .int (nI mna), .int (nI mri.toNat), .ref y_readDays, .int (nI mrc), .ref y_readSides, .ref y_readFigures, .int (nI mrp), .ref y_readOther, .ref y_readPrices, .int (nI mtp), .ref y_firstOf, .ref y_secondOf, .ref y_shown, .int (nI mun), .ref y_past, .ref y_choices, .int (nI mcm), .ref y_wanted, .int (nI mpm), .int (iI mpf), .int (nI mpo), .ref y_ways, .ref y_waysThen, .int (nI (mwr + 1)), .ref y_wrongDay, .ref y_wrongShown, .ref y_could, .ref y_shownIn, .int (nI mbk), .ref y_book, .ref y_images, .ref y_isKept])), (y_wrongDay, .inl (D.2.1, 6, .inl (nA (va_up mWD mwr d)))), (y_wrongShown, .inl (D.2.2.1, 6, .inl (bA (va_up mWS mwr b))))] := by
  refine cM.mk (by decide) (retI _) (Nat.le_of_ble_eq_true rfl) ?_
  intro X A hx hL hA hW hret ls hl
  subst hL
  have hl : lv_has ls 3 [(0, .ref mo), (1, .int (nI d)), (2, .int (nI b.toNat))] := hl
  have hme1 : mhd = true → e9 = mto + 1 := fun h9 => by rw [hme, pk_t h9]
  have hme0 : mhd = false → e9 = mlo := fun h9 => by rw [hme, pk_f h9]
  have hme2 : e9 = mto + 1 ∨ e9 = mlo := by
    cases hq9 : mhd with
    | true => exact Or.inl (hme1 hq9)
    | false => exact Or.inr (hme0 hq9)
  have hmd : mhd = true := by
    cases hq9 : mhd with
    | true => rfl
    | false => have := hme0 hq9; omega
  have hmt := hme1 hmd
  refine x_aload_n hx dX8_wrong_0 hl 0 rfl ?_
  refine x_iload_n hx dX8_wrong_1 hl 1 rfl ?_
  refine x_callRV (As := [.int (nI d)]) (rest := []) hx yv_X8_isDay (c_X8_isDay _ D mo mhd mlo mto mhn mcu y_sides y_other y_prices y_now msd y_text mlen mfa mat mnu mna mri y_readDays mrc y_readSides y_readFigures mrp y_readOther y_readPrices mtp y_firstOf y_secondOf y_shown mun y_past y_choices mcm y_wanted mpm mpf mpo y_ways y_waysThen mwr y_wrongDay y_wrongShown y_could y_shownIn mbk y_book y_images y_isKept (d : Int) (by first | assumption | omega | (simp [*]; done)) (by first | assumption | omega | (simp [*]; done)) (by first | assumption | omega | (simp [*]; done))) wm_RX8_211 hW.1 [0] rfl 0 rfl rfl ⟨rfl, rfl⟩ ⟨Nat.le_of_ble_eq_true rfl, Nat.le_of_ble_eq_true rfl⟩ ⟨Nat.zero_le _, Nat.zero_le _⟩ hl rfl rfl (Nat.le_of_ble_eq_true rfl) dX8_wrong_2 ?_
  refine x_if_ne_B (tgt := 11) hx dX8_wrong_5 (by decide) (fun h_1 => ?_) (fun h_1 => ?_)
  · refine x_aload_n hx dX8_wrong_11 hl 0 rfl ?_
    refine x_get8 hx hW.1 0 rfl 38 (Nat.le_of_ble_eq_true rfl) wf_RX8_184 rfl dX8_wrong_12 ?_
    refine x_bipush (v := nI 6) hx dX8_wrong_15 (by decide) ?_
    refine x_icmp_ne_N (a := mwr) (b := 6) (tgt := 23) hx dX8_wrong_17 (by decide) (by omega) (by omega) (fun h_2 => ?_) (fun h_2 => ?_)
    · refine x_aload_n hx dX8_wrong_23 hl 0 rfl ?_
      refine x_get8 hx hW.1 0 rfl 39 (Nat.le_of_ble_eq_true rfl) wf_RX8_68 rfl dX8_wrong_24 ?_
      refine x_aload_n hx dX8_wrong_27 hl 0 rfl ?_
      refine x_get8 hx hW.1 0 rfl 38 (Nat.le_of_ble_eq_true rfl) wf_RX8_184 rfl dX8_wrong_28 ?_
      refine x_iload_n hx dX8_wrong_31 hl 1 rfl ?_
      have hj_32 : mwr < 6 := by omega
      refine x_iast hx hW 1 rfl hj_32 (by decide) (upd_nA _ _ _) dX8_wrong_32 [(mo, .inr (8, [.int (nI mhd.toNat), .int (nI mlo), .int (nI mto), .int (nI mhn.toNat), .int (nI mcu), .ref y_sides, .ref y_other, .ref y_prices, .ref y_now, .int (nI msd), .ref y_text, .int (nI mlen), .int (iI mfa), .int (nI mat), .int (nI mnu), .int (nI mna), .int (nI mri.toNat), .ref y_readDays, .int (nI mrc), .ref y_readSides, .ref y_readFigures, .int (nI mrp), .ref y_readOther, .ref y_readPrices, .int (nI mtp), .ref y_firstOf, .ref y_secondOf, .ref y_shown, .int (nI mun), .ref y_past, .ref y_choices, .int (nI mcm), .ref y_wanted, .int (nI mpm), .int (iI mpf), .int (nI mpo), .ref y_ways, .ref y_waysThen, .int (nI mwr), .ref y_wrongDay, .ref y_wrongShown, .ref y_could, .ref y_shownIn, .int (nI mbk), .ref y_book, .ref y_images, .ref y_isKept])), (y_wrongDay, .inl (D.2.1, 6, .inl (nA (va_up mWD mwr d)))), (y_wrongShown, .inl (D.2.2.1, 6, .inl (bA mWS)))] rfl (fun H locs hW => ?_)
      refine x_aload_n hx dX8_wrong_33 hl 0 rfl ?_
      refine x_get8 hx hW.1 0 rfl 40 (Nat.le_of_ble_eq_true rfl) wf_RX8_71 rfl dX8_wrong_34 ?_
      refine x_aload_n hx dX8_wrong_37 hl 0 rfl ?_
      refine x_get8 hx hW.1 0 rfl 38 (Nat.le_of_ble_eq_true rfl) wf_RX8_184 rfl dX8_wrong_38 ?_
      refine x_iload_n hx dX8_wrong_41 hl 2 rfl ?_
      have hj_42 : mwr < 6 := by omega
      refine x_zast hx hW 2 rfl hj_42 (by decide) (upd_bA _ _ b) dX8_wrong_42 [(mo, .inr (8, [.int (nI mhd.toNat), .int (nI mlo), .int (nI mto), .int (nI mhn.toNat), .int (nI mcu), .ref y_sides, .ref y_other, .ref y_prices, .ref y_now, .int (nI msd), .ref y_text, .int (nI mlen), .int (iI mfa), .int (nI mat), .int (nI mnu), .int (nI mna), .int (nI mri.toNat), .ref y_readDays, .int (nI mrc), .ref y_readSides, .ref y_readFigures, .int (nI mrp), .ref y_readOther, .ref y_readPrices, .int (nI mtp), .ref y_firstOf, .ref y_secondOf, .ref y_shown, .int (nI mun), .ref y_past, .ref y_choices, .int (nI mcm), .ref y_wanted, .int (nI mpm), .int (iI mpf), .int (nI mpo), .ref y_ways, .ref y_waysThen, .int (nI mwr), .ref y_wrongDay, .ref y_wrongShown, .ref y_could, .ref y_shownIn, .int (nI mbk), .ref y_book, .ref y_images, .ref y_isKept])), (y_wrongDay, .inl (D.2.1, 6, .inl (nA (va_up mWD mwr d)))), (y_wrongShown, .inl (D.2.2.1, 6, .inl (bA (va_up mWS mwr b))))] rfl (fun H locs hW => ?_)
      refine x_aload_n hx dX8_wrong_43 hl 0 rfl ?_
      refine x_dup hx dX8_wrong_44 rfl ?_
      refine x_get8 hx hW.1 0 rfl 38 (Nat.le_of_ble_eq_true rfl) wf_RX8_184 rfl dX8_wrong_45 ?_
      refine x_iconst (v := nI 1) hx dX8_wrong_48 (by decide) ?_
      refine x_iadd (v := nI (mwr + 1)) hx dX8_wrong_49 (nI_add _ _) ?_
      refine x_put8 hx hW 0 rfl 38 (Nat.le_of_ble_eq_true rfl) wf_RX8_184 rfl rfl rfl (Nat.le_of_ble_eq_true rfl) dX8_wrong_50 [(mo, .inr (8, [.int (nI mhd.toNat), .int (nI mlo), .int (nI mto), .int (nI mhn.toNat), .int (nI mcu), .ref y_sides, .ref y_other, .ref y_prices, .ref y_now, .int (nI msd), .ref y_text, .int (nI mlen), .int (iI mfa), .int (nI mat), .int (nI mnu), .int (nI mna), .int (nI mri.toNat), .ref y_readDays, .int (nI mrc), .ref y_readSides, .ref y_readFigures, .int (nI mrp), .ref y_readOther, .ref y_readPrices, .int (nI mtp), .ref y_firstOf, .ref y_secondOf, .ref y_shown, .int (nI mun), .ref y_past, .ref y_choices, .int (nI mcm), .ref y_wanted, .int (nI mpm), .int (iI mpf), .int (nI mpo), .ref y_ways, .ref y_waysThen, .int (nI (mwr + 1)), .ref y_wrongDay, .ref y_wrongShown, .ref y_could, .ref y_shownIn, .int (nI mbk), .ref y_book, .ref y_images, .ref y_isKept])), (y_wrongDay, .inl (D.2.1, 6, .inl (nA (va_up mWD mwr d)))), (y_wrongShown, .inl (D.2.2.1, 6, .inl (bA (va_up mWS mwr b))))] rfl (fun H locs hW => ?_)
      refine x_aload_n hx dX8_wrong_53 hl 0 rfl ?_
      refine x_get8 hx hW.1 0 rfl 38 (Nat.le_of_ble_eq_true rfl) wf_RX8_184 rfl dX8_wrong_54 ?_
      exact hret _ _ _ _ _ dX8_wrong_57 (rfl) hW
    · omega
  · simp only [hmd, Bool.true_and, decide_eq_false_iff_not] at h_1
    omega
set_option maxHeartbeats 4000000 in
set_option maxRecDepth 100000 in
theorem c_X8_write_no (l : Launch) (D : KD) (mo : Nat) (mhd : Bool) (mlo : Nat) (mto : Nat) (mhn : Bool) (mcu : Nat) (y_sides : Nat) (y_other : Nat) (y_prices : Nat) (y_now : Nat) (msd : Nat) (y_text : Nat) (mlen : Nat) (mfa : Int) (mat : Nat) (mnu : Nat) (mna : Nat) (mri : Bool) (y_readDays : Nat) (mrc : Nat) (y_readSides : Nat) (y_readFigures : Nat) (mrp : Nat) (y_readOther : Nat) (y_readPrices : Nat) (mtp : Nat) (y_firstOf : Nat) (y_secondOf : Nat) (y_shown : Nat) (mun : Nat) (y_past : Nat) (y_choices : Nat) (mcm : Nat) (y_wanted : Nat) (mpm : Nat) (mpf : Int) (mpo : Nat) (y_ways : Nat) (y_waysThen : Nat) (mwr : Nat) (y_wrongDay : Nat) (y_wrongShown : Nat) (y_could : Nat) (y_shownIn : Nat) (mbk : Nat) (y_book : Nat) (y_images : Nat) (y_isKept : Nat) (z : Int) (hz : -2147483648 ≤ z ∧ z < 2147483648) (hw : mbk ≤ 15) (hno : ¬ ((0 ≤ z ∧ z ≤ 100) ∧ mbk < 15)) : cR l yX8_write cX8_write 2 (some .int) rm_X8_write D [(mo, .inr (8, [.int (nI mhd.toNat), .int (nI mlo), .int (nI mto), .int (nI mhn.toNat), .int (nI mcu), .ref y_sides, .ref y_other, .ref y_prices, .ref y_now, .int (nI msd), .ref y_text, .int (nI mlen), .int (iI mfa), .int (nI mat), .int (nI mnu), .int (nI mna), .int (nI mri.toNat), .ref y_readDays, .int (nI mrc), .ref y_readSides, .ref y_readFigures, .int (nI mrp), .ref y_readOther, .ref y_readPrices, .int (nI mtp), .ref y_firstOf, .ref y_secondOf, .ref y_shown, .int (nI mun), .ref y_past, .ref y_choices, .int (nI mcm), .ref y_wanted, .int (nI mpm), .int (iI mpf), .int (nI mpo), .ref y_ways, .ref y_waysThen, .int (nI mwr), .ref y_wrongDay, .ref y_wrongShown, .ref y_could, .ref y_shownIn, .int (nI mbk), .ref y_book, .ref y_images, .ref y_isKept]))] [.ref mo, .int (iI z)] (iI (if 0 ≤ z ∧ z ≤ 100 then -1000000004 else -1000000002)) := by
  refine cR.mk (by decide) (retI _) (Nat.le_of_ble_eq_true rfl) ?_
  intro X hx hL hP hret ls hl
  subst hL
  have hl : lv_has ls 2 [(0, .ref mo), (1, .int (iI z))] := hl
  refine x_iload_n hx dX8_write_0 hl 1 rfl ?_
  refine x_i2l (v := lI z) hx dX8_write_1 (lI_of (by omega)) ?_
  refine x_lconst (v := lN 0) hx dX8_write_2 (by decide) ?_
  refine x_ldc2 (u := lN 100) hx wk_RX8_306 (by decide) dX8_write_3 ?_
  refine x_callRS (As := [.long (lI z), .long (lN 0), .long (lN 100)]) (rest := []) hx yv_X8_in (c_X8_in _ D z 0 100 (by first | assumption | omega | (simp [*]; done)) (by first | assumption | omega | (simp [*]; done)) (by first | assumption | omega | (simp [*]; done))) wm_RX8_93 hP [] rfl ⟨rfl, rfl⟩ ⟨Nat.le_of_ble_eq_true rfl, Nat.le_of_ble_eq_true rfl⟩ ⟨Nat.zero_le _, Nat.zero_le _⟩ hl rfl rfl (Nat.le_of_ble_eq_true rfl) dX8_write_6 ?_
  refine x_if_ne_B (tgt := 15) hx dX8_write_9 (by decide) (fun h_1 => ?_) (fun h_1 => ?_)
  · have hd_2 := of_decide_eq_true h_1
    refine x_aload_n hx dX8_write_15 hl 0 rfl ?_
    refine x_get8 hx hP 0 rfl 43 (Nat.le_of_ble_eq_true rfl) wf_RX8_187 rfl dX8_write_16 ?_
    refine x_bipush (v := nI 15) hx dX8_write_19 (by decide) ?_
    refine x_icmp_ne_N (a := mbk) (b := 15) (tgt := 27) hx dX8_write_21 (by decide) (by omega) (by omega) (fun h_3 => ?_) (fun h_3 => ?_)
    · omega
    · refine x_ldc (u := iI (-1000000004)) hx wk_RX8_119 (by decide) dX8_write_24 ?_
      exact hret _ _ _ dX8_write_26 (by congr 1; first | (rw [if_pos (by omega)]; done) | (rw [if_neg (by omega)]; done))
  · have hd_4 := of_decide_eq_false h_1
    refine x_ldc (u := iI (-1000000002)) hx wk_RX8_115 (by decide) dX8_write_12 ?_
    exact hret _ _ _ dX8_write_14 (by congr 1; first | (rw [if_pos (by omega)]; done) | (rw [if_neg (by omega)]; done))
set_option maxHeartbeats 4000000 in
set_option maxRecDepth 100000 in
theorem c_X8_write (l : Launch) (D : KD) (mo : Nat) (mhd : Bool) (mlo : Nat) (mto : Nat) (mhn : Bool) (mcu : Nat) (y_sides : Nat) (y_other : Nat) (y_prices : Nat) (y_now : Nat) (msd : Nat) (y_text : Nat) (mlen : Nat) (mfa : Int) (mat : Nat) (mnu : Nat) (mna : Nat) (mri : Bool) (y_readDays : Nat) (mrc : Nat) (y_readSides : Nat) (y_readFigures : Nat) (mrp : Nat) (y_readOther : Nat) (y_readPrices : Nat) (mtp : Nat) (y_firstOf : Nat) (y_secondOf : Nat) (y_shown : Nat) (mun : Nat) (y_past : Nat) (y_choices : Nat) (mcm : Nat) (y_wanted : Nat) (mpm : Nat) (mpf : Int) (mpo : Nat) (y_ways : Nat) (y_waysThen : Nat) (mwr : Nat) (y_wrongDay : Nat) (y_wrongShown : Nat) (y_could : Nat) (y_shownIn : Nat) (mbk : Nat) (y_book : Nat) (y_images : Nat) (y_isKept : Nat) (mBK : Nat → Nat) (d : Nat) (hd : d ≤ 100) (hw : mbk < 15) : cM l yX8_write cX8_write 2 (some .int) rm_X8_write D [(mo, .inr (8, [.int (nI mhd.toNat), .int (nI mlo), .int (nI mto), .int (nI mhn.toNat), .int (nI mcu), .ref y_sides, .ref y_other, .ref y_prices, .ref y_now, .int (nI msd), .ref y_text, .int (nI mlen), .int (iI mfa), .int (nI mat), .int (nI mnu), .int (nI mna), .int (nI mri.toNat), .ref y_readDays, .int (nI mrc), .ref y_readSides, .ref y_readFigures, .int (nI mrp), .ref y_readOther, .ref y_readPrices, .int (nI mtp), .ref y_firstOf, .ref y_secondOf, .ref y_shown, .int (nI mun), .ref y_past, .ref y_choices, .int (nI mcm), .ref y_wanted, .int (nI mpm), .int (iI mpf), .int (nI mpo), .ref y_ways, .ref y_waysThen, .int (nI mwr), .ref y_wrongDay, .ref y_wrongShown, .ref y_could, .ref y_shownIn, .int (nI mbk), .ref y_book, .ref y_images, .ref y_isKept])), (y_book, .inl (D.2.1, 15, .inl (nA mBK)))] [.ref mo, .int (nI d)] (nI (mbk + 1)) [(mo, .inr (8, [.int (nI mhd.toNat), .int (nI mlo), .int (nI mto), .int (nI mhn.toNat), .int (nI mcu), .ref y_sides, .ref y_other, .ref y_prices, .ref y_now, .int (nI msd), .ref y_text, .int (nI mlen), .int (iI mfa), .int (nI mat), .int (nI mnu), .int (nI mna), .int (nI mri.toNat), .ref y_readDays, .int (nI mrc), .ref y_readSides, .ref y_readFigures, .int (nI mrp), .ref y_readOther, .ref y_readPrices, .int (nI mtp), .ref y_firstOf, .ref y_secondOf, .ref y_shown, .int (nI mun), .ref y_past, .ref y_choices, .int (nI mcm), .ref y_wanted, .int (nI mpm), .int (iI mpf), .int (nI mpo), .ref y_ways, .ref y_waysThen, .int (nI mwr), .ref y_wrongDay, .ref y_wrongShown, .ref y_could, .ref y_shownIn, .int (nI (mbk + 1)), .ref y_book, .ref y_images, .ref y_isKept])), (y_book, .inl (D.2.1, 15, .inl (nA (va_up mBK mbk d))))] := by
  refine cM.mk (by decide) (retI _) (Nat.le_of_ble_eq_true rfl) ?_
  intro X A hx hL hA hW hret ls hl
  subst hL
  have hl : lv_has ls 2 [(0, .ref mo), (1, .int (nI d))] := hl
  refine x_iload_n hx dX8_write_0 hl 1 rfl ?_
  refine x_i2l (v := lN d) hx dX8_write_1 (nI_l (by omega)) ?_
  refine x_lconst (v := lN 0) hx dX8_write_2 (by decide) ?_
  refine x_ldc2 (u := lN 100) hx wk_RX8_306 (by decide) dX8_write_3 ?_
  refine x_callRS (As := [.long (lN d), .long (lN 0), .long (lN 100)]) (rest := []) hx yv_X8_in (c_X8_in _ D (d : Int) 0 100 (by first | assumption | omega | (simp [*]; done)) (by first | assumption | omega | (simp [*]; done)) (by first | assumption | omega | (simp [*]; done))) wm_RX8_93 hW.1 [] rfl ⟨rfl, rfl⟩ ⟨Nat.le_of_ble_eq_true rfl, Nat.le_of_ble_eq_true rfl⟩ ⟨Nat.zero_le _, Nat.zero_le _⟩ hl rfl rfl (Nat.le_of_ble_eq_true rfl) dX8_write_6 ?_
  refine x_if_ne_B (tgt := 15) hx dX8_write_9 (by decide) (fun h_1 => ?_) (fun h_1 => ?_)
  · have hd_2 := of_decide_eq_true h_1
    refine x_aload_n hx dX8_write_15 hl 0 rfl ?_
    refine x_get8 hx hW.1 0 rfl 43 (Nat.le_of_ble_eq_true rfl) wf_RX8_187 rfl dX8_write_16 ?_
    refine x_bipush (v := nI 15) hx dX8_write_19 (by decide) ?_
    refine x_icmp_ne_N (a := mbk) (b := 15) (tgt := 27) hx dX8_write_21 (by decide) (by omega) (by omega) (fun h_3 => ?_) (fun h_3 => ?_)
    · refine x_aload_n hx dX8_write_27 hl 0 rfl ?_
      refine x_get8 hx hW.1 0 rfl 44 (Nat.le_of_ble_eq_true rfl) wf_RX8_81 rfl dX8_write_28 ?_
      refine x_aload_n hx dX8_write_31 hl 0 rfl ?_
      refine x_get8 hx hW.1 0 rfl 43 (Nat.le_of_ble_eq_true rfl) wf_RX8_187 rfl dX8_write_32 ?_
      refine x_iload_n hx dX8_write_35 hl 1 rfl ?_
      have hj_36 : mbk < 15 := by omega
      refine x_iast hx hW 1 rfl hj_36 (by decide) (upd_nA _ _ _) dX8_write_36 [(mo, .inr (8, [.int (nI mhd.toNat), .int (nI mlo), .int (nI mto), .int (nI mhn.toNat), .int (nI mcu), .ref y_sides, .ref y_other, .ref y_prices, .ref y_now, .int (nI msd), .ref y_text, .int (nI mlen), .int (iI mfa), .int (nI mat), .int (nI mnu), .int (nI mna), .int (nI mri.toNat), .ref y_readDays, .int (nI mrc), .ref y_readSides, .ref y_readFigures, .int (nI mrp), .ref y_readOther, .ref y_readPrices, .int (nI mtp), .ref y_firstOf, .ref y_secondOf, .ref y_shown, .int (nI mun), .ref y_past, .ref y_choices, .int (nI mcm), .ref y_wanted, .int (nI mpm), .int (iI mpf), .int (nI mpo), .ref y_ways, .ref y_waysThen, .int (nI mwr), .ref y_wrongDay, .ref y_wrongShown, .ref y_could, .ref y_shownIn, .int (nI mbk), .ref y_book, .ref y_images, .ref y_isKept])), (y_book, .inl (D.2.1, 15, .inl (nA (va_up mBK mbk d))))] rfl (fun H locs hW => ?_)
      refine x_aload_n hx dX8_write_37 hl 0 rfl ?_
      refine x_dup hx dX8_write_38 rfl ?_
      refine x_get8 hx hW.1 0 rfl 43 (Nat.le_of_ble_eq_true rfl) wf_RX8_187 rfl dX8_write_39 ?_
      refine x_iconst (v := nI 1) hx dX8_write_42 (by decide) ?_
      refine x_iadd (v := nI (mbk + 1)) hx dX8_write_43 (nI_add _ _) ?_
      refine x_put8 hx hW 0 rfl 43 (Nat.le_of_ble_eq_true rfl) wf_RX8_187 rfl rfl rfl (Nat.le_of_ble_eq_true rfl) dX8_write_44 [(mo, .inr (8, [.int (nI mhd.toNat), .int (nI mlo), .int (nI mto), .int (nI mhn.toNat), .int (nI mcu), .ref y_sides, .ref y_other, .ref y_prices, .ref y_now, .int (nI msd), .ref y_text, .int (nI mlen), .int (iI mfa), .int (nI mat), .int (nI mnu), .int (nI mna), .int (nI mri.toNat), .ref y_readDays, .int (nI mrc), .ref y_readSides, .ref y_readFigures, .int (nI mrp), .ref y_readOther, .ref y_readPrices, .int (nI mtp), .ref y_firstOf, .ref y_secondOf, .ref y_shown, .int (nI mun), .ref y_past, .ref y_choices, .int (nI mcm), .ref y_wanted, .int (nI mpm), .int (iI mpf), .int (nI mpo), .ref y_ways, .ref y_waysThen, .int (nI mwr), .ref y_wrongDay, .ref y_wrongShown, .ref y_could, .ref y_shownIn, .int (nI (mbk + 1)), .ref y_book, .ref y_images, .ref y_isKept])), (y_book, .inl (D.2.1, 15, .inl (nA (va_up mBK mbk d))))] rfl (fun H locs hW => ?_)
      refine x_aload_n hx dX8_write_47 hl 0 rfl ?_
      refine x_get8 hx hW.1 0 rfl 43 (Nat.le_of_ble_eq_true rfl) wf_RX8_187 rfl dX8_write_48 ?_
      exact hret _ _ _ _ _ dX8_write_51 (rfl) hW
    · omega
  · have hd_4 := of_decide_eq_false h_1
    omega
set_option maxHeartbeats 4000000 in
set_option maxRecDepth 100000 in
theorem c_X8_tear (l : Launch) (D : KD) (mo : Nat) (mhd : Bool) (mlo : Nat) (mto : Nat) (mhn : Bool) (mcu : Nat) (y_sides : Nat) (y_other : Nat) (y_prices : Nat) (y_now : Nat) (msd : Nat) (y_text : Nat) (mlen : Nat) (mfa : Int) (mat : Nat) (mnu : Nat) (mna : Nat) (mri : Bool) (y_readDays : Nat) (mrc : Nat) (y_readSides : Nat) (y_readFigures : Nat) (mrp : Nat) (y_readOther : Nat) (y_readPrices : Nat) (mtp : Nat) (y_firstOf : Nat) (y_secondOf : Nat) (y_shown : Nat) (mun : Nat) (y_past : Nat) (y_choices : Nat) (mcm : Nat) (y_wanted : Nat) (mpm : Nat) (mpf : Int) (mpo : Nat) (y_ways : Nat) (y_waysThen : Nat) (mwr : Nat) (y_wrongDay : Nat) (y_wrongShown : Nat) (y_could : Nat) (y_shownIn : Nat) (mbk : Nat) (y_book : Nat) (y_images : Nat) (y_isKept : Nat)  : cM l yX8_tear cX8_tear 2 (some .int) rm_X8_tear D [(mo, .inr (8, [.int (nI mhd.toNat), .int (nI mlo), .int (nI mto), .int (nI mhn.toNat), .int (nI mcu), .ref y_sides, .ref y_other, .ref y_prices, .ref y_now, .int (nI msd), .ref y_text, .int (nI mlen), .int (iI mfa), .int (nI mat), .int (nI mnu), .int (nI mna), .int (nI mri.toNat), .ref y_readDays, .int (nI mrc), .ref y_readSides, .ref y_readFigures, .int (nI mrp), .ref y_readOther, .ref y_readPrices, .int (nI mtp), .ref y_firstOf, .ref y_secondOf, .ref y_shown, .int (nI mun), .ref y_past, .ref y_choices, .int (nI mcm), .ref y_wanted, .int (nI mpm), .int (iI mpf), .int (nI mpo), .ref y_ways, .ref y_waysThen, .int (nI mwr), .ref y_wrongDay, .ref y_wrongShown, .ref y_could, .ref y_shownIn, .int (nI mbk), .ref y_book, .ref y_images, .ref y_isKept]))] [.ref mo] (nI (mwr + mbk)) [(mo, .inr (8, [.int (nI mhd.toNat), .int (nI mlo), .int (nI mto), .int (nI mhn.toNat), .int (nI mcu), .ref y_sides, .ref y_other, .ref y_prices, .ref y_now, .int (nI msd), .ref y_text, .int (nI mlen), .int (iI mfa), .int (nI mat), .int (nI mnu), .int (nI mna), .int (nI mri.toNat), .ref y_readDays, .int (nI mrc), .ref y_readSides, .ref y_readFigures, .int (nI mrp), .ref y_readOther, .ref y_readPrices, .int (nI mtp), .ref y_firstOf, .ref y_secondOf, .ref y_shown, .int (nI mun), .ref y_past, .ref y_choices, .int (nI mcm), .ref y_wanted, .int (nI mpm), .int (iI mpf), .int (nI mpo), .ref y_ways, .ref y_waysThen, .int (nI 0), .ref y_wrongDay, .ref y_wrongShown, .ref y_could, .ref y_shownIn, .int (nI 0), .ref y_book, .ref y_images, .ref y_isKept]))] := by
  refine cM.mk (by decide) (retI _) (Nat.le_of_ble_eq_true rfl) ?_
  intro X A hx hL hA hW hret ls hl
  subst hL
  have hl : lv_has ls 2 [(0, .ref mo)] := hl
  refine x_aload_n hx dX8_tear_0 hl 0 rfl ?_
  refine x_get8 hx hW.1 0 rfl 38 (Nat.le_of_ble_eq_true rfl) wf_RX8_184 rfl dX8_tear_1 ?_
  refine x_aload_n hx dX8_tear_4 hl 0 rfl ?_
  refine x_get8 hx hW.1 0 rfl 43 (Nat.le_of_ble_eq_true rfl) wf_RX8_187 rfl dX8_tear_5 ?_
  refine x_iadd (v := nI (mwr + mbk)) hx dX8_tear_8 (nI_add _ _) ?_
  refine x_istore_n (lv' := [(1, .int (nI (mwr + mbk))), (0, .ref mo)]) hx dX8_tear_9 hl (Nat.le_of_ble_eq_true rfl) rfl (fun ls hl => ?_)
  refine x_aload_n hx dX8_tear_10 hl 1 rfl ?_
  refine x_iconst (v := nI 0) hx dX8_tear_11 (by decide) ?_
  refine x_put8 hx hW 0 rfl 38 (Nat.le_of_ble_eq_true rfl) wf_RX8_184 rfl rfl rfl (Nat.le_of_ble_eq_true rfl) dX8_tear_12 [(mo, .inr (8, [.int (nI mhd.toNat), .int (nI mlo), .int (nI mto), .int (nI mhn.toNat), .int (nI mcu), .ref y_sides, .ref y_other, .ref y_prices, .ref y_now, .int (nI msd), .ref y_text, .int (nI mlen), .int (iI mfa), .int (nI mat), .int (nI mnu), .int (nI mna), .int (nI mri.toNat), .ref y_readDays, .int (nI mrc), .ref y_readSides, .ref y_readFigures, .int (nI mrp), .ref y_readOther, .ref y_readPrices, .int (nI mtp), .ref y_firstOf, .ref y_secondOf, .ref y_shown, .int (nI mun), .ref y_past, .ref y_choices, .int (nI mcm), .ref y_wanted, .int (nI mpm), .int (iI mpf), .int (nI mpo), .ref y_ways, .ref y_waysThen, .int (nI 0), .ref y_wrongDay, .ref y_wrongShown, .ref y_could, .ref y_shownIn, .int (nI mbk), .ref y_book, .ref y_images, .ref y_isKept]))] rfl (fun H locs hW => ?_)
  refine x_aload_n hx dX8_tear_15 hl 1 rfl ?_
  refine x_iconst (v := nI 0) hx dX8_tear_16 (by decide) ?_
  refine x_put8 hx hW 0 rfl 43 (Nat.le_of_ble_eq_true rfl) wf_RX8_187 rfl rfl rfl (Nat.le_of_ble_eq_true rfl) dX8_tear_17 [(mo, .inr (8, [.int (nI mhd.toNat), .int (nI mlo), .int (nI mto), .int (nI mhn.toNat), .int (nI mcu), .ref y_sides, .ref y_other, .ref y_prices, .ref y_now, .int (nI msd), .ref y_text, .int (nI mlen), .int (iI mfa), .int (nI mat), .int (nI mnu), .int (nI mna), .int (nI mri.toNat), .ref y_readDays, .int (nI mrc), .ref y_readSides, .ref y_readFigures, .int (nI mrp), .ref y_readOther, .ref y_readPrices, .int (nI mtp), .ref y_firstOf, .ref y_secondOf, .ref y_shown, .int (nI mun), .ref y_past, .ref y_choices, .int (nI mcm), .ref y_wanted, .int (nI mpm), .int (iI mpf), .int (nI mpo), .ref y_ways, .ref y_waysThen, .int (nI 0), .ref y_wrongDay, .ref y_wrongShown, .ref y_could, .ref y_shownIn, .int (nI 0), .ref y_book, .ref y_images, .ref y_isKept]))] rfl (fun H locs hW => ?_)
  refine x_iload_n hx dX8_tear_20 hl 0 rfl ?_
  exact hret _ _ _ _ _ dX8_tear_21 (rfl) hW
set_option maxHeartbeats 4000000 in
set_option maxRecDepth 100000 in
theorem c_X8_seed_no (l : Launch) (D : KD) (mo : Nat) (mhd : Bool) (mlo : Nat) (mto : Nat) (mhn : Bool) (mcu : Nat) (y_sides : Nat) (y_other : Nat) (y_prices : Nat) (y_now : Nat) (msd : Nat) (y_text : Nat) (mlen : Nat) (mfa : Int) (mat : Nat) (mnu : Nat) (mna : Nat) (mri : Bool) (y_readDays : Nat) (mrc : Nat) (y_readSides : Nat) (y_readFigures : Nat) (mrp : Nat) (y_readOther : Nat) (y_readPrices : Nat) (mtp : Nat) (y_firstOf : Nat) (y_secondOf : Nat) (y_shown : Nat) (mun : Nat) (y_past : Nat) (y_choices : Nat) (mcm : Nat) (y_wanted : Nat) (mpm : Nat) (mpf : Int) (mpo : Nat) (y_ways : Nat) (y_waysThen : Nat) (mwr : Nat) (y_wrongDay : Nat) (y_wrongShown : Nat) (y_could : Nat) (y_shownIn : Nat) (mbk : Nat) (y_book : Nat) (y_images : Nat) (y_isKept : Nat) (z : Int) (hz : -2147483648 ≤ z ∧ z < 2147483648) (hno : z < 0) : cR l yX8_seed cX8_seed 3 (some .int) rm_X8_seed D [(mo, .inr (8, [.int (nI mhd.toNat), .int (nI mlo), .int (nI mto), .int (nI mhn.toNat), .int (nI mcu), .ref y_sides, .ref y_other, .ref y_prices, .ref y_now, .int (nI msd), .ref y_text, .int (nI mlen), .int (iI mfa), .int (nI mat), .int (nI mnu), .int (nI mna), .int (nI mri.toNat), .ref y_readDays, .int (nI mrc), .ref y_readSides, .ref y_readFigures, .int (nI mrp), .ref y_readOther, .ref y_readPrices, .int (nI mtp), .ref y_firstOf, .ref y_secondOf, .ref y_shown, .int (nI mun), .ref y_past, .ref y_choices, .int (nI mcm), .ref y_wanted, .int (nI mpm), .int (iI mpf), .int (nI mpo), .ref y_ways, .ref y_waysThen, .int (nI mwr), .ref y_wrongDay, .ref y_wrongShown, .ref y_could, .ref y_shownIn, .int (nI mbk), .ref y_book, .ref y_images, .ref y_isKept]))] [.ref mo, .int (iI z)] (iI (-1000000002)) := by
  refine cR.mk (by decide) (retI _) (Nat.le_of_ble_eq_true rfl) ?_
  intro X hx hL hP hret ls hl
  subst hL
  have hl : lv_has ls 3 [(0, .ref mo), (1, .int (iI z))] := hl
  refine x_iload_n hx dX8_seed_0 hl 1 rfl ?_
  refine x_if_ge_Z (a := z) (tgt := 7) hx dX8_seed_1 (by decide) (by omega) (fun h_1 => ?_) (fun h_1 => ?_)
  · omega
  · refine x_ldc (u := iI (-1000000002)) hx wk_RX8_115 (by decide) dX8_seed_4 ?_
    exact hret _ _ _ dX8_seed_6 (rfl)
set_option maxHeartbeats 4000000 in
set_option maxRecDepth 100000 in
theorem c_X8_seed (l : Launch) (D : KD) (mo : Nat) (mhd : Bool) (mlo : Nat) (mto : Nat) (mhn : Bool) (mcu : Nat) (y_sides : Nat) (y_other : Nat) (y_prices : Nat) (y_now : Nat) (msd : Nat) (y_text : Nat) (mlen : Nat) (mfa : Int) (mat : Nat) (mnu : Nat) (mna : Nat) (mri : Bool) (y_readDays : Nat) (mrc : Nat) (y_readSides : Nat) (y_readFigures : Nat) (mrp : Nat) (y_readOther : Nat) (y_readPrices : Nat) (mtp : Nat) (y_firstOf : Nat) (y_secondOf : Nat) (y_shown : Nat) (mun : Nat) (y_past : Nat) (y_choices : Nat) (mcm : Nat) (y_wanted : Nat) (mpm : Nat) (mpf : Int) (mpo : Nat) (y_ways : Nat) (y_waysThen : Nat) (mwr : Nat) (y_wrongDay : Nat) (y_wrongShown : Nat) (y_could : Nat) (y_shownIn : Nat) (mbk : Nat) (y_book : Nat) (y_images : Nat) (y_isKept : Nat) (v : Nat) (hv : v < 2147483648) : cM l yX8_seed cX8_seed 3 (some .int) rm_X8_seed D [(mo, .inr (8, [.int (nI mhd.toNat), .int (nI mlo), .int (nI mto), .int (nI mhn.toNat), .int (nI mcu), .ref y_sides, .ref y_other, .ref y_prices, .ref y_now, .int (nI msd), .ref y_text, .int (nI mlen), .int (iI mfa), .int (nI mat), .int (nI mnu), .int (nI mna), .int (nI mri.toNat), .ref y_readDays, .int (nI mrc), .ref y_readSides, .ref y_readFigures, .int (nI mrp), .ref y_readOther, .ref y_readPrices, .int (nI mtp), .ref y_firstOf, .ref y_secondOf, .ref y_shown, .int (nI mun), .ref y_past, .ref y_choices, .int (nI mcm), .ref y_wanted, .int (nI mpm), .int (iI mpf), .int (nI mpo), .ref y_ways, .ref y_waysThen, .int (nI mwr), .ref y_wrongDay, .ref y_wrongShown, .ref y_could, .ref y_shownIn, .int (nI mbk), .ref y_book, .ref y_images, .ref y_isKept]))] [.ref mo, .int (nI v)] (nI msd) [(mo, .inr (8, [.int (nI mhd.toNat), .int (nI mlo), .int (nI mto), .int (nI mhn.toNat), .int (nI mcu), .ref y_sides, .ref y_other, .ref y_prices, .ref y_now, .int (nI v), .ref y_text, .int (nI mlen), .int (iI mfa), .int (nI mat), .int (nI mnu), .int (nI mna), .int (nI mri.toNat), .ref y_readDays, .int (nI mrc), .ref y_readSides, .ref y_readFigures, .int (nI mrp), .ref y_readOther, .ref y_readPrices, .int (nI mtp), .ref y_firstOf, .ref y_secondOf, .ref y_shown, .int (nI mun), .ref y_past, .ref y_choices, .int (nI mcm), .ref y_wanted, .int (nI mpm), .int (iI mpf), .int (nI mpo), .ref y_ways, .ref y_waysThen, .int (nI mwr), .ref y_wrongDay, .ref y_wrongShown, .ref y_could, .ref y_shownIn, .int (nI mbk), .ref y_book, .ref y_images, .ref y_isKept]))] := by
  refine cM.mk (by decide) (retI _) (Nat.le_of_ble_eq_true rfl) ?_
  intro X A hx hL hA hW hret ls hl
  subst hL
  have hl : lv_has ls 3 [(0, .ref mo), (1, .int (nI v))] := hl
  refine x_iload_n hx dX8_seed_0 hl 1 rfl ?_
  refine x_if_ge_N (a := v) (tgt := 7) hx dX8_seed_1 (by decide) (by omega) (fun h_1 => ?_) (fun h_1 => ?_)
  · refine x_aload_n hx dX8_seed_7 hl 0 rfl ?_
    refine x_get8 hx hW.1 0 rfl 9 (Nat.le_of_ble_eq_true rfl) wf_RX8_233 rfl dX8_seed_8 ?_
    refine x_istore_n (lv' := [(2, .int (nI msd)), (0, .ref mo), (1, .int (nI v))]) hx dX8_seed_11 hl (Nat.le_of_ble_eq_true rfl) rfl (fun ls hl => ?_)
    refine x_aload_n hx dX8_seed_12 hl 1 rfl ?_
    refine x_iload_n hx dX8_seed_13 hl 2 rfl ?_
    refine x_put8 hx hW 0 rfl 9 (Nat.le_of_ble_eq_true rfl) wf_RX8_233 rfl rfl rfl (Nat.le_of_ble_eq_true rfl) dX8_seed_14 [(mo, .inr (8, [.int (nI mhd.toNat), .int (nI mlo), .int (nI mto), .int (nI mhn.toNat), .int (nI mcu), .ref y_sides, .ref y_other, .ref y_prices, .ref y_now, .int (nI v), .ref y_text, .int (nI mlen), .int (iI mfa), .int (nI mat), .int (nI mnu), .int (nI mna), .int (nI mri.toNat), .ref y_readDays, .int (nI mrc), .ref y_readSides, .ref y_readFigures, .int (nI mrp), .ref y_readOther, .ref y_readPrices, .int (nI mtp), .ref y_firstOf, .ref y_secondOf, .ref y_shown, .int (nI mun), .ref y_past, .ref y_choices, .int (nI mcm), .ref y_wanted, .int (nI mpm), .int (iI mpf), .int (nI mpo), .ref y_ways, .ref y_waysThen, .int (nI mwr), .ref y_wrongDay, .ref y_wrongShown, .ref y_could, .ref y_shownIn, .int (nI mbk), .ref y_book, .ref y_images, .ref y_isKept]))] rfl (fun H locs hW => ?_)
    refine x_iload_n hx dX8_seed_17 hl 0 rfl ?_
    exact hret _ _ _ _ _ dX8_seed_18 (rfl) hW
  · omega
set_option maxHeartbeats 4000000 in
set_option maxRecDepth 100000 in
theorem c_X8_judge (l : Launch) (D : KD) (mo : Nat) (mhd : Bool) (mlo : Nat) (mto : Nat) (mhn : Bool) (mcu : Nat) (y_sides : Nat) (y_other : Nat) (y_prices : Nat) (y_now : Nat) (msd : Nat) (y_text : Nat) (mlen : Nat) (mfa : Int) (mat : Nat) (mnu : Nat) (mna : Nat) (mri : Bool) (y_readDays : Nat) (mrc : Nat) (y_readSides : Nat) (y_readFigures : Nat) (mrp : Nat) (y_readOther : Nat) (y_readPrices : Nat) (mtp : Nat) (y_firstOf : Nat) (y_secondOf : Nat) (y_shown : Nat) (mun : Nat) (y_past : Nat) (y_choices : Nat) (mcm : Nat) (y_wanted : Nat) (mpm : Nat) (mpf : Int) (mpo : Nat) (y_ways : Nat) (y_waysThen : Nat) (mwr : Nat) (y_wrongDay : Nat) (y_wrongShown : Nat) (y_could : Nat) (y_shownIn : Nat) (mbk : Nat) (y_book : Nat) (y_images : Nat) (y_isKept : Nat) (mSC : Nat → Nat) (mTV : Nat → Nat) (mNW : Nat → Nat) (mF1 : Nat → Nat) (mF2 : Nat → Int) (mSH : Nat → Nat) (mBK : Nat → Nat) (e9 : Nat) (hmSC : ∀ k, k < 4 → mSC k < 7) (hmTV : ∀ k, k < 10 → mTV k < 10) (hmNW : ∀ k, k < 24 → mNW k < 11) (hlo : mNW 24 < 16) (hcu : mcu ≤ 4) (hme : e9 = pk mhd (mto + 1) mlo) (hle : mlo ≤ e9) (he : e9 ≤ 100) (hto : mto ≤ 99) (hlo9 : mlo ≤ 99) (hPL : plOk mhn e9 mF1 mF2) (hmBK : ∀ k, k < 15 → mBK k < 101) (hw : mbk ≤ 15) : cM l yX8_judge cX8_judge 3 (some .int) rm_X8_judge D [(mo, .inr (8, [.int (nI mhd.toNat), .int (nI mlo), .int (nI mto), .int (nI mhn.toNat), .int (nI mcu), .ref y_sides, .ref y_other, .ref y_prices, .ref y_now, .int (nI msd), .ref y_text, .int (nI mlen), .int (iI mfa), .int (nI mat), .int (nI mnu), .int (nI mna), .int (nI mri.toNat), .ref y_readDays, .int (nI mrc), .ref y_readSides, .ref y_readFigures, .int (nI mrp), .ref y_readOther, .ref y_readPrices, .int (nI mtp), .ref y_firstOf, .ref y_secondOf, .ref y_shown, .int (nI mun), .ref y_past, .ref y_choices, .int (nI mcm), .ref y_wanted, .int (nI mpm), .int (iI mpf), .int (nI mpo), .ref y_ways, .ref y_waysThen, .int (nI mwr), .ref y_wrongDay, .ref y_wrongShown, .ref y_could, .ref y_shownIn, .int (nI mbk), .ref y_book, .ref y_images, .ref y_isKept])), (y_sides, .inl (D.2.1, 4, .inl (nA mSC))), (y_other, .inl (D.2.1, 10, .inl (nA mTV))), (y_now, .inl (D.2.1, 26, .inl (nA mNW))), (y_firstOf, .inl (D.2.1, 100, .inl (nA mF1))), (y_secondOf, .inl (D.2.1, 100, .inl (zA mF2))), (y_shown, .inl (D.2.1, 4, .inl (nA mSH))), (y_book, .inl (D.2.1, 15, .inl (nA mBK)))] [.ref mo] (iI (firstNot mBK (cntTo (canS mhn e9 (shM mTV mSC mNW mcu)) mlo e9) 0 mbk)) [(mo, .inr (8, [.int (nI mhd.toNat), .int (nI mlo), .int (nI mto), .int (nI mhn.toNat), .int (nI mcu), .ref y_sides, .ref y_other, .ref y_prices, .ref y_now, .int (nI msd), .ref y_text, .int (nI mlen), .int (iI mfa), .int (nI mat), .int (nI mnu), .int (nI mna), .int (nI mri.toNat), .ref y_readDays, .int (nI mrc), .ref y_readSides, .ref y_readFigures, .int (nI mrp), .ref y_readOther, .ref y_readPrices, .int (nI mtp), .ref y_firstOf, .ref y_secondOf, .ref y_shown, .int (nI mun), .ref y_past, .ref y_choices, .int (nI mcm), .ref y_wanted, .int (nI mpm), .int (iI mpf), .int (nI mpo), .ref y_ways, .ref y_waysThen, .int (nI mwr), .ref y_wrongDay, .ref y_wrongShown, .ref y_could, .ref y_shownIn, .int (nI mbk), .ref y_book, .ref y_images, .ref y_isKept])), (y_sides, .inl (D.2.1, 4, .inl (nA mSC))), (y_other, .inl (D.2.1, 10, .inl (nA mTV))), (y_now, .inl (D.2.1, 26, .inl (nA mNW))), (y_firstOf, .inl (D.2.1, 100, .inl (nA mF1))), (y_secondOf, .inl (D.2.1, 100, .inl (zA mF2))), (y_shown, .inl (D.2.1, 4, .inl (nA (shM mTV mSC mNW mcu)))), (y_book, .inl (D.2.1, 15, .inl (nA mBK)))] := by
  refine cM.mk (by decide) (retI _) (Nat.le_of_ble_eq_true rfl) ?_
  intro X A hx hL hA hW hret ls hl
  subst hL
  have hl : lv_has ls 3 [(0, .ref mo)] := hl
  refine x_aload_n hx dX8_judge_0 hl 0 rfl ?_
  refine x_callMV (As := []) (rest := []) (wr := [(y_book, .inl (D.2.1, 15, .inl (nA mBK)))]) hx yv_X8_daysNow (c_X8_daysNow _ D mo mhd mlo mto mhn mcu y_sides y_other y_prices y_now msd y_text mlen mfa mat mnu mna mri y_readDays mrc y_readSides y_readFigures mrp y_readOther y_readPrices mtp y_firstOf y_secondOf y_shown mun y_past y_choices mcm y_wanted mpm mpf mpo y_ways y_waysThen mwr y_wrongDay y_wrongShown y_could y_shownIn mbk y_book y_images y_isKept mSC mTV mNW mF1 mF2 mSH e9 (by first | assumption | omega | (simp [*]; done)) (by first | assumption | omega | (simp [*]; done)) (by first | assumption | omega | (simp [*]; done)) (by first | assumption | omega | (simp [*]; done)) (by first | assumption | omega | (simp [*]; done)) (by first | assumption | omega | (simp [*]; done)) (by first | assumption | omega | (simp [*]; done)) (by first | assumption | omega | (simp [*]; done)) (by first | assumption | omega | (simp [*]; done)) (by first | assumption | omega | (simp [*]; done)) (by first | assumption | omega | (simp [*]; done))) wm_RX8_220 hA hW [0, 1, 2, 3, 4, 5, 6] [7] rfl rfl rfl rfl rfl 0 rfl rfl ⟨rfl, rfl⟩ ⟨Nat.le_of_ble_eq_true rfl, Nat.le_of_ble_eq_true rfl⟩ ⟨Nat.zero_le _, Nat.zero_le _⟩ hl rfl rfl (Nat.le_of_ble_eq_true rfl) dX8_judge_1 [(y_book, .inl (D.2.1, 15, .inl (nA mBK))), (mo, .inr (8, [.int (nI mhd.toNat), .int (nI mlo), .int (nI mto), .int (nI mhn.toNat), .int (nI mcu), .ref y_sides, .ref y_other, .ref y_prices, .ref y_now, .int (nI msd), .ref y_text, .int (nI mlen), .int (iI mfa), .int (nI mat), .int (nI mnu), .int (nI mna), .int (nI mri.toNat), .ref y_readDays, .int (nI mrc), .ref y_readSides, .ref y_readFigures, .int (nI mrp), .ref y_readOther, .ref y_readPrices, .int (nI mtp), .ref y_firstOf, .ref y_secondOf, .ref y_shown, .int (nI mun), .ref y_past, .ref y_choices, .int (nI mcm), .ref y_wanted, .int (nI mpm), .int (iI mpf), .int (nI mpo), .ref y_ways, .ref y_waysThen, .int (nI mwr), .ref y_wrongDay, .ref y_wrongShown, .ref y_could, .ref y_shownIn, .int (nI mbk), .ref y_book, .ref y_images, .ref y_isKept])), (y_sides, .inl (D.2.1, 4, .inl (nA mSC))), (y_other, .inl (D.2.1, 10, .inl (nA mTV))), (y_now, .inl (D.2.1, 26, .inl (nA mNW))), (y_firstOf, .inl (D.2.1, 100, .inl (nA mF1))), (y_secondOf, .inl (D.2.1, 100, .inl (zA mF2))), (y_shown, .inl (D.2.1, 4, .inl (nA (shM mTV mSC mNW mcu))))] rfl (fun H locs hW => ?_)
  have hct := cntTo_le (canS mhn e9 (shM mTV mSC mNW mcu)) mlo e9
  refine x_istore_n (lv' := [(1, .int (nI (cntTo (canS mhn e9 (shM mTV mSC mNW mcu)) mlo e9))), (0, .ref mo)]) hx dX8_judge_4 hl (Nat.le_of_ble_eq_true rfl) rfl (fun ls hl => ?_)
  refine x_iconst (v := nI 0) hx dX8_judge_5 (by decide) ?_
  refine x_istore_n (lv' := [(2, .int (nI 0)), (1, .int (nI (cntTo (canS mhn e9 (shM mTV mSC mNW mcu)) mlo e9))), (0, .ref mo)]) hx dX8_judge_6 hl (Nat.le_of_ble_eq_true rfl) rfl (fun ls hl => ?_)
  have L7_1 : ∀ (L7_1n : Nat) (i : Nat), (i ≤ mbk) → (firstNot mBK (cntTo (canS mhn e9 (shM mTV mSC mNW mcu)) mlo e9) 0 mbk = firstNot mBK (cntTo (canS mhn e9 (shM mTV mSC mNW mcu)) mlo e9) i (mbk - i)) → mbk - i < L7_1n → ∀ (H : Heap) (locs : List Loc), Wd X D A [(y_book, .inl (D.2.1, 15, .inl (nA mBK))), (mo, .inr (8, [.int (nI mhd.toNat), .int (nI mlo), .int (nI mto), .int (nI mhn.toNat), .int (nI mcu), .ref y_sides, .ref y_other, .ref y_prices, .ref y_now, .int (nI msd), .ref y_text, .int (nI mlen), .int (iI mfa), .int (nI mat), .int (nI mnu), .int (nI mna), .int (nI mri.toNat), .ref y_readDays, .int (nI mrc), .ref y_readSides, .ref y_readFigures, .int (nI mrp), .ref y_readOther, .ref y_readPrices, .int (nI mtp), .ref y_firstOf, .ref y_secondOf, .ref y_shown, .int (nI mun), .ref y_past, .ref y_choices, .int (nI mcm), .ref y_wanted, .int (nI mpm), .int (iI mpf), .int (nI mpo), .ref y_ways, .ref y_waysThen, .int (nI mwr), .ref y_wrongDay, .ref y_wrongShown, .ref y_could, .ref y_shownIn, .int (nI mbk), .ref y_book, .ref y_images, .ref y_isKept])), (y_sides, .inl (D.2.1, 4, .inl (nA mSC))), (y_other, .inl (D.2.1, 10, .inl (nA mTV))), (y_now, .inl (D.2.1, 26, .inl (nA mNW))), (y_firstOf, .inl (D.2.1, 100, .inl (nA mF1))), (y_secondOf, .inl (D.2.1, 100, .inl (zA mF2))), (y_shown, .inl (D.2.1, 4, .inl (nA (shM mTV mSC mNW mcu))))] H locs → ∀ ls : Array Slot, lv_has ls 3 [(0, .ref mo), (1, .int (nI (cntTo (canS mhn e9 (shM mTV mSC mNW mcu)) mlo e9))), (2, .int (nI i))] → Wx X 0 0 H locs 7 ls [] := by
    intro L7_1n
    induction L7_1n with
    | zero =>
      intro i h1 h2 hm
      exact absurd hm (Nat.not_lt_zero _)
    | succ L7_1n ihL7_1 =>
      intro i h1 h2 hm H locs hW ls hl
      refine x_iload_n hx dX8_judge_7 hl 2 rfl ?_
      refine x_aload_n hx dX8_judge_8 hl 0 rfl ?_
      refine x_get8 hx hW.1 1 rfl 43 (Nat.le_of_ble_eq_true rfl) wf_RX8_187 rfl dX8_judge_9 ?_
      refine x_icmp_ge_N (a := i) (b := mbk) (tgt := 33) hx dX8_judge_12 (by decide) (by omega) (by omega) (fun h_2 => ?_) (fun h_2 => ?_)
      · refine x_iconst (v := iI (-1)) hx dX8_judge_33 (by decide) ?_
        exact hret _ _ _ _ _ dX8_judge_34 (by rw [h2, firstNot_e (by omega)]) (hW.conv [1, 2, 3, 4, 5, 6, 7, 0] (w1 := [(mo, .inr (8, [.int (nI mhd.toNat), .int (nI mlo), .int (nI mto), .int (nI mhn.toNat), .int (nI mcu), .ref y_sides, .ref y_other, .ref y_prices, .ref y_now, .int (nI msd), .ref y_text, .int (nI mlen), .int (iI mfa), .int (nI mat), .int (nI mnu), .int (nI mna), .int (nI mri.toNat), .ref y_readDays, .int (nI mrc), .ref y_readSides, .ref y_readFigures, .int (nI mrp), .ref y_readOther, .ref y_readPrices, .int (nI mtp), .ref y_firstOf, .ref y_secondOf, .ref y_shown, .int (nI mun), .ref y_past, .ref y_choices, .int (nI mcm), .ref y_wanted, .int (nI mpm), .int (iI mpf), .int (nI mpo), .ref y_ways, .ref y_waysThen, .int (nI mwr), .ref y_wrongDay, .ref y_wrongShown, .ref y_could, .ref y_shownIn, .int (nI mbk), .ref y_book, .ref y_images, .ref y_isKept])), (y_sides, .inl (D.2.1, 4, .inl (nA mSC))), (y_other, .inl (D.2.1, 10, .inl (nA mTV))), (y_now, .inl (D.2.1, 26, .inl (nA mNW))), (y_firstOf, .inl (D.2.1, 100, .inl (nA mF1))), (y_secondOf, .inl (D.2.1, 100, .inl (zA mF2))), (y_shown, .inl (D.2.1, 4, .inl (nA (shM mTV mSC mNW mcu)))), (y_book, .inl (D.2.1, 15, .inl (nA mBK)))]) (w2 := [(mo, .inr (8, [.int (nI mhd.toNat), .int (nI mlo), .int (nI mto), .int (nI mhn.toNat), .int (nI mcu), .ref y_sides, .ref y_other, .ref y_prices, .ref y_now, .int (nI msd), .ref y_text, .int (nI mlen), .int (iI mfa), .int (nI mat), .int (nI mnu), .int (nI mna), .int (nI mri.toNat), .ref y_readDays, .int (nI mrc), .ref y_readSides, .ref y_readFigures, .int (nI mrp), .ref y_readOther, .ref y_readPrices, .int (nI mtp), .ref y_firstOf, .ref y_secondOf, .ref y_shown, .int (nI mun), .ref y_past, .ref y_choices, .int (nI mcm), .ref y_wanted, .int (nI mpm), .int (iI mpf), .int (nI mpo), .ref y_ways, .ref y_waysThen, .int (nI mwr), .ref y_wrongDay, .ref y_wrongShown, .ref y_could, .ref y_shownIn, .int (nI mbk), .ref y_book, .ref y_images, .ref y_isKept])), (y_sides, .inl (D.2.1, 4, .inl (nA mSC))), (y_other, .inl (D.2.1, 10, .inl (nA mTV))), (y_now, .inl (D.2.1, 26, .inl (nA mNW))), (y_firstOf, .inl (D.2.1, 100, .inl (nA mF1))), (y_secondOf, .inl (D.2.1, 100, .inl (zA mF2))), (y_shown, .inl (D.2.1, 4, .inl (nA (shM mTV mSC mNW mcu)))), (y_book, .inl (D.2.1, 15, .inl (nA mBK)))]) rfl rfl rfl)
      · refine x_aload_n hx dX8_judge_15 hl 0 rfl ?_
        refine x_get8 hx hW.1 1 rfl 44 (Nat.le_of_ble_eq_true rfl) wf_RX8_81 rfl dX8_judge_16 ?_
        refine x_iload_n hx dX8_judge_19 hl 2 rfl ?_
        have hj_20 : i < 15 := by omega
        refine x_iald (v := nI (mBK i)) hx hW.1 0 rfl hj_20 (by decide) (rfl) dX8_judge_20 ?_
        have b_3 := hmBK i hj_20
        refine x_iload_n hx dX8_judge_21 hl 1 rfl ?_
        refine x_icmp_eq_N (a := (mBK i)) (b := (cntTo (canS mhn e9 (shM mTV mSC mNW mcu)) mlo e9)) (tgt := 27) hx dX8_judge_22 (by decide) (by omega) (by omega) (fun h_4 => ?_) (fun h_4 => ?_)
        · refine x_iinc (v := nI (i + 1)) (lv' := [(2, .int (nI (i + 1))), (0, .ref mo), (1, .int (nI (cntTo (canS mhn e9 (shM mTV mSC mNW mcu)) mlo e9)))]) hx dX8_judge_27 hl 2 rfl (nI_addc i 1) (Nat.le_of_ble_eq_true rfl) rfl (fun ls hl => ?_)
          refine x_goto (tgt := 7) hx dX8_judge_30 (by decide) ?_
          have e_5 : (i + 1 : Nat) = (i + 1) := by
            first | rfl | omega | (simp [*]; done) | (simp [*]; omega)
          exact ihL7_1 (i + 1) (by first | assumption | omega | (simp [*]; done)) (by first | rfl | exact h2.trans (firstNot_y (by omega) (by assumption))) (by omega) _ _ hW _ (lv_to (l := [(0, .ref mo), (1, .int (nI (cntTo (canS mhn e9 (shM mTV mSC mNW mcu)) mlo e9))), (2, .int (nI (i + 1)))]) (l2 := [(0, .ref mo), (1, .int (nI (cntTo (canS mhn e9 (shM mTV mSC mNW mcu)) mlo e9))), (2, .int (nI (i + 1)))]) (lv_sub hl [1, 2, 0] rfl) (cE rfl (cE rfl (cE (congrArg (fun z => ((2, Value.int z) : Nat × Value)) (congrArg (fun z : Nat => nI z) e_5)) rfl))))
        · refine x_iload_n hx dX8_judge_25 hl 2 rfl ?_
          exact hret _ _ _ _ _ dX8_judge_26 (by rw [h2, firstNot_n (by omega) (by assumption)]; rfl) (hW.conv [1, 2, 3, 4, 5, 6, 7, 0] (w1 := [(mo, .inr (8, [.int (nI mhd.toNat), .int (nI mlo), .int (nI mto), .int (nI mhn.toNat), .int (nI mcu), .ref y_sides, .ref y_other, .ref y_prices, .ref y_now, .int (nI msd), .ref y_text, .int (nI mlen), .int (iI mfa), .int (nI mat), .int (nI mnu), .int (nI mna), .int (nI mri.toNat), .ref y_readDays, .int (nI mrc), .ref y_readSides, .ref y_readFigures, .int (nI mrp), .ref y_readOther, .ref y_readPrices, .int (nI mtp), .ref y_firstOf, .ref y_secondOf, .ref y_shown, .int (nI mun), .ref y_past, .ref y_choices, .int (nI mcm), .ref y_wanted, .int (nI mpm), .int (iI mpf), .int (nI mpo), .ref y_ways, .ref y_waysThen, .int (nI mwr), .ref y_wrongDay, .ref y_wrongShown, .ref y_could, .ref y_shownIn, .int (nI mbk), .ref y_book, .ref y_images, .ref y_isKept])), (y_sides, .inl (D.2.1, 4, .inl (nA mSC))), (y_other, .inl (D.2.1, 10, .inl (nA mTV))), (y_now, .inl (D.2.1, 26, .inl (nA mNW))), (y_firstOf, .inl (D.2.1, 100, .inl (nA mF1))), (y_secondOf, .inl (D.2.1, 100, .inl (zA mF2))), (y_shown, .inl (D.2.1, 4, .inl (nA (shM mTV mSC mNW mcu)))), (y_book, .inl (D.2.1, 15, .inl (nA mBK)))]) (w2 := [(mo, .inr (8, [.int (nI mhd.toNat), .int (nI mlo), .int (nI mto), .int (nI mhn.toNat), .int (nI mcu), .ref y_sides, .ref y_other, .ref y_prices, .ref y_now, .int (nI msd), .ref y_text, .int (nI mlen), .int (iI mfa), .int (nI mat), .int (nI mnu), .int (nI mna), .int (nI mri.toNat), .ref y_readDays, .int (nI mrc), .ref y_readSides, .ref y_readFigures, .int (nI mrp), .ref y_readOther, .ref y_readPrices, .int (nI mtp), .ref y_firstOf, .ref y_secondOf, .ref y_shown, .int (nI mun), .ref y_past, .ref y_choices, .int (nI mcm), .ref y_wanted, .int (nI mpm), .int (iI mpf), .int (nI mpo), .ref y_ways, .ref y_waysThen, .int (nI mwr), .ref y_wrongDay, .ref y_wrongShown, .ref y_could, .ref y_shownIn, .int (nI mbk), .ref y_book, .ref y_images, .ref y_isKept])), (y_sides, .inl (D.2.1, 4, .inl (nA mSC))), (y_other, .inl (D.2.1, 10, .inl (nA mTV))), (y_now, .inl (D.2.1, 26, .inl (nA mNW))), (y_firstOf, .inl (D.2.1, 100, .inl (nA mF1))), (y_secondOf, .inl (D.2.1, 100, .inl (zA mF2))), (y_shown, .inl (D.2.1, 4, .inl (nA (shM mTV mSC mNW mcu)))), (y_book, .inl (D.2.1, 15, .inl (nA mBK)))]) rfl rfl rfl)
  exact L7_1 (mbk - 0 + 1) 0 (by first | assumption | omega | (simp [*]; done)) (by first | rfl | exact h2.trans (firstNot_y (by omega) (by assumption))) (Nat.lt_succ_self _) _ _ hW _ (lv_sub hl [2, 1, 0] rfl)
