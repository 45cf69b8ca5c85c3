/-! a cube -/
def cQ0 (w : Nat) (fa : Int) (na : Nat) (FG SC : Nat → Nat) : CS := (true, (w + 1, 0, fa, na), FG, SC)
def cX (LT : Nat → Nat) (len : Nat) (T : TS) : TS := if T.2.1 = 0 ∧ hereV LT len T.1 = 44 then (T.1, 1, (skipB LT len T.1 : Int), T.2.2.2) else T
theorem hereV_skip {LT : Nat → Nat} {len a : Nat} : hereV LT len (skipB LT len a) = hereV LT len a := by
  unfold hereV; rw [skipB_idem]
section CB
variable {LT : Nat → Nat} {len c w : Nat} {fa : Int} {na : Nat} {FG SC : Nat → Nat}
theorem cq_0 (hc : c < 4) : cq LT len c FG SC (w, 0, fa, na) = cbN LT len c (cQ0 w fa na FG SC) 6 := by
  rw [cq, decide_eq_false (by omega)]; rfl
theorem cq_end {i : Nat} {qp : CS} (hc : c < 4) (hqp : qp = cbN LT len c (cQ0 w fa na FG SC) (i - 1)) (hgo : qp.1 = true) (hok : qp.2.1.2.1 = 0) (h1 : 1 ≤ i) (h6 : i ≤ 6) (h : i = 6 ∨ cbG LT len (i - 1) (rnS LT len 9 qp.2.1) = false ∨ ¬ (rnS LT len 9 qp.2.1).2.1 = 0) : cbStep LT len c (i - 1) qp = cq LT len c FG SC (w, 0, fa, na) := by
  have e1 := cbN_go hqp hgo hok
  rw [show i - 1 + 1 = i by omega] at e1
  rw [cq_0 hc]
  refine cbN_end e1 h6 ?_
  rcases h with h | h | h
  · exact Or.inl h
  · exact Or.inr (Or.inl h)
  · refine Or.inr (Or.inr ?_)
    show ¬ (cbT LT len (i - 1) (rnS LT len 9 qp.2.1)).2.1 = 0
    rw [cbT_eq rfl]; exact h
theorem cq_nx {i : Nat} {qp : CS} (hqp : qp = cbN LT len c (cQ0 w fa na FG SC) (i - 1)) (hgo : qp.1 = true) (hok : qp.2.1.2.1 = 0) (h1 : 1 ≤ i) : cbStep LT len c (i - 1) qp = cbN LT len c (cQ0 w fa na FG SC) (i + 1 - 1) := by
  have e1 := cbN_go hqp hgo hok
  rw [show i - 1 + 1 = i by omega] at e1
  rw [show i + 1 - 1 = i by omega]; exact e1
/-- the state behind the comma -/
theorem cb_com {i a : Nat} {t : TS} (h1 : 1 ≤ i) (h6 : i < 6) (ha : a = t.1) (hc : hereV LT len a = 44) : cbG LT len (i - 1) t = true ∧ cbT LT len (i - 1) t = (skipB LT len a + 1, t.2.1, t.2.2.1, t.2.2.2) := by
  subst ha
  have h := cb_y (LT := LT) (len := len) (f := i - 1) (t := t) (by omega) (hereV_is.mp hc)
  exact ⟨h.1, cbT_eq h.2.symm⟩
theorem cb_no {i a : Nat} {t : TS} (h1 : 1 ≤ i) (h6 : i ≤ 6) (ha : a = t.1) (hc : ¬ hereV LT len a = 44) : (i = 6 ∨ cbG LT len (i - 1) t = false) ∧ skipB LT len (cbT LT len (i - 1) t).1 = skipB LT len a ∧ (cbT LT len (i - 1) t).2 = t.2 := by
  subst ha
  by_cases h : i = 6
  · have h5 := cb_5 (LT := LT) (len := len) (f := i - 1) (t := t) (by omega)
    exact ⟨Or.inl h, by rw [h5.2], by rw [cbT_eq h5.2.symm]⟩
  · have hn := cb_n (LT := LT) (len := len) (f := i - 1) (t := t) (by omega) (fun h9 => hc (hereV_is.mpr h9))
    exact ⟨Or.inr hn.1, by rw [hn.2, skipB_idem], by rw [cbT_eq hn.2.symm]⟩
theorem rnS_at {t : TS} {top : Nat} (h : t.2.1 = 0) : rnS LT len top t = (dgE LT len (skipB LT len t.1), nfC LT len (skipB LT len t.1) top, nfP LT len (skipB LT len t.1) top t.2.2.1, skipB LT len t.1) := by
  rw [rnS, if_pos h]; rfl
theorem rnV_at {t : TS} {top : Nat} (h : t.2.1 = 0) (h2 : nfC LT len (skipB LT len t.1) top = 0) : rnV LT len top t = nval LT len (skipB LT len t.1) := by
  rw [rnV, if_pos ⟨h, h2⟩]
theorem cX_f {T : TS} (h : ¬ T.2.1 = 0) : cX LT len T = T := by rw [cX, if_neg (fun h9 => h h9.1)]
theorem cX_n {T : TS} (h : ¬ hereV LT len T.1 = 44) : cX LT len T = T := by rw [cX, if_neg (fun h9 => h h9.2)]
theorem cX_y {T : TS} (h : T.2.1 = 0) (h2 : hereV LT len T.1 = 44) : cX LT len T = (T.1, 1, (skipB LT len T.1 : Int), T.2.2.2) := by rw [cX, if_pos ⟨h, h2⟩]
end CB
set_option maxHeartbeats 4000000 in
set_option maxRecDepth 100000 in
theorem c_X8_takeCube (l : Launch) (D : KD) (mo : Nat) (mhd : Bool) (mlo : Nat) (mto : Nat) (mhn : Bool) (mcu : Nat) (y_sides : Nat) (y_other : Nat) (y_prices : Nat) (y_now : Nat) (msd : Nat) (y_text : Nat) (mlen : Nat) (mfa : Int) (mat : Nat) (mnu : Nat) (mna : Nat) (mri : Bool) (y_readDays : Nat) (mrc : Nat) (y_readSides : Nat) (y_readFigures : Nat) (mrp : Nat) (y_readOther : Nat) (y_readPrices : Nat) (mtp : Nat) (y_firstOf : Nat) (y_secondOf : Nat) (y_shown : Nat) (mun : Nat) (y_past : Nat) (y_choices : Nat) (mcm : Nat) (y_wanted : Nat) (mpm : Nat) (mpf : Int) (mpo : Nat) (y_ways : Nat) (y_waysThen : Nat) (mwr : Nat) (y_wrongDay : Nat) (y_wrongShown : Nat) (y_could : Nat) (y_shownIn : Nat) (mbk : Nat) (y_book : Nat) (y_images : Nat) (y_isKept : Nat) (mLT : Nat → Nat) (mRS : Nat → Nat) (mRF : Nat → Nat) (FG9 : Nat → Nat) (SC9 : Nat → Nat) (w9 : Nat) (hlen : mlen ≤ 220) (hat : mat ≤ mlen) (hLT : ∀ k, k < 220 → mLT k < 256) (hw9 : mat = w9 + 1) (hmr : mrc < 4) (hRS : ∀ k, k < mrc → mRS k = SC9 k) (hRF : ∀ x, x < 6 * mrc → x % 6 < SC9 (x / 6) → mRF x = FG9 x) : cQ l yX8_takeCube cX8_takeCube 3 (some .int) rm_X8_takeCube D [(mo, .inr (8, [.int (nI mhd.toNat), .int (nI mlo), .int (nI mto), .int (nI mhn.toNat), .int (nI mcu), .ref y_sides, .ref y_other, .ref y_prices, .ref y_now, .int (nI msd), .ref y_text, .int (nI mlen), .int (iI mfa), .int (nI mat), .int (nI mnu), .int (nI mna), .int (nI mri.toNat), .ref y_readDays, .int (nI mrc), .ref y_readSides, .ref y_readFigures, .int (nI mrp), .ref y_readOther, .ref y_readPrices, .int (nI mtp), .ref y_firstOf, .ref y_secondOf, .ref y_shown, .int (nI mun), .ref y_past, .ref y_choices, .int (nI mcm), .ref y_wanted, .int (nI mpm), .int (iI mpf), .int (nI mpo), .ref y_ways, .ref y_waysThen, .int (nI mwr), .ref y_wrongDay, .ref y_wrongShown, .ref y_could, .ref y_shownIn, .int (nI mbk), .ref y_book, .ref y_images, .ref y_isKept])), (y_text, .inl (D.2.1, 220, .inl (nA mLT))), (y_readSides, .inl (D.2.1, 4, .inl (nA mRS))), (y_readFigures, .inl (D.2.1, 24, .inl (nA mRF)))] [.ref mo] (nI ((cX mLT mlen (cq mLT mlen mrc FG9 SC9 (w9, 0, mfa, mna)).2.1).2.1)) (fun u9 : (Nat) × (Nat) × (Nat) × (Nat → Nat) × (Nat → Nat) => [(mo, .inr (8, [.int (nI mhd.toNat), .int (nI mlo), .int (nI mto), .int (nI mhn.toNat), .int (nI mcu), .ref y_sides, .ref y_other, .ref y_prices, .ref y_now, .int (nI msd), .ref y_text, .int (nI mlen), .int (iI ((cX mLT mlen (cq mLT mlen mrc FG9 SC9 (w9, 0, mfa, mna)).2.1).2.2.1)), .int (nI u9.1), .int (nI u9.2.1), .int (nI u9.2.2.1), .int (nI mri.toNat), .ref y_readDays, .int (nI (mrc + 1)), .ref y_readSides, .ref y_readFigures, .int (nI mrp), .ref y_readOther, .ref y_readPrices, .int (nI mtp), .ref y_firstOf, .ref y_secondOf, .ref y_shown, .int (nI mun), .ref y_past, .ref y_choices, .int (nI mcm), .ref y_wanted, .int (nI mpm), .int (iI mpf), .int (nI mpo), .ref y_ways, .ref y_waysThen, .int (nI mwr), .ref y_wrongDay, .ref y_wrongShown, .ref y_could, .ref y_shownIn, .int (nI mbk), .ref y_book, .ref y_images, .ref y_isKept])), (y_text, .inl (D.2.1, 220, .inl (nA mLT))), (y_readSides, .inl (D.2.1, 4, .inl (nA u9.2.2.2.1))), (y_readFigures, .inl (D.2.1, 24, .inl (nA u9.2.2.2.2)))]) (fun u9 => (cX mLT mlen (cq mLT mlen mrc FG9 SC9 (w9, 0, mfa, mna)).2.1).2.1 = 0 → (cq mLT mlen mrc FG9 SC9 (w9, 0, mfa, mna)).2.1.2.1 = 0 ∧ skipB mLT mlen u9.1 = skipB mLT mlen (cq mLT mlen mrc FG9 SC9 (w9, 0, mfa, mna)).2.1.1 ∧ u9.1 ≤ mlen ∧ (∀ k, k < mrc → u9.2.2.2.1 k = SC9 k) ∧ u9.2.2.2.1 mrc = (cq mLT mlen mrc FG9 SC9 (w9, 0, mfa, mna)).2.2.2 mrc ∧ ∀ x, x < 6 * mrc + (cq mLT mlen mrc FG9 SC9 (w9, 0, mfa, mna)).2.2.2 mrc → (x < 6 * mrc → x % 6 < SC9 (x / 6)) → u9.2.2.2.2 x = (cq mLT mlen mrc FG9 SC9 (w9, 0, mfa, mna)).2.2.1 x) := by
  refine cQ.mk (by decide) (retI _) (Nat.le_of_ble_eq_true rfl) ?_
  intro X A hx hL hA hW hret ls hl
  subst hL
  have hl : lv_has ls 3 [(0, .ref mo)] := hl
  subst hw9
  refine x_aload_n hx dX8_takeCube_0 hl 0 rfl ?_
  refine x_get8 hx hW.1 0 rfl 18 (Nat.le_of_ble_eq_true rfl) wf_RX8_151 rfl dX8_takeCube_1 ?_
  refine x_istore_n (lv' := [(1, .int (nI mrc)), (0, .ref mo)]) hx dX8_takeCube_4 hl (Nat.le_of_ble_eq_true rfl) rfl (fun ls hl => ?_)
  refine x_aload_n hx dX8_takeCube_5 hl 1 rfl ?_
  refine x_dup hx dX8_takeCube_6 rfl ?_
  refine x_get8 hx hW.1 0 rfl 18 (Nat.le_of_ble_eq_true rfl) wf_RX8_151 rfl dX8_takeCube_7 ?_
  refine x_iconst (v := nI 1) hx dX8_takeCube_10 (by decide) ?_
  refine x_iadd (v := nI (mrc + 1)) hx dX8_takeCube_11 (nI_add _ _) ?_
  refine x_put8 hx hW 0 rfl 18 (Nat.le_of_ble_eq_true rfl) wf_RX8_151 rfl rfl rfl (Nat.le_of_ble_eq_true rfl) dX8_takeCube_12 [(mo, .inr (8, [.int (nI mhd.toNat), .int (nI mlo), .int (nI mto), .int (nI mhn.toNat), .int (nI mcu), .ref y_sides, .ref y_other, .ref y_prices, .ref y_now, .int (nI msd), .ref y_text, .int (nI mlen), .int (iI mfa), .int (nI (w9 + 1)), .int (nI mnu), .int (nI mna), .int (nI mri.toNat), .ref y_readDays, .int (nI (mrc + 1)), .ref y_readSides, .ref y_readFigures, .int (nI mrp), .ref y_readOther, .ref y_readPrices, .int (nI mtp), .ref y_firstOf, .ref y_secondOf, .ref y_shown, .int (nI mun), .ref y_past, .ref y_choices, .int (nI mcm), .ref y_wanted, .int (nI mpm), .int (iI mpf), .int (nI mpo), .ref y_ways, .ref y_waysThen, .int (nI mwr), .ref y_wrongDay, .ref y_wrongShown, .ref y_could, .ref y_shownIn, .int (nI mbk), .ref y_book, .ref y_images, .ref y_isKept])), (y_text, .inl (D.2.1, 220, .inl (nA mLT))), (y_readSides, .inl (D.2.1, 4, .inl (nA mRS))), (y_readFigures, .inl (D.2.1, 24, .inl (nA mRF)))] rfl (fun H locs hW => ?_)
  have hsk1 := skipB_rng mLT hat
  have hdr1 := dgE_rng mLT hsk1.2
  refine x_aload_n hx dX8_takeCube_15 hl 1 rfl ?_
  refine x_aload_n hx dX8_takeCube_16 hl 1 rfl ?_
  refine x_get8 hx hW.1 0 rfl 20 (Nat.le_of_ble_eq_true rfl) wf_RX8_35 rfl dX8_takeCube_17 ?_
  refine x_bipush (v := nI 6) hx dX8_takeCube_20 (by decide) ?_
  refine x_iload_n hx dX8_takeCube_22 hl 0 rfl ?_
  refine x_imul (v := nI (6 * mrc)) hx dX8_takeCube_23 (pk_mul _ _) ?_
  refine x_iconst (v := nI 0) hx dX8_takeCube_24 (by decide) ?_
  refine x_bipush (v := nI 9) hx dX8_takeCube_25 (by decide) ?_
  refine x_callMV (As := [.ref y_readFigures, .int (nI (6 * mrc)), .int (nI 0), .int (nI 9)]) (rest := []) (wr := [(y_readSides, .inl (D.2.1, 4, .inl (nA mRS)))]) hx yv_X8_into (c_X8_into _ D mo mhd mlo mto mhn mcu y_sides y_other y_prices y_now msd y_text mlen mfa (w9 + 1) mnu mna mri y_readDays (mrc + 1) y_readSides y_readFigures mrp y_readOther y_readPrices mtp y_firstOf y_secondOf y_shown mun y_past y_choices mcm y_wanted mpm mpf mpo y_ways y_waysThen mwr y_wrongDay y_wrongShown y_could y_shownIn mbk y_book y_images y_isKept mLT y_readFigures 24 mRF (6 * mrc) 9 (by first | assumption | omega | (simp [*]; done)) (by first | assumption | omega | (simp [*]; done)) (by first | assumption | omega | (simp [*]; done)) (by first | assumption | omega | (simp [*]; done)) (by first | assumption | omega | (simp [*]; done)) (by first | assumption | omega | (simp [*]; done))) wm_RX8_147 hA hW [0, 1, 3] [2] rfl rfl rfl rfl rfl 0 rfl rfl ⟨rfl, rfl⟩ ⟨Nat.le_of_ble_eq_true rfl, Nat.le_of_ble_eq_true rfl⟩ ⟨Nat.zero_le _, Nat.zero_le _⟩ hl rfl rfl (Nat.le_of_ble_eq_true rfl) dX8_takeCube_27 [(y_readSides, .inl (D.2.1, 4, .inl (nA mRS))), (mo, .inr (8, [.int (nI mhd.toNat), .int (nI mlo), .int (nI mto), .int (nI mhn.toNat), .int (nI mcu), .ref y_sides, .ref y_other, .ref y_prices, .ref y_now, .int (nI msd), .ref y_text, .int (nI mlen), .int (iI (nfP mLT mlen (skipB mLT mlen (w9 + 1)) 9 mfa)), .int (nI (dgE mLT mlen (skipB mLT mlen (w9 + 1)))), .int (nI (numN mLT mlen (skipB mLT mlen (w9 + 1)) mnu)), .int (nI (numA mLT mlen (skipB mLT mlen (w9 + 1)) mna)), .int (nI mri.toNat), .ref y_readDays, .int (nI (mrc + 1)), .ref y_readSides, .ref y_readFigures, .int (nI mrp), .ref y_readOther, .ref y_readPrices, .int (nI mtp), .ref y_firstOf, .ref y_secondOf, .ref y_shown, .int (nI mun), .ref y_past, .ref y_choices, .int (nI mcm), .ref y_wanted, .int (nI mpm), .int (iI mpf), .int (nI mpo), .ref y_ways, .ref y_waysThen, .int (nI mwr), .ref y_wrongDay, .ref y_wrongShown, .ref y_could, .ref y_shownIn, .int (nI mbk), .ref y_book, .ref y_images, .ref y_isKept])), (y_text, .inl (D.2.1, 220, .inl (nA mLT))), (y_readFigures, .inl (D.2.1, 24, .inl (nA (va_up mRF (6 * mrc) (numN mLT mlen (skipB mLT mlen (w9 + 1)) mnu)))))] rfl (fun H locs hW => ?_)
  obtain ⟨f1, hf1⟩ : ∃ z : Nat, z = nfC mLT mlen (skipB mLT mlen (w9 + 1)) 9 := ⟨_, rfl⟩
  have hf1l : f1 ≤ 2 := by rw [hf1]; exact nfC_le _ _ _ _
  refine x_top (u := nI f1) (congrArg nI hf1.symm) ?_
  refine x_istore_n (lv' := [(2, .int (nI f1)), (1, .int (nI mrc)), (0, .ref mo)]) hx dX8_takeCube_30 hl (Nat.le_of_ble_eq_true rfl) rfl (fun ls hl => ?_)
  refine x_aload_n hx dX8_takeCube_31 hl 2 rfl ?_
  refine x_get8 hx hW.1 1 rfl 19 (Nat.le_of_ble_eq_true rfl) wf_RX8_32 rfl dX8_takeCube_32 ?_
  refine x_iload_n hx dX8_takeCube_35 hl 1 rfl ?_
  refine x_iconst (v := nI 1) hx dX8_takeCube_36 (by decide) ?_
  have hR30 : f1 = 0 → ∀ x, x < 6 * mrc + 1 → (x < 6 * mrc → x % 6 < SC9 (x / 6)) → va_up mRF (6 * mrc) (numN mLT mlen (skipB mLT mlen (w9 + 1)) mnu) x = (cbStep mLT mlen mrc (1 - 1) (cQ0 w9 mfa mna FG9 SC9)).2.2.1 x := by
    intro h0 x hx1 hx2
    show _ = va_up FG9 (mrc * 6 + 0) (rnV mLT mlen 9 (w9 + 1, 0, mfa, mna)) x
    rw [rnV_0 (hf1.symm.trans h0), numN_val (hf1.symm.trans h0)]
    by_cases h9 : x = 6 * mrc
    · rw [h9, va_up_same, show mrc * 6 + 0 = 6 * mrc by omega, va_up_same]
    · rw [va_up_ne _ _ h9, va_up_ne _ _ (by omega)]
      exact hRF x (by omega) (hx2 (by omega))
  have hj_37 : mrc < 4 := by omega
  refine x_iast hx hW 0 rfl hj_37 (by decide) (upd_nA _ _ _) dX8_takeCube_37 [(y_readSides, .inl (D.2.1, 4, .inl (nA (va_up mRS mrc 1)))), (mo, .inr (8, [.int (nI mhd.toNat), .int (nI mlo), .int (nI mto), .int (nI mhn.toNat), .int (nI mcu), .ref y_sides, .ref y_other, .ref y_prices, .ref y_now, .int (nI msd), .ref y_text, .int (nI mlen), .int (iI (nfP mLT mlen (skipB mLT mlen (w9 + 1)) 9 mfa)), .int (nI (dgE mLT mlen (skipB mLT mlen (w9 + 1)))), .int (nI (numN mLT mlen (skipB mLT mlen (w9 + 1)) mnu)), .int (nI (numA mLT mlen (skipB mLT mlen (w9 + 1)) mna)), .int (nI mri.toNat), .ref y_readDays, .int (nI (mrc + 1)), .ref y_readSides, .ref y_readFigures, .int (nI mrp), .ref y_readOther, .ref y_readPrices, .int (nI mtp), .ref y_firstOf, .ref y_secondOf, .ref y_shown, .int (nI mun), .ref y_past, .ref y_choices, .int (nI mcm), .ref y_wanted, .int (nI mpm), .int (iI mpf), .int (nI mpo), .ref y_ways, .ref y_waysThen, .int (nI mwr), .ref y_wrongDay, .ref y_wrongShown, .ref y_could, .ref y_shownIn, .int (nI mbk), .ref y_book, .ref y_images, .ref y_isKept])), (y_text, .inl (D.2.1, 220, .inl (nA mLT))), (y_readFigures, .inl (D.2.1, 24, .inl (nA (va_up mRF (6 * mrc) (numN mLT mlen (skipB mLT mlen (w9 + 1)) mnu)))))] rfl (fun H locs hW => ?_)
  have L38_1 : ∀ (L38_1n : Nat) (i : Nat) (qp : CS) (fN : Nat) (aN : Nat) (nuN : Nat) (naN : Nat) (fz : Int) (RSv : Nat → Nat) (RFv : Nat → Nat), (1 ≤ i) → (i ≤ 6) → (qp = cbN mLT mlen mrc (cQ0 w9 mfa mna FG9 SC9) (i - 1)) → (qp.1 = true) → (qp.2.1.2.1 = 0) → (aN = (rnS mLT mlen 9 qp.2.1).1) → (fN = (rnS mLT mlen 9 qp.2.1).2.1) → (fz = (rnS mLT mlen 9 qp.2.1).2.2.1) → (∀ k, k < mrc → RSv k = SC9 k) → (RSv mrc = i) → (fN = 0 → ∀ x, x < 6 * mrc + i → (x < 6 * mrc → x % 6 < SC9 (x / 6)) → RFv x = (cbStep mLT mlen mrc (i - 1) qp).2.2.1 x) → (aN ≤ mlen) → (fN ≤ 4) → 6 - i < L38_1n → ∀ (H : Heap) (locs : List Loc), Wd X D A [(y_readSides, .inl (D.2.1, 4, .inl (nA RSv))), (mo, .inr (8, [.int (nI mhd.toNat), .int (nI mlo), .int (nI mto), .int (nI mhn.toNat), .int (nI mcu), .ref y_sides, .ref y_other, .ref y_prices, .ref y_now, .int (nI msd), .ref y_text, .int (nI mlen), .int (iI fz), .int (nI aN), .int (nI nuN), .int (nI naN), .int (nI mri.toNat), .ref y_readDays, .int (nI (mrc + 1)), .ref y_readSides, .ref y_readFigures, .int (nI mrp), .ref y_readOther, .ref y_readPrices, .int (nI mtp), .ref y_firstOf, .ref y_secondOf, .ref y_shown, .int (nI mun), .ref y_past, .ref y_choices, .int (nI mcm), .ref y_wanted, .int (nI mpm), .int (iI mpf), .int (nI mpo), .ref y_ways, .ref y_waysThen, .int (nI mwr), .ref y_wrongDay, .ref y_wrongShown, .ref y_could, .ref y_shownIn, .int (nI mbk), .ref y_book, .ref y_images, .ref y_isKept])), (y_text, .inl (D.2.1, 220, .inl (nA mLT))), (y_readFigures, .inl (D.2.1, 24, .inl (nA RFv)))] H locs → ∀ ls : Array Slot, lv_has ls 3 [(0, .ref mo), (1, .int (nI mrc)), (2, .int (nI fN))] → Wx X 0 0 H locs 38 ls [] := by
    intro L38_1n
    induction L38_1n with
    | zero =>
      intro i qp fN aN nuN naN fz RSv RFv h1 h6 hqp hgo hok ht1 ht2 ht3 hr1 hr2 hr3 haN hfN hm
      exact absurd hm (Nat.not_lt_zero _)
    | succ L38_1n ihL38_1 =>
      intro i qp fN aN nuN naN fz RSv RFv h1 h6 hqp hgo hok ht1 ht2 ht3 hr1 hr2 hr3 haN hfN hm H locs hW ls hl
      refine x_iload_n hx dX8_takeCube_38 hl 2 rfl ?_
      refine x_if_ne_N (a := fN) (tgt := 118) hx dX8_takeCube_39 (by decide) (by omega) (fun h_2 => ?_) (fun h_2 => ?_)
      · have hE := cq_end hmr hqp hgo hok h1 h6 (Or.inr (Or.inr (by rw [← ht2]; exact h_2)))
        have hT1 : (cq mLT mlen mrc FG9 SC9 (w9, 0, mfa, mna)).2.1 = cbT mLT mlen (i - 1) (rnS mLT mlen 9 qp.2.1) := by rw [← hE]; rfl
        have hT3 : (cq mLT mlen mrc FG9 SC9 (w9, 0, mfa, mna)).2.2.2 mrc = i := by
          rw [← hE]
          show va_up qp.2.2.2 mrc (i - 1 + 1) mrc = i
          rw [va_up_same]; omega
        have hT4 : (cq mLT mlen mrc FG9 SC9 (w9, 0, mfa, mna)).2.2.1 = (cbStep mLT mlen mrc (i - 1) qp).2.2.1 := by rw [← hE]
        have hcx : cX mLT mlen (cq mLT mlen mrc FG9 SC9 (w9, 0, mfa, mna)).2.1 = (cq mLT mlen mrc FG9 SC9 (w9, 0, mfa, mna)).2.1 := cX_f (by rw [hT1, cbT_eq rfl]; show ¬ (rnS mLT mlen 9 qp.2.1).2.1 = 0; rw [← ht2]; exact h_2)
        refine x_iload_n hx dX8_takeCube_118 hl 2 rfl ?_
        have hR9 : (cX mLT mlen (cq mLT mlen mrc FG9 SC9 (w9, 0, mfa, mna)).2.1).2.1 = 0 → (cq mLT mlen mrc FG9 SC9 (w9, 0, mfa, mna)).2.1.2.1 = 0 ∧ skipB mLT mlen aN = skipB mLT mlen (cq mLT mlen mrc FG9 SC9 (w9, 0, mfa, mna)).2.1.1 ∧ aN ≤ mlen ∧ (∀ k, k < mrc → RSv k = SC9 k) ∧ RSv mrc = (cq mLT mlen mrc FG9 SC9 (w9, 0, mfa, mna)).2.2.2 mrc ∧ ∀ x, x < 6 * mrc + (cq mLT mlen mrc FG9 SC9 (w9, 0, mfa, mna)).2.2.2 mrc → (x < 6 * mrc → x % 6 < SC9 (x / 6)) → RFv x = (cq mLT mlen mrc FG9 SC9 (w9, 0, mfa, mna)).2.2.1 x := by
          intro h0
          rw [hcx] at h0
          first
            | exact absurd (show (1 : Nat) = 0 from h0) (by decide)
            | exact ⟨h0, by rw [hT1, hno.2.1, skipB_idem], by omega, hr1, by rw [hT3, hr2], fun x hx1 hx2 => by rw [hT4]; exact hr3 hf0 x (by rw [hT3] at hx1; exact hx1) hx2⟩
            | (rw [hT1, cbT_eq rfl] at h0; exact absurd (ht2.trans h0) (by assumption))
        have e_3 : (fz : Int) = (cX mLT mlen (cq mLT mlen mrc FG9 SC9 (w9, 0, mfa, mna)).2.1).2.2.1 := by
          rw [hcx] <;> first | (rw [hT1, cbT_eq rfl]; exact ht3) | (rw [hT1, hno.2.2]; exact ht3)
        exact hret _ _ _ _ _ (aN, nuN, naN, RSv, RFv) dX8_takeCube_119 (by rw [hcx] <;> first | (rw [hT1, cbT_eq rfl]; exact congrArg nI ht2) | (rw [hTz]; exact congrArg nI hf0)) hR9 (hW.conv [1, 2, 0, 3] (w1 := [(mo, .inr (8, [.int (nI mhd.toNat), .int (nI mlo), .int (nI mto), .int (nI mhn.toNat), .int (nI mcu), .ref y_sides, .ref y_other, .ref y_prices, .ref y_now, .int (nI msd), .ref y_text, .int (nI mlen), .int (iI fz), .int (nI aN), .int (nI nuN), .int (nI naN), .int (nI mri.toNat), .ref y_readDays, .int (nI (mrc + 1)), .ref y_readSides, .ref y_readFigures, .int (nI mrp), .ref y_readOther, .ref y_readPrices, .int (nI mtp), .ref y_firstOf, .ref y_secondOf, .ref y_shown, .int (nI mun), .ref y_past, .ref y_choices, .int (nI mcm), .ref y_wanted, .int (nI mpm), .int (iI mpf), .int (nI mpo), .ref y_ways, .ref y_waysThen, .int (nI mwr), .ref y_wrongDay, .ref y_wrongShown, .ref y_could, .ref y_shownIn, .int (nI mbk), .ref y_book, .ref y_images, .ref y_isKept])), (y_text, .inl (D.2.1, 220, .inl (nA mLT))), (y_readSides, .inl (D.2.1, 4, .inl (nA RSv))), (y_readFigures, .inl (D.2.1, 24, .inl (nA RFv)))]) (w2 := [(mo, .inr (8, [.int (nI mhd.toNat), .int (nI mlo), .int (nI mto), .int (nI mhn.toNat), .int (nI mcu), .ref y_sides, .ref y_other, .ref y_prices, .ref y_now, .int (nI msd), .ref y_text, .int (nI mlen), .int (iI ((cX mLT mlen (cq mLT mlen mrc FG9 SC9 (w9, 0, mfa, mna)).2.1).2.2.1)), .int (nI aN), .int (nI nuN), .int (nI naN), .int (nI mri.toNat), .ref y_readDays, .int (nI (mrc + 1)), .ref y_readSides, .ref y_readFigures, .int (nI mrp), .ref y_readOther, .ref y_readPrices, .int (nI mtp), .ref y_firstOf, .ref y_secondOf, .ref y_shown, .int (nI mun), .ref y_past, .ref y_choices, .int (nI mcm), .ref y_wanted, .int (nI mpm), .int (iI mpf), .int (nI mpo), .ref y_ways, .ref y_waysThen, .int (nI mwr), .ref y_wrongDay, .ref y_wrongShown, .ref y_could, .ref y_shownIn, .int (nI mbk), .ref y_book, .ref y_images, .ref y_isKept])), (y_text, .inl (D.2.1, 220, .inl (nA mLT))), (y_readSides, .inl (D.2.1, 4, .inl (nA RSv))), (y_readFigures, .inl (D.2.1, 24, .inl (nA RFv)))]) rfl rfl (cE (congrArg (fun z => ((mo, .inr (8, z)) : Nat × va_E)) (cE rfl (cE rfl (cE rfl (cE rfl (cE rfl (cE rfl (cE rfl (cE rfl (cE rfl (cE rfl (cE rfl (cE rfl (cE (congrArg Value.int (congrArg (fun z : Int => iI z) e_3)) (cE rfl (cE rfl (cE rfl (cE rfl (cE rfl (cE rfl (cE rfl (cE rfl (cE rfl (cE rfl (cE rfl (cE rfl (cE rfl (cE rfl (cE rfl (cE rfl (cE rfl (cE rfl (cE rfl (cE rfl (cE rfl (cE rfl (cE rfl (cE rfl (cE rfl (cE rfl (cE rfl (cE rfl (cE rfl (cE rfl (cE rfl (cE rfl (cE rfl (cE rfl rfl)))))))))))))))))))))))))))))))))))))))))))))))) (cE rfl (cE rfl (cE rfl rfl)))))
      · have hf0 : fN = 0 := h_2
        refine x_aload_n hx dX8_takeCube_42 hl 0 rfl ?_
        refine x_callMV (As := []) (rest := []) (wr := [(y_readSides, .inl (D.2.1, 4, .inl (nA RSv))), (y_readFigures, .inl (D.2.1, 24, .inl (nA RFv)))]) hx yv_X8_here (c_X8_here _ D mo mhd mlo mto mhn mcu y_sides y_other y_prices y_now msd y_text mlen fz aN nuN naN mri y_readDays (mrc + 1) y_readSides y_readFigures mrp y_readOther y_readPrices mtp y_firstOf y_secondOf y_shown mun y_past y_choices mcm y_wanted mpm mpf mpo y_ways y_waysThen mwr y_wrongDay y_wrongShown y_could y_shownIn mbk y_book y_images y_isKept mLT (by first | assumption | omega | (simp [*]; done)) (by first | assumption | omega | (simp [*]; done)) (by first | assumption | omega | (simp [*]; done))) wm_RX8_123 hA hW [1, 2] [0, 3] rfl rfl rfl rfl rfl 1 rfl rfl ⟨rfl, rfl⟩ ⟨Nat.le_of_ble_eq_true rfl, Nat.le_of_ble_eq_true rfl⟩ ⟨Nat.zero_le _, Nat.zero_le _⟩ hl rfl rfl (Nat.le_of_ble_eq_true rfl) dX8_takeCube_43 [(y_readSides, .inl (D.2.1, 4, .inl (nA RSv))), (y_readFigures, .inl (D.2.1, 24, .inl (nA RFv))), (mo, .inr (8, [.int (nI mhd.toNat), .int (nI mlo), .int (nI mto), .int (nI mhn.toNat), .int (nI mcu), .ref y_sides, .ref y_other, .ref y_prices, .ref y_now, .int (nI msd), .ref y_text, .int (nI mlen), .int (iI fz), .int (nI (skipB mLT mlen aN)), .int (nI nuN), .int (nI naN), .int (nI mri.toNat), .ref y_readDays, .int (nI (mrc + 1)), .ref y_readSides, .ref y_readFigures, .int (nI mrp), .ref y_readOther, .ref y_readPrices, .int (nI mtp), .ref y_firstOf, .ref y_secondOf, .ref y_shown, .int (nI mun), .ref y_past, .ref y_choices, .int (nI mcm), .ref y_wanted, .int (nI mpm), .int (iI mpf), .int (nI mpo), .ref y_ways, .ref y_waysThen, .int (nI mwr), .ref y_wrongDay, .ref y_wrongShown, .ref y_could, .ref y_shownIn, .int (nI mbk), .ref y_book, .ref y_images, .ref y_isKept])), (y_text, .inl (D.2.1, 220, .inl (nA mLT)))] rfl (fun H locs hW => ?_)
        have hhr := hereV_rng (a := aN) hlen hLT
        have hska := skipB_rng mLT haN
        refine x_bipush (v := nI 44) hx dX8_takeCube_46 (by decide) ?_
        refine x_icmp_ne_Z (a := (hereV mLT mlen aN)) (b := 44) (tgt := 118) hx dX8_takeCube_48 (by decide) (by omega) (by omega) (fun h_4 => ?_) (fun h_4 => ?_)
        · have hno := cb_no h1 h6 ht1 (show ¬ hereV mLT mlen aN = 44 from h_4)
          have hE := cq_end hmr hqp hgo hok h1 h6 (hno.1.elim Or.inl (fun h9 => Or.inr (Or.inl h9)))
          have hT1 : (cq mLT mlen mrc FG9 SC9 (w9, 0, mfa, mna)).2.1 = cbT mLT mlen (i - 1) (rnS mLT mlen 9 qp.2.1) := by rw [← hE]; rfl
          have hT3 : (cq mLT mlen mrc FG9 SC9 (w9, 0, mfa, mna)).2.2.2 mrc = i := by
            rw [← hE]
            show va_up qp.2.2.2 mrc (i - 1 + 1) mrc = i
            rw [va_up_same]; omega
          have hT4 : (cq mLT mlen mrc FG9 SC9 (w9, 0, mfa, mna)).2.2.1 = (cbStep mLT mlen mrc (i - 1) qp).2.2.1 := by rw [← hE]
          have hTz : (cq mLT mlen mrc FG9 SC9 (w9, 0, mfa, mna)).2.1.2.1 = 0 := by rw [hT1, hno.2.2, ← ht2]; exact hf0
          have hcx : cX mLT mlen (cq mLT mlen mrc FG9 SC9 (w9, 0, mfa, mna)).2.1 = (cq mLT mlen mrc FG9 SC9 (w9, 0, mfa, mna)).2.1 := cX_n (by rw [hT1, ← hereV_skip, hno.2.1, hereV_skip]; exact h_4)
          refine x_iload_n hx dX8_takeCube_118 hl 2 rfl ?_
          have hR9 : (cX mLT mlen (cq mLT mlen mrc FG9 SC9 (w9, 0, mfa, mna)).2.1).2.1 = 0 → (cq mLT mlen mrc FG9 SC9 (w9, 0, mfa, mna)).2.1.2.1 = 0 ∧ skipB mLT mlen (skipB mLT mlen aN) = skipB mLT mlen (cq mLT mlen mrc FG9 SC9 (w9, 0, mfa, mna)).2.1.1 ∧ (skipB mLT mlen aN) ≤ mlen ∧ (∀ k, k < mrc → RSv k = SC9 k) ∧ RSv mrc = (cq mLT mlen mrc FG9 SC9 (w9, 0, mfa, mna)).2.2.2 mrc ∧ ∀ x, x < 6 * mrc + (cq mLT mlen mrc FG9 SC9 (w9, 0, mfa, mna)).2.2.2 mrc → (x < 6 * mrc → x % 6 < SC9 (x / 6)) → RFv x = (cq mLT mlen mrc FG9 SC9 (w9, 0, mfa, mna)).2.2.1 x := by
            intro h0
            rw [hcx] at h0
            first
              | exact absurd (show (1 : Nat) = 0 from h0) (by decide)
              | exact ⟨h0, by rw [hT1, hno.2.1, skipB_idem], by omega, hr1, by rw [hT3, hr2], fun x hx1 hx2 => by rw [hT4]; exact hr3 hf0 x (by rw [hT3] at hx1; exact hx1) hx2⟩
              | (rw [hT1, cbT_eq rfl] at h0; exact absurd (ht2.trans h0) (by assumption))
          have e_5 : (fz : Int) = (cX mLT mlen (cq mLT mlen mrc FG9 SC9 (w9, 0, mfa, mna)).2.1).2.2.1 := by
            rw [hcx] <;> first | (rw [hT1, cbT_eq rfl]; exact ht3) | (rw [hT1, hno.2.2]; exact ht3)
          exact hret _ _ _ _ _ (skipB mLT mlen aN, nuN, naN, RSv, RFv) dX8_takeCube_119 (by rw [hcx] <;> first | (rw [hT1, cbT_eq rfl]; exact congrArg nI ht2) | (rw [hTz]; exact congrArg nI hf0)) hR9 (hW.conv [2, 3, 0, 1] (w1 := [(mo, .inr (8, [.int (nI mhd.toNat), .int (nI mlo), .int (nI mto), .int (nI mhn.toNat), .int (nI mcu), .ref y_sides, .ref y_other, .ref y_prices, .ref y_now, .int (nI msd), .ref y_text, .int (nI mlen), .int (iI fz), .int (nI (skipB mLT mlen aN)), .int (nI nuN), .int (nI naN), .int (nI mri.toNat), .ref y_readDays, .int (nI (mrc + 1)), .ref y_readSides, .ref y_readFigures, .int (nI mrp), .ref y_readOther, .ref y_readPrices, .int (nI mtp), .ref y_firstOf, .ref y_secondOf, .ref y_shown, .int (nI mun), .ref y_past, .ref y_choices, .int (nI mcm), .ref y_wanted, .int (nI mpm), .int (iI mpf), .int (nI mpo), .ref y_ways, .ref y_waysThen, .int (nI mwr), .ref y_wrongDay, .ref y_wrongShown, .ref y_could, .ref y_shownIn, .int (nI mbk), .ref y_book, .ref y_images, .ref y_isKept])), (y_text, .inl (D.2.1, 220, .inl (nA mLT))), (y_readSides, .inl (D.2.1, 4, .inl (nA RSv))), (y_readFigures, .inl (D.2.1, 24, .inl (nA RFv)))]) (w2 := [(mo, .inr (8, [.int (nI mhd.toNat), .int (nI mlo), .int (nI mto), .int (nI mhn.toNat), .int (nI mcu), .ref y_sides, .ref y_other, .ref y_prices, .ref y_now, .int (nI msd), .ref y_text, .int (nI mlen), .int (iI ((cX mLT mlen (cq mLT mlen mrc FG9 SC9 (w9, 0, mfa, mna)).2.1).2.2.1)), .int (nI (skipB mLT mlen aN)), .int (nI nuN), .int (nI naN), .int (nI mri.toNat), .ref y_readDays, .int (nI (mrc + 1)), .ref y_readSides, .ref y_readFigures, .int (nI mrp), .ref y_readOther, .ref y_readPrices, .int (nI mtp), .ref y_firstOf, .ref y_secondOf, .ref y_shown, .int (nI mun), .ref y_past, .ref y_choices, .int (nI mcm), .ref y_wanted, .int (nI mpm), .int (iI mpf), .int (nI mpo), .ref y_ways, .ref y_waysThen, .int (nI mwr), .ref y_wrongDay, .ref y_wrongShown, .ref y_could, .ref y_shownIn, .int (nI mbk), .ref y_book, .ref y_images, .ref y_isKept])), (y_text, .inl (D.2.1, 220, .inl (nA mLT))), (y_readSides, .inl (D.2.1, 4, .inl (nA RSv))), (y_readFigures, .inl (D.2.1, 24, .inl (nA RFv)))]) rfl rfl (cE (congrArg (fun z => ((mo, .inr (8, z)) : Nat × va_E)) (cE rfl (cE rfl (cE rfl (cE rfl (cE rfl (cE rfl (cE rfl (cE rfl (cE rfl (cE rfl (cE rfl (cE rfl (cE (congrArg Value.int (congrArg (fun z : Int => iI z) e_5)) (cE rfl (cE rfl (cE rfl (cE rfl (cE rfl (cE rfl (cE rfl (cE rfl (cE rfl (cE rfl (cE rfl (cE rfl (cE rfl (cE rfl (cE rfl (cE rfl (cE rfl (cE rfl (cE rfl (cE rfl (cE rfl (cE rfl (cE rfl (cE rfl (cE rfl (cE rfl (cE rfl (cE rfl (cE rfl (cE rfl (cE rfl (cE rfl (cE rfl (cE rfl rfl)))))))))))))))))))))))))))))))))))))))))))))))) (cE rfl (cE rfl (cE rfl rfl)))))
        · have hcom : hereV mLT mlen aN = 44 := h_4
          refine x_aload_n hx dX8_takeCube_51 hl 0 rfl ?_
          refine x_get8 hx hW.1 2 rfl 19 (Nat.le_of_ble_eq_true rfl) wf_RX8_32 rfl dX8_takeCube_52 ?_
          refine x_iload_n hx dX8_takeCube_55 hl 1 rfl ?_
          have hj_56 : mrc < 4 := by omega
          refine x_iald (v := nI (RSv mrc)) hx hW.1 0 rfl hj_56 (by decide) (rfl) dX8_takeCube_56 ?_
          refine x_bipush (v := nI 6) hx dX8_takeCube_57 (by decide) ?_
          refine x_icmp_ne_N (a := (RSv mrc)) (b := 6) (tgt := 72) hx dX8_takeCube_59 (by decide) (by omega) (by omega) (fun h_6 => ?_) (fun h_6 => ?_)
          · have hi6 : i < 6 := by omega
            have hcm := cb_com h1 hi6 ht1 hcom
            have hst1 : (cbStep mLT mlen mrc (i - 1) qp).2.1 = (skipB mLT mlen aN + 1, fN, fz, (rnS mLT mlen 9 qp.2.1).2.2.2) := by
              show cbT mLT mlen (i - 1) (rnS mLT mlen 9 qp.2.1) = _
              rw [hcm.2, ← ht2, ← ht3]
            have hst0 : (cbStep mLT mlen mrc (i - 1) qp).2.1.2.1 = 0 := by rw [hst1]; exact hf0
            have hskl := (hereV_is.mp hcom).1
            have hsk5 := skipB_rng mLT (show skipB mLT mlen aN + 1 ≤ mlen by omega)
            have hdr5 := dgE_rng mLT hsk5.2
            refine x_aload_n hx dX8_takeCube_72 hl 0 rfl ?_
            refine x_dup hx dX8_takeCube_73 rfl ?_
            refine x_get8 hx hW.1 2 rfl 13 (Nat.le_of_ble_eq_true rfl) wf_RX8_120 rfl dX8_takeCube_74 ?_
            refine x_iconst (v := nI 1) hx dX8_takeCube_77 (by decide) ?_
            refine x_iadd (v := nI (skipB mLT mlen aN + 1)) hx dX8_takeCube_78 (nI_add _ _) ?_
            refine x_put8 hx hW 2 rfl 13 (Nat.le_of_ble_eq_true rfl) wf_RX8_120 rfl rfl rfl (Nat.le_of_ble_eq_true rfl) dX8_takeCube_79 [(y_readSides, .inl (D.2.1, 4, .inl (nA RSv))), (y_readFigures, .inl (D.2.1, 24, .inl (nA RFv))), (mo, .inr (8, [.int (nI mhd.toNat), .int (nI mlo), .int (nI mto), .int (nI mhn.toNat), .int (nI mcu), .ref y_sides, .ref y_other, .ref y_prices, .ref y_now, .int (nI msd), .ref y_text, .int (nI mlen), .int (iI fz), .int (nI (skipB mLT mlen aN + 1)), .int (nI nuN), .int (nI naN), .int (nI mri.toNat), .ref y_readDays, .int (nI (mrc + 1)), .ref y_readSides, .ref y_readFigures, .int (nI mrp), .ref y_readOther, .ref y_readPrices, .int (nI mtp), .ref y_firstOf, .ref y_secondOf, .ref y_shown, .int (nI mun), .ref y_past, .ref y_choices, .int (nI mcm), .ref y_wanted, .int (nI mpm), .int (iI mpf), .int (nI mpo), .ref y_ways, .ref y_waysThen, .int (nI mwr), .ref y_wrongDay, .ref y_wrongShown, .ref y_could, .ref y_shownIn, .int (nI mbk), .ref y_book, .ref y_images, .ref y_isKept])), (y_text, .inl (D.2.1, 220, .inl (nA mLT)))] rfl (fun H locs hW => ?_)
            refine x_aload_n hx dX8_takeCube_82 hl 0 rfl ?_
            refine x_aload_n hx dX8_takeCube_83 hl 0 rfl ?_
            refine x_get8 hx hW.1 2 rfl 20 (Nat.le_of_ble_eq_true rfl) wf_RX8_35 rfl dX8_takeCube_84 ?_
            refine x_bipush (v := nI 6) hx dX8_takeCube_87 (by decide) ?_
            refine x_iload_n hx dX8_takeCube_89 hl 1 rfl ?_
            refine x_imul (v := nI (6 * mrc)) hx dX8_takeCube_90 (pk_mul _ _) ?_
            refine x_aload_n hx dX8_takeCube_91 hl 0 rfl ?_
            refine x_get8 hx hW.1 2 rfl 19 (Nat.le_of_ble_eq_true rfl) wf_RX8_32 rfl dX8_takeCube_92 ?_
            refine x_iload_n hx dX8_takeCube_95 hl 1 rfl ?_
            have hj_96 : mrc < 4 := by omega
            refine x_iald (v := nI (RSv mrc)) hx hW.1 0 rfl hj_96 (by decide) (rfl) dX8_takeCube_96 ?_
            refine x_iadd (v := nI (6 * mrc + (RSv mrc))) hx dX8_takeCube_97 (nI_add _ _) ?_
            refine x_iconst (v := nI 0) hx dX8_takeCube_98 (by decide) ?_
            refine x_bipush (v := nI 9) hx dX8_takeCube_99 (by decide) ?_
            refine x_callMV (As := [.ref y_readFigures, .int (nI (6 * mrc + (RSv mrc))), .int (nI 0), .int (nI 9)]) (rest := []) (wr := [(y_readSides, .inl (D.2.1, 4, .inl (nA RSv)))]) hx yv_X8_into (c_X8_into _ D mo mhd mlo mto mhn mcu y_sides y_other y_prices y_now msd y_text mlen fz (skipB mLT mlen aN + 1) nuN naN mri y_readDays (mrc + 1) y_readSides y_readFigures mrp y_readOther y_readPrices mtp y_firstOf y_secondOf y_shown mun y_past y_choices mcm y_wanted mpm mpf mpo y_ways y_waysThen mwr y_wrongDay y_wrongShown y_could y_shownIn mbk y_book y_images y_isKept mLT y_readFigures 24 RFv (6 * mrc + (RSv mrc)) 9 (by first | assumption | omega | (simp [*]; done)) (by first | assumption | omega | (simp [*]; done)) (by first | assumption | omega | (simp [*]; done)) (by first | assumption | omega | (simp [*]; done)) (by first | assumption | omega | (simp [*]; done)) (by first | assumption | omega | (simp [*]; done))) wm_RX8_147 hA hW [2, 3, 1] [0] rfl rfl rfl rfl rfl 2 rfl rfl ⟨rfl, rfl⟩ ⟨Nat.le_of_ble_eq_true rfl, Nat.le_of_ble_eq_true rfl⟩ ⟨Nat.zero_le _, Nat.zero_le _⟩ hl rfl rfl (Nat.le_of_ble_eq_true rfl) dX8_takeCube_101 [(y_readSides, .inl (D.2.1, 4, .inl (nA RSv))), (mo, .inr (8, [.int (nI mhd.toNat), .int (nI mlo), .int (nI mto), .int (nI mhn.toNat), .int (nI mcu), .ref y_sides, .ref y_other, .ref y_prices, .ref y_now, .int (nI msd), .ref y_text, .int (nI mlen), .int (iI (nfP mLT mlen (skipB mLT mlen (skipB mLT mlen aN + 1)) 9 fz)), .int (nI (dgE mLT mlen (skipB mLT mlen (skipB mLT mlen aN + 1)))), .int (nI (numN mLT mlen (skipB mLT mlen (skipB mLT mlen aN + 1)) nuN)), .int (nI (numA mLT mlen (skipB mLT mlen (skipB mLT mlen aN + 1)) naN)), .int (nI mri.toNat), .ref y_readDays, .int (nI (mrc + 1)), .ref y_readSides, .ref y_readFigures, .int (nI mrp), .ref y_readOther, .ref y_readPrices, .int (nI mtp), .ref y_firstOf, .ref y_secondOf, .ref y_shown, .int (nI mun), .ref y_past, .ref y_choices, .int (nI mcm), .ref y_wanted, .int (nI mpm), .int (iI mpf), .int (nI mpo), .ref y_ways, .ref y_waysThen, .int (nI mwr), .ref y_wrongDay, .ref y_wrongShown, .ref y_could, .ref y_shownIn, .int (nI mbk), .ref y_book, .ref y_images, .ref y_isKept])), (y_text, .inl (D.2.1, 220, .inl (nA mLT))), (y_readFigures, .inl (D.2.1, 24, .inl (nA (va_up RFv (6 * mrc + (RSv mrc)) (numN mLT mlen (skipB mLT mlen (skipB mLT mlen aN + 1)) nuN)))))] rfl (fun H locs hW => ?_)
            obtain ⟨f2, hf2⟩ : ∃ z : Nat, z = nfC mLT mlen (skipB mLT mlen (skipB mLT mlen aN + 1)) 9 := ⟨_, rfl⟩
            have hf2l : f2 ≤ 2 := by rw [hf2]; exact nfC_le _ _ _ _
            refine x_top (u := nI f2) (congrArg nI hf2.symm) ?_
            refine x_istore_n (lv' := [(2, .int (nI f2)), (0, .ref mo), (1, .int (nI mrc))]) hx dX8_takeCube_104 hl (Nat.le_of_ble_eq_true rfl) rfl (fun ls hl => ?_)
            refine x_aload_n hx dX8_takeCube_105 hl 1 rfl ?_
            refine x_get8 hx hW.1 1 rfl 19 (Nat.le_of_ble_eq_true rfl) wf_RX8_32 rfl dX8_takeCube_106 ?_
            refine x_iload_n hx dX8_takeCube_109 hl 2 rfl ?_
            refine x_dup2 hx dX8_takeCube_110 rfl rfl ?_
            have hj_111 : mrc < 4 := by omega
            refine x_iald (v := nI (RSv mrc)) hx hW.1 0 rfl hj_111 (by decide) (rfl) dX8_takeCube_111 ?_
            refine x_iconst (v := nI 1) hx dX8_takeCube_112 (by decide) ?_
            refine x_iadd (v := nI (RSv mrc + 1)) hx dX8_takeCube_113 (nI_add _ _) ?_
            have hj_114 : mrc < 4 := by omega
            refine x_iast hx hW 0 rfl hj_114 (by decide) (upd_nA _ _ _) dX8_takeCube_114 [(y_readSides, .inl (D.2.1, 4, .inl (nA (va_up RSv mrc (RSv mrc + 1))))), (mo, .inr (8, [.int (nI mhd.toNat), .int (nI mlo), .int (nI mto), .int (nI mhn.toNat), .int (nI mcu), .ref y_sides, .ref y_other, .ref y_prices, .ref y_now, .int (nI msd), .ref y_text, .int (nI mlen), .int (iI (nfP mLT mlen (skipB mLT mlen (skipB mLT mlen aN + 1)) 9 fz)), .int (nI (dgE mLT mlen (skipB mLT mlen (skipB mLT mlen aN + 1)))), .int (nI (numN mLT mlen (skipB mLT mlen (skipB mLT mlen aN + 1)) nuN)), .int (nI (numA mLT mlen (skipB mLT mlen (skipB mLT mlen aN + 1)) naN)), .int (nI mri.toNat), .ref y_readDays, .int (nI (mrc + 1)), .ref y_readSides, .ref y_readFigures, .int (nI mrp), .ref y_readOther, .ref y_readPrices, .int (nI mtp), .ref y_firstOf, .ref y_secondOf, .ref y_shown, .int (nI mun), .ref y_past, .ref y_choices, .int (nI mcm), .ref y_wanted, .int (nI mpm), .int (iI mpf), .int (nI mpo), .ref y_ways, .ref y_waysThen, .int (nI mwr), .ref y_wrongDay, .ref y_wrongShown, .ref y_could, .ref y_shownIn, .int (nI mbk), .ref y_book, .ref y_images, .ref y_isKept])), (y_text, .inl (D.2.1, 220, .inl (nA mLT))), (y_readFigures, .inl (D.2.1, 24, .inl (nA (va_up RFv (6 * mrc + (RSv mrc)) (numN mLT mlen (skipB mLT mlen (skipB mLT mlen aN + 1)) nuN)))))] rfl (fun H locs hW => ?_)
            have hrn : rnS mLT mlen 9 (cbStep mLT mlen mrc (i - 1) qp).2.1 = (dgE mLT mlen (skipB mLT mlen (skipB mLT mlen aN + 1)), f2, nfP mLT mlen (skipB mLT mlen (skipB mLT mlen aN + 1)) 9 fz, skipB mLT mlen (skipB mLT mlen aN + 1)) := by
              rw [rnS_at hst0, hst1, hf2]
            have hN1 : dgE mLT mlen (skipB mLT mlen (skipB mLT mlen aN + 1)) = (rnS mLT mlen 9 (cbStep mLT mlen mrc (i - 1) qp).2.1).1 := by rw [hrn]
            have hN2 : f2 = (rnS mLT mlen 9 (cbStep mLT mlen mrc (i - 1) qp).2.1).2.1 := by rw [hrn]
            have hN3 : nfP mLT mlen (skipB mLT mlen (skipB mLT mlen aN + 1)) 9 fz = (rnS mLT mlen 9 (cbStep mLT mlen mrc (i - 1) qp).2.1).2.2.1 := by rw [hrn]
            have hR3n : f2 = 0 → ∀ x, x < 6 * mrc + (i + 1) → (x < 6 * mrc → x % 6 < SC9 (x / 6)) → va_up RFv (6 * mrc + RSv mrc) (numN mLT mlen (skipB mLT mlen (skipB mLT mlen aN + 1)) nuN) x = (cbStep mLT mlen mrc (i + 1 - 1) (cbStep mLT mlen mrc (i - 1) qp)).2.2.1 x := by
              intro h0 x hx1 hx2
              show _ = va_up (cbStep mLT mlen mrc (i - 1) qp).2.2.1 (mrc * 6 + (i + 1 - 1)) (rnV mLT mlen 9 (cbStep mLT mlen mrc (i - 1) qp).2.1) x
              rw [rnV_at hst0 (by rw [hst1]; exact hf2.symm.trans h0), hst1, numN_val (hf2.symm.trans h0), hr2]
              by_cases h9 : x = 6 * mrc + i
              · rw [h9, va_up_same, show mrc * 6 + (i + 1 - 1) = 6 * mrc + i by omega, va_up_same]
              · rw [va_up_ne _ _ h9, va_up_ne _ _ (by omega)]
                exact hr3 hf0 x (by omega) hx2
            refine x_goto (tgt := 38) hx dX8_takeCube_115 (by decide) ?_
            exact ihL38_1 (i + 1) (cbStep mLT mlen mrc (i - 1) qp) f2 (dgE mLT mlen (skipB mLT mlen (skipB mLT mlen aN + 1))) (numN mLT mlen (skipB mLT mlen (skipB mLT mlen aN + 1)) nuN) (numA mLT mlen (skipB mLT mlen (skipB mLT mlen aN + 1)) naN) (nfP mLT mlen (skipB mLT mlen (skipB mLT mlen aN + 1)) 9 fz) (va_up RSv mrc (RSv mrc + 1)) (va_up RFv (6 * mrc + (RSv mrc)) (numN mLT mlen (skipB mLT mlen (skipB mLT mlen aN + 1)) nuN)) (by omega) (by omega) (by exact cq_nx hqp hgo hok h1) (by exact hcm.1) (by exact hst0) (by exact hN1) (by exact hN2) (by exact hN3) (by exact fun k h9 => (va_up_ne _ _ (by omega)).trans (hr1 k h9)) (by rw [va_up_same, hr2]) (by exact hR3n) (by omega) (by omega) (by omega) _ _ hW _ (lv_sub hl [1, 2, 0] rfl)
          · have hi6 : i = 6 := by omega
            have hE := cq_end hmr hqp hgo hok h1 h6 (Or.inl hi6)
            have hT1 : (cq mLT mlen mrc FG9 SC9 (w9, 0, mfa, mna)).2.1 = cbT mLT mlen (i - 1) (rnS mLT mlen 9 qp.2.1) := by rw [← hE]; rfl
            have hT3 : (cq mLT mlen mrc FG9 SC9 (w9, 0, mfa, mna)).2.2.2 mrc = i := by
              rw [← hE]
              show va_up qp.2.2.2 mrc (i - 1 + 1) mrc = i
              rw [va_up_same]; omega
            have hT4 : (cq mLT mlen mrc FG9 SC9 (w9, 0, mfa, mna)).2.2.1 = (cbStep mLT mlen mrc (i - 1) qp).2.2.1 := by rw [← hE]
            have h5 := cb_5 (LT := mLT) (len := mlen) (f := i - 1) (t := rnS mLT mlen 9 qp.2.1) (by omega)
            have hT5 : (cq mLT mlen mrc FG9 SC9 (w9, 0, mfa, mna)).2.1 = rnS mLT mlen 9 qp.2.1 := by rw [hT1, cbT_eq h5.2.symm]
            have hcx : cX mLT mlen (cq mLT mlen mrc FG9 SC9 (w9, 0, mfa, mna)).2.1 = (aN, 1, (skipB mLT mlen aN : Int), (rnS mLT mlen 9 qp.2.1).2.2.2) := by
              rw [cX_y (by rw [hT5, ← ht2]; exact hf0) (by rw [hT5, ← ht1]; exact hcom), hT5, ← ht1]
            refine x_aload_n hx dX8_takeCube_62 hl 0 rfl ?_
            refine x_iconst (v := nI 1) hx dX8_takeCube_63 (by decide) ?_
            refine x_aload_n hx dX8_takeCube_64 hl 0 rfl ?_
            refine x_get8 hx hW.1 2 rfl 13 (Nat.le_of_ble_eq_true rfl) wf_RX8_120 rfl dX8_takeCube_65 ?_
            refine x_callMV (As := [.int (nI 1), .int (nI (skipB mLT mlen aN))]) (rest := []) (wr := [(y_readSides, .inl (D.2.1, 4, .inl (nA RSv))), (y_readFigures, .inl (D.2.1, 24, .inl (nA RFv))), (y_text, .inl (D.2.1, 220, .inl (nA mLT)))]) hx yv_X8_fails (c_X8_fails _ D mo mhd mlo mto mhn mcu y_sides y_other y_prices y_now msd y_text mlen fz (skipB mLT mlen aN) nuN naN mri y_readDays (mrc + 1) y_readSides y_readFigures mrp y_readOther y_readPrices mtp y_firstOf y_secondOf y_shown mun y_past y_choices mcm y_wanted mpm mpf mpo y_ways y_waysThen mwr y_wrongDay y_wrongShown y_could y_shownIn mbk y_book y_images y_isKept 1 ((skipB mLT mlen aN : Nat) : Int) ) wm_RX8_131 hA hW [2] [0, 1, 3] rfl rfl rfl rfl rfl 2 rfl rfl ⟨rfl, rfl⟩ ⟨Nat.le_of_ble_eq_true rfl, Nat.le_of_ble_eq_true rfl⟩ ⟨Nat.zero_le _, Nat.zero_le _⟩ hl rfl rfl (Nat.le_of_ble_eq_true rfl) dX8_takeCube_68 [(y_readSides, .inl (D.2.1, 4, .inl (nA RSv))), (y_readFigures, .inl (D.2.1, 24, .inl (nA RFv))), (y_text, .inl (D.2.1, 220, .inl (nA mLT))), (mo, .inr (8, [.int (nI mhd.toNat), .int (nI mlo), .int (nI mto), .int (nI mhn.toNat), .int (nI mcu), .ref y_sides, .ref y_other, .ref y_prices, .ref y_now, .int (nI msd), .ref y_text, .int (nI mlen), .int (iI ((skipB mLT mlen aN : Nat) : Int)), .int (nI (skipB mLT mlen aN)), .int (nI nuN), .int (nI naN), .int (nI mri.toNat), .ref y_readDays, .int (nI (mrc + 1)), .ref y_readSides, .ref y_readFigures, .int (nI mrp), .ref y_readOther, .ref y_readPrices, .int (nI mtp), .ref y_firstOf, .ref y_secondOf, .ref y_shown, .int (nI mun), .ref y_past, .ref y_choices, .int (nI mcm), .ref y_wanted, .int (nI mpm), .int (iI mpf), .int (nI mpo), .ref y_ways, .ref y_waysThen, .int (nI mwr), .ref y_wrongDay, .ref y_wrongShown, .ref y_could, .ref y_shownIn, .int (nI mbk), .ref y_book, .ref y_images, .ref y_isKept]))] rfl (fun H locs hW => ?_)
            have hR9 : (cX mLT mlen (cq mLT mlen mrc FG9 SC9 (w9, 0, mfa, mna)).2.1).2.1 = 0 → (cq mLT mlen mrc FG9 SC9 (w9, 0, mfa, mna)).2.1.2.1 = 0 ∧ skipB mLT mlen (skipB mLT mlen aN) = skipB mLT mlen (cq mLT mlen mrc FG9 SC9 (w9, 0, mfa, mna)).2.1.1 ∧ (skipB mLT mlen aN) ≤ mlen ∧ (∀ k, k < mrc → RSv k = SC9 k) ∧ RSv mrc = (cq mLT mlen mrc FG9 SC9 (w9, 0, mfa, mna)).2.2.2 mrc ∧ ∀ x, x < 6 * mrc + (cq mLT mlen mrc FG9 SC9 (w9, 0, mfa, mna)).2.2.2 mrc → (x < 6 * mrc → x % 6 < SC9 (x / 6)) → RFv x = (cq mLT mlen mrc FG9 SC9 (w9, 0, mfa, mna)).2.2.1 x := by
              intro h0
              rw [hcx] at h0
              first
                | exact absurd (show (1 : Nat) = 0 from h0) (by decide)
                | exact ⟨h0, by rw [hT1, hno.2.1, skipB_idem], by omega, hr1, by rw [hT3, hr2], fun x hx1 hx2 => by rw [hT4]; exact hr3 hf0 x (by rw [hT3] at hx1; exact hx1) hx2⟩
                | (rw [hT1, cbT_eq rfl] at h0; exact absurd (ht2.trans h0) (by assumption))
            have e_7 : (((skipB mLT mlen aN : Nat) : Int) : Int) = (cX mLT mlen (cq mLT mlen mrc FG9 SC9 (w9, 0, mfa, mna)).2.1).2.2.1 := by
              rw [hcx] <;> first | (rw [hT1, cbT_eq rfl]; exact ht3) | (rw [hT1, hno.2.2]; exact ht3)
            exact hret _ _ _ _ _ (skipB mLT mlen aN, nuN, naN, RSv, RFv) dX8_takeCube_71 (by rw [hcx] <;> first | (rw [hT1, cbT_eq rfl]; exact congrArg nI ht2) | (rw [hTz]; exact congrArg nI hf0)) hR9 (hW.conv [3, 2, 0, 1] (w1 := [(mo, .inr (8, [.int (nI mhd.toNat), .int (nI mlo), .int (nI mto), .int (nI mhn.toNat), .int (nI mcu), .ref y_sides, .ref y_other, .ref y_prices, .ref y_now, .int (nI msd), .ref y_text, .int (nI mlen), .int (iI ((skipB mLT mlen aN : Nat) : Int)), .int (nI (skipB mLT mlen aN)), .int (nI nuN), .int (nI naN), .int (nI mri.toNat), .ref y_readDays, .int (nI (mrc + 1)), .ref y_readSides, .ref y_readFigures, .int (nI mrp), .ref y_readOther, .ref y_readPrices, .int (nI mtp), .ref y_firstOf, .ref y_secondOf, .ref y_shown, .int (nI mun), .ref y_past, .ref y_choices, .int (nI mcm), .ref y_wanted, .int (nI mpm), .int (iI mpf), .int (nI mpo), .ref y_ways, .ref y_waysThen, .int (nI mwr), .ref y_wrongDay, .ref y_wrongShown, .ref y_could, .ref y_shownIn, .int (nI mbk), .ref y_book, .ref y_images, .ref y_isKept])), (y_text, .inl (D.2.1, 220, .inl (nA mLT))), (y_readSides, .inl (D.2.1, 4, .inl (nA RSv))), (y_readFigures, .inl (D.2.1, 24, .inl (nA RFv)))]) (w2 := [(mo, .inr (8, [.int (nI mhd.toNat), .int (nI mlo), .int (nI mto), .int (nI mhn.toNat), .int (nI mcu), .ref y_sides, .ref y_other, .ref y_prices, .ref y_now, .int (nI msd), .ref y_text, .int (nI mlen), .int (iI ((cX mLT mlen (cq mLT mlen mrc FG9 SC9 (w9, 0, mfa, mna)).2.1).2.2.1)), .int (nI (skipB mLT mlen aN)), .int (nI nuN), .int (nI naN), .int (nI mri.toNat), .ref y_readDays, .int (nI (mrc + 1)), .ref y_readSides, .ref y_readFigures, .int (nI mrp), .ref y_readOther, .ref y_readPrices, .int (nI mtp), .ref y_firstOf, .ref y_secondOf, .ref y_shown, .int (nI mun), .ref y_past, .ref y_choices, .int (nI mcm), .ref y_wanted, .int (nI mpm), .int (iI mpf), .int (nI mpo), .ref y_ways, .ref y_waysThen, .int (nI mwr), .ref y_wrongDay, .ref y_wrongShown, .ref y_could, .ref y_shownIn, .int (nI mbk), .ref y_book, .ref y_images, .ref y_isKept])), (y_text, .inl (D.2.1, 220, .inl (nA mLT))), (y_readSides, .inl (D.2.1, 4, .inl (nA RSv))), (y_readFigures, .inl (D.2.1, 24, .inl (nA RFv)))]) rfl rfl (cE (congrArg (fun z => ((mo, .inr (8, z)) : Nat × va_E)) (cE rfl (cE rfl (cE rfl (cE rfl (cE rfl (cE rfl (cE rfl (cE rfl (cE rfl (cE rfl (cE rfl (cE rfl (cE (congrArg Value.int (congrArg (fun z : Int => iI z) e_7)) (cE rfl (cE rfl (cE rfl (cE rfl (cE rfl (cE rfl (cE rfl (cE rfl (cE rfl (cE rfl (cE rfl (cE rfl (cE rfl (cE rfl (cE rfl (cE rfl (cE rfl (cE rfl (cE rfl (cE rfl (cE rfl (cE rfl (cE rfl (cE rfl (cE rfl (cE rfl (cE rfl (cE rfl (cE rfl (cE rfl (cE rfl (cE rfl (cE rfl (cE rfl rfl)))))))))))))))))))))))))))))))))))))))))))))))) (cE rfl (cE rfl (cE rfl rfl)))))
  exact L38_1 (6 - 1 + 1) 1 (cQ0 w9 mfa mna FG9 SC9) f1 (dgE mLT mlen (skipB mLT mlen (w9 + 1))) (numN mLT mlen (skipB mLT mlen (w9 + 1)) mnu) (numA mLT mlen (skipB mLT mlen (w9 + 1)) mna) (nfP mLT mlen (skipB mLT mlen (w9 + 1)) 9 mfa) (va_up mRS mrc 1) (va_up mRF (6 * mrc) (numN mLT mlen (skipB mLT mlen (w9 + 1)) mnu)) (by omega) (by omega) (by rfl) (by rfl) (by rfl) (by rw [show (cQ0 w9 mfa mna FG9 SC9).2.1 = (w9 + 1, 0, mfa, mna) from rfl, rnS_0]) (by rw [show (cQ0 w9 mfa mna FG9 SC9).2.1 = (w9 + 1, 0, mfa, mna) from rfl, rnS_0]; exact hf1) (by rw [show (cQ0 w9 mfa mna FG9 SC9).2.1 = (w9 + 1, 0, mfa, mna) from rfl, rnS_0]) (by exact fun k h9 => (va_up_ne _ _ (by omega)).trans (hRS k h9)) (by exact va_up_same _ _ _) (by exact hR30) (by omega) (by omega) (Nat.lt_succ_self _) _ _ hW _ (lv_sub hl [2, 1, 0] rfl)
