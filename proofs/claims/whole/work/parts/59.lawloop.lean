/-! the law's loop -/
theorem Inv2.up {D : KD} {a b : Nat → Nat} {jj : Nat} {wc wm : va_W} (h : Inv2 D a b jj wc wm) : Inv2 D a b (jj + 1) wc wm := by
  intro C9 k9
  exact h C9 (fun xfa len fa fn at_ na tu pd LT CF thd tlo te thn tcu tSC tFG tTV tPR nlost ncost ndr nNF uhd ulo ue uhn ucu uSC uFG uTV uPR psz pnx QL QC QD QF KP IL IC ID IF wn bn WD WS BK ic sn WY FP MD IK SI TW DB AD AL AH ST SG mto mat mnu mna mri mrc mrp mtp mcm mpm mpf mpo mSC mNW mRD mRS mRF mRO mRP mF1 mF2 mSH mPA mCH mWA mWY mWT mCO mSI mIM hwc hwm hD hS hP hI hN hQ hT => k9 xfa len fa fn at_ na tu pd LT CF thd tlo te thn tcu tSC tFG tTV tPR nlost ncost ndr nNF uhd ulo ue uhn ucu uSC uFG uTV uPR psz pnx QL QC QD QF KP IL IC ID IF wn bn WD WS BK ic sn WY FP MD IK SI TW DB AD AL AH ST SG mto mat mnu mna mri mrc mrp mtp mcm mpm mpf mpo mSC mNW mRD mRS mRF mRO mRP mF1 mF2 mSH mPA mCH mWA mWY mWT mCO mSI mIM hwc hwm hD hS.up hP.up hI.up hN hQ hT)
theorem i_and63 (x : Int32) : ∃ t, t < 64 ∧ x &&& nI 63 = nI t := by
  refine ⟨(x &&& nI 63).toBitVec.toNat, ?_, ?_⟩
  · rw [Int32.toBitVec_and, BitVec.toNat_and]
    exact Nat.lt_of_le_of_lt Nat.and_le_right (by decide)
  · apply Int32.toBitVec_inj.mp
    simp [nI]
theorem x_top2 {X : CX} {k n : Nat} {H : Heap} {locs : List Loc} {pc : Nat} {ls : Array Slot} {st : List Value} {v u : Int32} {w : Value} (h : v = u) (kk : Wx X k n H locs pc ls (w :: .int u :: st)) : Wx X k n H locs pc ls (w :: .int v :: st) := h ▸ kk
theorem lw_loop {X : CX} {k n : Nat} {D : KD} {A : Nat → Prop} {bS L : Nat} {xs : Nat → Int32} {a b : Nat → Nat} (hx : Ok X cL_law "CubeDaysLaw" 4 room_1 D) (hF : SF X A bS L xs) (hA : ∀ q : Nat, (cxS X).heap.size ≤ q → A q) (hkn : k ≤ room_1.cells ∧ n ≤ room_1.slots) (hret : ∀ (ls : Array Slot) (H : Heap) (locs : List Loc) (ws : va_W), Wd X D A ws H locs → Wx X k n H locs 988 ls [.int 1]) :
    ∀ (N jj : Nat) (wc wm : va_W) (H : Heap) (locs : List Loc) (ls : Array Slot), 65 ≤ jj + N → 4 * jj ≤ L → Inv2 D a b jj wc wm → Wd X D A (wc ++ wm) H locs → lv_has ls 4 (lw_lv bS (a 0) (b 0) (4 * jj)) → Wx X k n H locs 18 ls [] := by
  have hL := hF.2.2.2
  intro N
  induction N with
  | zero => intro jj wc wm H locs ls h1 h2; exact absurd h1 (by omega)
  | succ N ih =>
    intro jj wc wm H locs ls h1 h2 hI2 hW hl
    refine x_iload_n hx dL_law_18 hl 0 rfl ?_
    refine x_aload_n hx dL_law_19 hl 3 rfl ?_
    refine x_slen hx hF hW dL_law_20 ?_
    refine x_iconst (v := iI 4) hx dL_law_21 (iI_eq 4).symm ?_
    refine x_isub (v := iI ((L : Int) - 4)) hx dL_law_22 (by rw [nI_iI, iI_sub]) ?_
    refine x_top2 (nI_iI (4 * jj)) ?_
    refine x_icmp_gt_Z (tgt := 987) hx dL_law_23 (by decide) (by omega) (by omega) (fun _ => ?_) (fun h3 => ?_)
    · refine x_iconst (v := 1) hx dL_law_987 rfl ?_
      exact hret _ _ _ _ hW
    · have hj : jj < 64 := by omega
      have hi : 4 * jj + 3 < L := by omega
      have kk9 : ∀ (wc wm : va_W) (H : Heap) (locs : List Loc), Inv2 D a b (jj + 1) wc wm → Wd X D A (wc ++ wm) H locs → Wx X k n H locs 981 ls [] := by
        intro wc wm H locs hI2 hW
        refine x_iinc (v := nI (4 * (jj + 1))) (lv' := lw_lv bS (a 0) (b 0) (4 * (jj + 1))) hx dL_law_981 hl 0 rfl (nI_addc (4 * jj) 4) (by decide) rfl (fun ls hl => ?_)
        refine x_goto (tgt := 18) hx dL_law_984 (by decide) ?_
        exact ih (jj + 1) wc wm H locs ls (by omega) (by omega) hI2 hW hl
      refine x_aload_n hx dL_law_26 hl 3 rfl ?_
      refine x_iload_n hx dL_law_27 hl 0 rfl ?_
      refine x_sld hx hF hW (by omega) dL_law_28 ?_
      refine x_bipush (v := nI 63) hx dL_law_29 rfl ?_
      obtain ⟨t, ht, e⟩ := i_and63 (iI (xs (4 * jj)).toInt)
      refine x_iand (v := nI t) hx dL_law_31 e ?_
      rcases (show t = 0 ∨ t = 1 ∨ t = 2 ∨ t = 3 ∨ t = 4 ∨ t = 5 ∨ t = 6 ∨ t = 7 ∨ t = 8 ∨ t = 9 ∨ t = 10 ∨ t = 11 ∨ t = 12 ∨ t = 13 ∨ t = 14 ∨ t = 15 ∨ t = 16 ∨ t = 17 ∨ t = 18 ∨ t = 19 ∨ t = 20 ∨ t = 21 ∨ t = 22 ∨ t = 23 ∨ t = 24 ∨ t = 25 ∨ t = 26 ∨ t = 27 ∨ t = 28 ∨ t = 29 ∨ t = 30 ∨ t = 31 ∨ t = 32 ∨ 33 ≤ t by omega) with h | h | h | h | h | h | h | h | h | h | h | h | h | h | h | h | h | h | h | h | h | h | h | h | h | h | h | h | h | h | h | h | h | h
      · rw [h]; exact x_tswIn (off := 148) (tgt := 180) hx dL_law_32 (by decide) (by decide) (by decide) rfl (by decide) (lw_k_feed hx hF hA hj hi hI2 hW hl hkn kk9)
      · rw [h]; exact x_tswIn (off := 171) (tgt := 203) hx dL_law_32 (by decide) (by decide) (by decide) rfl (by decide) (lw_k_desk hx hF hA hj hi hI2 hW hl hkn kk9)
      · rw [h]; exact x_tswIn (off := 184) (tgt := 216) hx dL_law_32 (by decide) (by decide) (by decide) rfl (by decide) (lw_k_fault hx hF hA hj hi hI2 hW hl hkn kk9)
      · rw [h]; exact x_tswIn (off := 197) (tgt := 229) hx dL_law_32 (by decide) (by decide) (by decide) rfl (by decide) (lw_k_told hx hF hA hj hi hI2 hW hl hkn kk9)
      · rw [h]; exact x_tswIn (off := 220) (tgt := 252) hx dL_law_32 (by decide) (by decide) (by decide) rfl (by decide) (lw_k_side hx hF hA hj hi hI2 hW hl hkn kk9)
      · rw [h]; exact x_tswIn (off := 253) (tgt := 285) hx dL_law_32 (by decide) (by decide) (by decide) rfl (by decide) (lw_k_turned hx hF hA hj hi hI2 hW hl hkn kk9)
      · rw [h]; exact x_tswIn (off := 276) (tgt := 308) hx dL_law_32 (by decide) (by decide) (by decide) rfl (by decide) (lw_k_shows hx hF hA hj hi hI2 hW hl hkn kk9)
      · rw [h]; exact x_tswIn (off := 299) (tgt := 331) hx dL_law_32 (by decide) (by decide) (by decide) rfl (by decide) (lw_k_paint hx hF hA hj hi hI2 hW hl hkn kk9)
      · rw [h]; exact x_tswIn (off := 342) (tgt := 374) hx dL_law_32 (by decide) (by decide) (by decide) rfl (by decide) (lw_k_lose hx hF hA hj hi hI2 hW hl hkn kk9)
      · rw [h]; exact x_tswIn (off := 391) (tgt := 423) hx dL_law_32 (by decide) (by decide) (by decide) rfl (by decide) (lw_k_drift hx hF hA hj hi hI2 hW hl hkn kk9)
      · rw [h]; exact x_tswIn (off := 414) (tgt := 446) hx dL_law_32 (by decide) (by decide) (by decide) rfl (by decide) (lw_k_undo hx hF hA hj hi hI2 hW hl hkn kk9)
      · rw [h]; exact x_tswIn (off := 427) (tgt := 459) hx dL_law_32 (by decide) (by decide) (by decide) rfl (by decide) (lw_k_shown hx hF hA hj hi hI2 hW hl hkn kk9)
      · rw [h]; exact x_tswIn (off := 460) (tgt := 492) hx dL_law_32 (by decide) (by decide) (by decide) rfl (by decide) (lw_k_days hx hF hA hj hi hI2 hW hl hkn kk9)
      · rw [h]; exact x_tswIn (off := 473) (tgt := 505) hx dL_law_32 (by decide) (by decide) (by decide) rfl (by decide) (lw_k_gap hx hF hA hj hi hI2 hW hl hkn kk9)
      · rw [h]; exact x_tswIn (off := 486) (tgt := 518) hx dL_law_32 (by decide) (by decide) (by decide) rfl (by decide) (lw_k_must hx hF hA hj hi hI2 hW hl hkn kk9)
      · rw [h]; exact x_tswIn (off := 509) (tgt := 541) hx dL_law_32 (by decide) (by decide) (by decide) rfl (by decide) (lw_k_search hx hF hA hj hi hI2 hW hl hkn kk9)
      · rw [h]; exact x_tswIn (off := 542) (tgt := 574) hx dL_law_32 (by decide) (by decide) (by decide) rfl (by decide) (lw_k_most hx hF hA hj hi hI2 hW hl hkn kk9)
      · rw [h]; exact x_tswIn (off := 565) (tgt := 597) hx dL_law_32 (by decide) (by decide) (by decide) rfl (by decide) (lw_k_gone hx hF hA hj hi hI2 hW hl hkn kk9)
      · rw [h]; exact x_tswIn (off := 598) (tgt := 630) hx dL_law_32 (by decide) (by decide) (by decide) rfl (by decide) (lw_k_worst hx hF hA hj hi hI2 hW hl hkn kk9)
      · rw [h]; exact x_tswIn (off := 611) (tgt := 643) hx dL_law_32 (by decide) (by decide) (by decide) rfl (by decide) (lw_k_instead hx hF hA hj hi hI2 hW hl hkn kk9)
      · rw [h]; exact x_tswIn (off := 644) (tgt := 676) hx dL_law_32 (by decide) (by decide) (by decide) rfl (by decide) (lw_k_board hx hF hA hj hi hI2 hW hl hkn kk9)
      · rw [h]; exact x_tswIn (off := 677) (tgt := 709) hx dL_law_32 (by decide) (by decide) (by decide) rfl (by decide) (lw_k_sums hx hF hA hj hi hI2 hW hl hkn kk9)
      · rw [h]; exact x_tswIn (off := 700) (tgt := 732) hx dL_law_32 (by decide) (by decide) (by decide) rfl (by decide) (lw_k_price hx hF hA hj hi hI2 hW hl hkn kk9)
      · rw [h]; exact x_tswIn (off := 723) (tgt := 755) hx dL_law_32 (by decide) (by decide) (by decide) rfl (by decide) (lw_k_cheapest hx hF hA hj hi hI2 hW hl hkn kk9)
      · rw [h]; exact x_tswIn (off := 746) (tgt := 778) hx dL_law_32 (by decide) (by decide) (by decide) rfl (by decide) (lw_k_wrong hx hF hA hj hi hI2 hW hl hkn kk9)
      · rw [h]; exact x_tswIn (off := 795) (tgt := 827) hx dL_law_32 (by decide) (by decide) (by decide) rfl (by decide) (lw_k_paintedOver hx hF hA hj hi hI2 hW hl hkn kk9)
      · rw [h]; exact x_tswIn (off := 818) (tgt := 850) hx dL_law_32 (by decide) (by decide) (by decide) rfl (by decide) (lw_k_lookOn hx hF hA hj hi hI2 hW hl hkn kk9)
      · rw [h]; exact x_tswIn (off := 831) (tgt := 863) hx dL_law_32 (by decide) (by decide) (by decide) rfl (by decide) (lw_k_write hx hF hA hj hi hI2 hW hl hkn kk9)
      · rw [h]; exact x_tswIn (off := 854) (tgt := 886) hx dL_law_32 (by decide) (by decide) (by decide) rfl (by decide) (lw_k_tear hx hF hA hj hi hI2 hW hl hkn kk9)
      · rw [h]; exact x_tswIn (off := 867) (tgt := 899) hx dL_law_32 (by decide) (by decide) (by decide) rfl (by decide) (lw_k_judge hx hF hA hj hi hI2 hW hl hkn kk9)
      · rw [h]; exact x_tswIn (off := 880) (tgt := 912) hx dL_law_32 (by decide) (by decide) (by decide) rfl (by decide) (lw_k_seed hx hF hA hj hi hI2 hW hl hkn kk9)
      · rw [h]; exact x_tswIn (off := 903) (tgt := 935) hx dL_law_32 (by decide) (by decide) (by decide) rfl (by decide) (lw_k_keep hx hF hA hj hi hI2 hW hl hkn kk9)
      · rw [h]; exact x_tswIn (off := 926) (tgt := 958) hx dL_law_32 (by decide) (by decide) (by decide) rfl (by decide) (lw_k_goBack hx hF hA hj hi hI2 hW hl hkn kk9)
      · rw [nI_iI]; exact x_tswOut (tgt := 981) hx dL_law_32 (by omega) (Or.inr (by omega)) (by decide) (kk9 wc wm H locs hI2.up hW)
