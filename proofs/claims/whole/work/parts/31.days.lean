/-! the reference: how a day is shown -/
def canB (tw : Bool) (sh : Nat → Nat) (d : Nat) : Bool := if tw then canM (cfOf sh (d / 10)) (cfOf sh (d % 10)) else decide (cfOf sh (d % 10) ≠ 0)
theorem canS_B (hn : Bool) (e : Nat) (sh : Nat → Nat) (d : Nat) : canS hn e sh d = canB (hasTwo hn e d) sh d := rfl
def howS (tw : Bool) (sh : Nat → Nat) (d : Nat) : Int :=
  if canB tw sh d then (if tw then ((4 * lowB (takM (cfOf sh (d / 10)) (cfOf sh (d % 10))) + lowB (bclr (cfOf sh (d % 10)) (takM (cfOf sh (d / 10)) (cfOf sh (d % 10)))) : Nat) : Int) else ((4 * lowB (cfOf sh (d % 10)) : Nat) : Int)) else -1
def hwTo (p : Nat → Bool) : Nat → Nat → Int
  | _, 0 => -1
  | k, n + 1 => if p k then (k : Int) else hwTo p (k + 1) n
theorem hwTo_y {p : Nat → Bool} {k m : Nat} (h : k < m) (hp : p k = true) : hwTo p k (m - k) = (k : Int) := by
  rw [show m - k = (m - (k + 1)) + 1 by omega, hwTo, if_pos hp]
theorem hwTo_n {p : Nat → Bool} {k m : Nat} (h : k < m) (hp : p k = false) : hwTo p k (m - k) = hwTo p (k + 1) (m - (k + 1)) := by
  rw [show m - k = (m - (k + 1)) + 1 by omega, hwTo, hp]; rfl
theorem hwTo_e {p : Nat → Bool} {k m : Nat} (h : m ≤ k) : hwTo p k (m - k) = -1 := by
  rw [show m - k = 0 by omega, hwTo]
def hwP (tw : Bool) (sh : Nat → Nat) (d k : Nat) : Bool := if tw then (decide (¬ k / 4 = k % 4) && ((sh (k / 4)).testBit (d / 10) && (sh (k % 4)).testBit (d % 10))) else (decide (k % 4 = 0) && (sh (k / 4)).testBit (d % 10))
def hwQ (a0 a1 a2 a3 b0 b1 b2 b3 : Bool) (k : Nat) : Bool := decide (¬ k / 4 = k % 4) && ((if k / 4 = 0 then a0 else if k / 4 = 1 then a1 else if k / 4 = 2 then a2 else a3) && (if k % 4 = 0 then b0 else if k % 4 = 1 then b1 else if k % 4 = 2 then b2 else b3))
theorem hwTo_cong {p q : Nat → Bool} : ∀ (n k : Nat), (∀ i, k ≤ i → i < k + n → p i = q i) → hwTo p k n = hwTo q k n
  | 0, _, _ => rfl
  | n + 1, k, h => by
    simp only [hwTo]
    rw [h k (Nat.le_refl _) (by omega), hwTo_cong n (k + 1) (fun i h1 h2 => h i (by omega) (by omega))]
def mk4 (a0 a1 a2 a3 : Bool) : Nat := a0.toNat + 2 * a1.toNat + 4 * a2.toNat + 8 * a3.toNat
theorem hw_2 : ∀ a0 a1 a2 a3 b0 b1 b2 b3 : Bool, hwTo (hwQ a0 a1 a2 a3 b0 b1 b2 b3) 0 16 = if canM (mk4 a0 a1 a2 a3) (mk4 b0 b1 b2 b3) then ((4 * lowB (takM (mk4 a0 a1 a2 a3) (mk4 b0 b1 b2 b3)) + lowB (bclr (mk4 b0 b1 b2 b3) (takM (mk4 a0 a1 a2 a3) (mk4 b0 b1 b2 b3))) : Nat) : Int) else -1 := by decide +kernel
def hwQ1 (b0 b1 b2 b3 : Bool) (k : Nat) : Bool := decide (k % 4 = 0) && (if k / 4 = 0 then b0 else if k / 4 = 1 then b1 else if k / 4 = 2 then b2 else b3)
theorem hw_1 : ∀ b0 b1 b2 b3 : Bool, hwTo (hwQ1 b0 b1 b2 b3) 0 16 = if decide (mk4 b0 b1 b2 b3 ≠ 0) then ((4 * lowB (mk4 b0 b1 b2 b3) : Nat) : Int) else -1 := by decide +kernel
theorem pick4 (f : Nat → Bool) {i : Nat} (h : i < 4) : f i = if i = 0 then f 0 else if i = 1 then f 1 else if i = 2 then f 2 else f 3 := by
  rcases (show i = 0 ∨ i = 1 ∨ i = 2 ∨ i = 3 by omega) with rfl | rfl | rfl | rfl <;> rfl
theorem hw_eq (tw : Bool) (sh : Nat → Nat) (d : Nat) : howS tw sh d = hwTo (hwP tw sh d) 0 16 := by
  cases tw with
  | true =>
    rw [hwTo_cong (q := hwQ ((sh 0).testBit (d / 10)) ((sh 1).testBit (d / 10)) ((sh 2).testBit (d / 10)) ((sh 3).testBit (d / 10)) ((sh 0).testBit (d % 10)) ((sh 1).testBit (d % 10)) ((sh 2).testBit (d % 10)) ((sh 3).testBit (d % 10))) 16 0 (fun i _ h2 => by
      simp only [hwP, hwQ, if_true]
      rw [pick4 (fun j => (sh j).testBit (d / 10)) (show i / 4 < 4 by omega), pick4 (fun j => (sh j).testBit (d % 10)) (show i % 4 < 4 by omega)]), hw_2]
    rfl
  | false =>
    rw [hwTo_cong (q := hwQ1 ((sh 0).testBit (d % 10)) ((sh 1).testBit (d % 10)) ((sh 2).testBit (d % 10)) ((sh 3).testBit (d % 10))) 16 0 (fun i _ h2 => by
      simp only [hwP, hwQ1, Bool.false_eq_true, if_false]
      rw [pick4 (fun j => (sh j).testBit (d % 10)) (show i / 4 < 4 by omega)]), hw_1]
    rfl
theorem hwTo_rng {p : Nat → Bool} : ∀ (n k : Nat), hwTo p k n = -1 ∨ (0 ≤ hwTo p k n ∧ hwTo p k n < ((k + n : Nat) : Int))
  | 0, _ => Or.inl rfl
  | n + 1, k => by
    simp only [hwTo]
    split
    · right; omega
    · rcases hwTo_rng (p := p) n (k + 1) with h | h
      · exact Or.inl h
      · right; omega
theorem howS_rng (tw : Bool) (sh : Nat → Nat) (d : Nat) : -1 ≤ howS tw sh d ∧ howS tw sh d < 16 := by
  rw [hw_eq]
  rcases hwTo_rng (p := hwP tw sh d) 16 0 with h | h <;> omega
theorem howS_y {tw : Bool} {sh : Nat → Nat} {d : Nat} (h : 0 ≤ howS tw sh d) : canB tw sh d = true := by
  cases hc : canB tw sh d with
  | true => rfl
  | false => simp [howS, hc] at h
theorem howS_n {tw : Bool} {sh : Nat → Nat} {d : Nat} (h : howS tw sh d < 0) : canB tw sh d = false := by
  cases hc : canB tw sh d with
  | false => rfl
  | true =>
    exfalso
    unfold howS at h
    rw [hc] at h
    cases tw <;> simp at h <;> omega
theorem howS_c (tw : Bool) (sh : Nat → Nat) (d : Nat) : (canB tw sh d = true ∧ 0 ≤ howS tw sh d) ∨ (canB tw sh d = false ∧ howS tw sh d = -1) := by
  cases hc : canB tw sh d with
  | false => exact Or.inr ⟨rfl, by simp [howS, hc]⟩
  | true =>
    left
    refine ⟨rfl, ?_⟩
    rcases Int.lt_or_le (howS tw sh d) 0 with h | h
    · have := howS_n h; rw [hc] at this; cases this
    · exact h
theorem lowB_4 : ∀ m, m < 16 → 0 < m → lowB m < 4 := by decide
theorem howS_d {tw : Bool} {sh : Nat → Nat} {d m : Nat} (hd : d < 100) (hc : canB tw sh d = true) (hm : howS tw sh d = (m : Int)) : m / 4 = (if tw then lowB (takM (cfOf sh (d / 10)) (cfOf sh (d % 10))) else lowB (cfOf sh (d % 10))) ∧ m % 4 = (if tw then lowB (bclr (cfOf sh (d % 10)) (takM (cfOf sh (d / 10)) (cfOf sh (d % 10)))) else 0) := by
  unfold howS at hm
  rw [if_pos hc] at hm
  cases tw with
  | true =>
    simp only [if_true] at hm ⊢
    have hk := tak_ok _ (cfOf_b sh (d / 10) (by omega)) _ (cfOf_b sh (d % 10) (by omega)) hc
    have h2 := lowB_4 _ hk.2.2.2 hk.2.2.1
    omega
  | false =>
    simp only [Bool.false_eq_true, if_false] at hm ⊢
    omega
/-- the places of the days below e -/
def plOk (hn : Bool) (e : Nat) (F1 : Nat → Nat) (F2 : Nat → Int) : Prop := ∀ d, d < e → F1 d = (if hasTwo hn e d then d / 10 else d) ∧ F2 d = (if hasTwo hn e d then ((d % 10 : Nat) : Int) else -1)
theorem shF_m {hn : Bool} {e : Nat} {sh : Nat → Nat} {d m : Nat} (hd : d < 100) (hc : canB (hasTwo hn e d) sh d = true) (hm : howS (hasTwo hn e d) sh d = (m : Int)) (w : Int) : shownF hn e sh d w = if w = -1 then 1 else if w = 0 then ((m / 4 : Nat) : Int) else if w = 1 then (if hasTwo hn e d = true then ((m % 4 : Nat) : Int) else -1) else -1 := by
  have h := howS_d hd hc hm
  have hcS : canS hn e sh d = true := hc
  unfold shownF cubeS
  rw [hcS, h.1, h.2]
  cases hasTwo hn e d <;> simp <;> (repeat' split) <;> first | rfl | omega | simp_all
theorem shF_n {hn : Bool} {e : Nat} {sh : Nat → Nat} {d : Nat} (hc : canS hn e sh d = false) (w : Int) : shownF hn e sh d w = if w = -1 then 0 else -1 := by
  unfold shownF
  rw [hc]; simp
theorem two_f {hn : Bool} {e d : Nat} (hd : d < e) (h : hasTwo hn e d = false) : d < 10 := by
  unfold hasTwo at h
  cases hn <;> simp at h <;> omega
theorem shM_lt {TV SC NW : Nat → Nat} {cu : Nat} (hS : ∀ k, k < 4 → SC k < 7) (hT : ∀ k, k < 10 → TV k < 10) (hN : ∀ k, k < 24 → NW k < 11) : ∀ k, k < 4 → shM TV SC NW cu k < 1024 := by
  intro k hk
  unfold shM
  split
  · exact seenM_lt hT hN hk _ (by have := hS k hk; omega)
  · decide
set_option maxHeartbeats 4000000 in
set_option maxRecDepth 100000 in
theorem c_X8_howShown_t (l : Launch) (D : KD) (mo : Nat) (mhd : Bool) (mlo : Nat) (mto : Nat) (mhn : Bool) (mcu : Nat) (y_sides : Nat) (y_other : Nat) (y_prices : Nat) (y_now : Nat) (msd : Nat) (y_text : Nat) (mlen : Nat) (mfa : Int) (mat : Nat) (mnu : Nat) (mna : Nat) (mri : Bool) (y_readDays : Nat) (mrc : Nat) (y_readSides : Nat) (y_readFigures : Nat) (mrp : Nat) (y_readOther : Nat) (y_readPrices : Nat) (mtp : Nat) (y_firstOf : Nat) (y_secondOf : Nat) (y_shown : Nat) (mun : Nat) (y_past : Nat) (y_choices : Nat) (mcm : Nat) (y_wanted : Nat) (mpm : Nat) (mpf : Int) (mpo : Nat) (y_ways : Nat) (y_waysThen : Nat) (mwr : Nat) (y_wrongDay : Nat) (y_wrongShown : Nat) (y_could : Nat) (y_shownIn : Nat) (mbk : Nat) (y_book : Nat) (y_images : Nat) (y_isKept : Nat) (mF1 : Nat → Nat) (mF2 : Nat → Int) (mSH : Nat → Nat) (d : Nat) (hd : d < 100) (hSH : ∀ k, k < 4 → mSH k < 1024) (hF1 : mF1 d = d / 10) (hF2 : mF2 d = ((d % 10 : Nat) : Int)) : cR l yX8_howShown cX8_howShown 7 (some .int) rm_X8_howShown D [(mo, .inr (8, [.int (nI mhd.toNat), .int (nI mlo), .int (nI mto), .int (nI mhn.toNat), .int (nI mcu), .ref y_sides, .ref y_other, .ref y_prices, .ref y_now, .int (nI msd), .ref y_text, .int (nI mlen), .int (iI mfa), .int (nI mat), .int (nI mnu), .int (nI mna), .int (nI mri.toNat), .ref y_readDays, .int (nI mrc), .ref y_readSides, .ref y_readFigures, .int (nI mrp), .ref y_readOther, .ref y_readPrices, .int (nI mtp), .ref y_firstOf, .ref y_secondOf, .ref y_shown, .int (nI mun), .ref y_past, .ref y_choices, .int (nI mcm), .ref y_wanted, .int (nI mpm), .int (iI mpf), .int (nI mpo), .ref y_ways, .ref y_waysThen, .int (nI mwr), .ref y_wrongDay, .ref y_wrongShown, .ref y_could, .ref y_shownIn, .int (nI mbk), .ref y_book, .ref y_images, .ref y_isKept])), (y_firstOf, .inl (D.2.1, 100, .inl (nA mF1))), (y_secondOf, .inl (D.2.1, 100, .inl (zA mF2))), (y_shown, .inl (D.2.1, 4, .inl (nA mSH)))] [.ref mo, .int (nI d)] (iI (howS true mSH d)) := by
  refine cR.mk (by decide) (retI _) (Nat.le_of_ble_eq_true rfl) ?_
  intro X hx hL hP hret ls hl
  subst hL
  have hl : lv_has ls 7 [(0, .ref mo), (1, .int (nI d))] := hl
  refine x_iconst (v := nI 0) hx dX8_howShown_0 (by decide) ?_
  refine x_istore_n (lv' := [(2, .int (nI 0)), (0, .ref mo), (1, .int (nI d))]) hx dX8_howShown_1 hl (Nat.le_of_ble_eq_true rfl) rfl (fun ls hl => ?_)
  have L2_1 : ∀ (L2_1n : Nat) (k9 : Nat), (k9 ≤ 16) → (howS true mSH d = hwTo (hwP true mSH d) k9 (16 - k9)) → 16 - k9 < L2_1n → ∀ ls : Array Slot, lv_has ls 7 [(0, .ref mo), (1, .int (nI d)), (2, .int (nI k9))] → Wx X 0 0 (cxS X).heap [] 2 ls [] := by
    intro L2_1n
    induction L2_1n with
    | zero =>
      intro k9 h1 h2 hm
      exact absurd hm (Nat.not_lt_zero _)
    | succ L2_1n ihL2_1 =>
      intro k9 h1 h2 hm ls hl
      refine x_iload_n hx dX8_howShown_2 hl 2 rfl ?_
      refine x_bipush (v := nI 16) hx dX8_howShown_3 (by decide) ?_
      refine x_icmp_ge_N (a := k9) (b := 16) (tgt := 133) hx dX8_howShown_5 (by decide) (by omega) (by omega) (fun h_2 => ?_) (fun h_2 => ?_)
      · refine x_iconst (v := iI (-1)) hx dX8_howShown_133 (by decide) ?_
        exact hret _ _ _ dX8_howShown_134 (by rw [h2, hwTo_e (by omega)])
      · refine x_iload_n hx dX8_howShown_8 hl 2 rfl ?_
        refine x_iconst (v := nI 4) hx dX8_howShown_9 (by decide) ?_
        refine x_idiv (v := nI (k9 / 4)) hx dX8_howShown_10 (by decide) (pk_div (by omega) (by omega) (by omega)) ?_
        refine x_istore_n (lv' := [(3, .int (nI (k9 / 4))), (0, .ref mo), (1, .int (nI d)), (2, .int (nI k9))]) hx dX8_howShown_11 hl (Nat.le_of_ble_eq_true rfl) rfl (fun ls hl => ?_)
        refine x_iload_n hx dX8_howShown_12 hl 3 rfl ?_
        refine x_iconst (v := nI 4) hx dX8_howShown_13 (by decide) ?_
        refine x_irem (v := nI (k9 % 4)) hx dX8_howShown_14 (by decide) (pk_rem (by omega) (by omega) (by omega)) ?_
        refine x_istore (lv' := [(4, .int (nI (k9 % 4))), (3, .int (nI (k9 / 4))), (0, .ref mo), (1, .int (nI d)), (2, .int (nI k9))]) hx dX8_howShown_15 hl (Nat.le_of_ble_eq_true rfl) rfl (fun ls hl => ?_)
        refine x_aload_n hx dX8_howShown_17 hl 2 rfl ?_
        refine x_get8 hx hP 0 rfl 26 (Nat.le_of_ble_eq_true rfl) wf_RX8_47 rfl dX8_howShown_18 ?_
        refine x_iload_n hx dX8_howShown_21 hl 3 rfl ?_
        have hj_22 : d < 100 := by omega
        refine x_iald (v := iI (mF2 d)) hx hP 2 rfl hj_22 (by decide) (rfl) dX8_howShown_22 ?_
        refine x_if_ge_Z (a := (mF2 d)) (tgt := 53) hx dX8_howShown_23 (by decide) (by omega) (fun h_3 => ?_) (fun h_3 => ?_)
        · refine x_iconst (v := nI 0) hx dX8_howShown_53 (by decide) ?_
          refine x_istore (lv' := [(5, .int (nI 0)), (4, .int (nI (k9 % 4))), (3, .int (nI (k9 / 4))), (0, .ref mo), (1, .int (nI d)), (2, .int (nI k9))]) hx dX8_howShown_54 hl (Nat.le_of_ble_eq_true rfl) rfl (fun ls hl => ?_)
          refine x_aload_n hx dX8_howShown_56 hl 3 rfl ?_
          refine x_get8 hx hP 0 rfl 26 (Nat.le_of_ble_eq_true rfl) wf_RX8_47 rfl dX8_howShown_57 ?_
          refine x_iload_n hx dX8_howShown_60 hl 4 rfl ?_
          have hj_61 : d < 100 := by omega
          refine x_iald (v := iI (mF2 d)) hx hP 2 rfl hj_61 (by decide) (rfl) dX8_howShown_61 ?_
          refine x_if_lt_Z (a := (mF2 d)) (tgt := 112) hx dX8_howShown_62 (by decide) (by omega) (fun h_4 => ?_) (fun h_4 => ?_)
          · omega
          · refine x_iload_n hx dX8_howShown_65 hl 2 rfl ?_
            refine x_iload hx dX8_howShown_66 hl 1 rfl ?_
            have J113_5 : ∀ (bb : Bool), (bb = hwP true mSH d k9) → ∀ ls : Array Slot, lv_has ls 7 [(0, .ref mo), (1, .int (nI d)), (2, .int (nI k9)), (3, .int (nI (k9 / 4))), (4, .int (nI (k9 % 4))), (5, .int (nI 0))] → Wx X 0 0 (cxS X).heap [] 113 ls [.int (nI bb.toNat)] := by
              intro bb hbb ls hl
              refine x_istore (lv' := [(6, .int (nI bb.toNat)), (0, .ref mo), (1, .int (nI d)), (2, .int (nI k9)), (3, .int (nI (k9 / 4))), (4, .int (nI (k9 % 4))), (5, .int (nI 0))]) hx dX8_howShown_113 hl (Nat.le_of_ble_eq_true rfl) rfl (fun ls hl => ?_)
              refine x_iload hx dX8_howShown_115 hl 6 rfl ?_
              refine x_if_ne_N (a := 0) (tgt := 125) hx dX8_howShown_117 (by decide) (by omega) (fun h_6 => ?_) (fun h_6 => ?_)
              · omega
              · refine x_iload hx dX8_howShown_120 hl 0 rfl ?_
                refine x_if_eq_B (tgt := 127) hx dX8_howShown_122 (by decide) (fun h_7 => ?_) (fun h_7 => ?_)
                · refine x_iinc (v := nI (k9 + 1)) (lv' := [(2, .int (nI (k9 + 1))), (6, .int (nI bb.toNat)), (0, .ref mo), (1, .int (nI d)), (3, .int (nI (k9 / 4))), (4, .int (nI (k9 % 4))), (5, .int (nI 0))]) hx dX8_howShown_127 hl 3 rfl (nI_addc k9 1) (Nat.le_of_ble_eq_true rfl) rfl (fun ls hl => ?_)
                  refine x_goto (tgt := 2) hx dX8_howShown_130 (by decide) ?_
                  have e_8 : (k9 + 1 : Nat) = (k9 + 1) := by
                    first | rfl | omega | (simp [*]; done) | (simp [*]; omega)
                  exact ihL2_1 (k9 + 1) (by first | assumption | omega | (simp [*]; done)) (by first | exact hw_eq _ _ _ | exact h2.trans (hwTo_n (by omega) (by rw [← hbb]; assumption))) (by omega) _ (lv_to (l := [(0, .ref mo), (1, .int (nI d)), (2, .int (nI (k9 + 1)))]) (l2 := [(0, .ref mo), (1, .int (nI d)), (2, .int (nI (k9 + 1)))]) (lv_sub hl [2, 3, 0] rfl) (cE rfl (cE rfl (cE (congrArg (fun z => ((2, Value.int z) : Nat × Value)) (congrArg (fun z : Nat => nI z) e_8)) rfl))))
                · refine x_iload_n hx dX8_howShown_125 hl 3 rfl ?_
                  exact hret _ _ _ dX8_howShown_126 (by rw [h2, hwTo_y (by omega) (by rw [← hbb]; assumption)]; rfl)
            refine x_icmp_eq_N (a := (k9 / 4)) (b := (k9 % 4)) (tgt := 112) hx dX8_howShown_68 (by decide) (by omega) (by omega) (fun h_9 => ?_) (fun h_9 => ?_)
            · refine x_iconst (v := nI 0) hx dX8_howShown_112 (by decide) ?_
              -- stack differs: .int (nI false.toNat) / .int (nI 0)
              exact J113_5 false (by first | (simp [hwP, *]; done) | (simp [hwP]; omega)) _ (lv_sub hl [3, 4, 5, 2, 1, 0] rfl)
            · refine x_aload_n hx dX8_howShown_71 hl 3 rfl ?_
              refine x_get8 hx hP 0 rfl 27 (Nat.le_of_ble_eq_true rfl) wf_RX8_50 rfl dX8_howShown_72 ?_
              refine x_iload_n hx dX8_howShown_75 hl 2 rfl ?_
              have hj_76 : k9 / 4 < 4 := by omega
              refine x_iald (v := nI (mSH (k9 / 4))) hx hP 3 rfl hj_76 (by decide) (rfl) dX8_howShown_76 ?_
              have b_10 := hSH (k9 / 4) hj_76
              refine x_aload_n hx dX8_howShown_77 hl 3 rfl ?_
              refine x_get8 hx hP 0 rfl 25 (Nat.le_of_ble_eq_true rfl) wf_RX8_44 rfl dX8_howShown_78 ?_
              refine x_iload_n hx dX8_howShown_81 hl 4 rfl ?_
              have hj_82 : d < 100 := by omega
              refine x_iald (v := nI (mF1 d)) hx hP 1 rfl hj_82 (by decide) (rfl) dX8_howShown_82 ?_
              refine x_top (u := nI (d / 10)) (congrArg nI hF1) ?_
              refine x_callRS (As := [.int (nI (mSH (k9 / 4))), .int (nI (d / 10))]) (rest := []) hx yv_X8_has (c_X8_has _ D (mSH (k9 / 4)) (d / 10) (by first | assumption | omega | (simp [*]; done)) (by first | assumption | omega | (simp [*]; done))) wm_RX8_97 hP [] rfl ⟨rfl, rfl⟩ ⟨Nat.le_of_ble_eq_true rfl, Nat.le_of_ble_eq_true rfl⟩ ⟨Nat.zero_le _, Nat.zero_le _⟩ hl rfl rfl (Nat.le_of_ble_eq_true rfl) dX8_howShown_83 ?_
              refine x_if_eq_B (tgt := 112) hx dX8_howShown_86 (by decide) (fun h_11 => ?_) (fun h_11 => ?_)
              · refine x_iconst (v := nI 0) hx dX8_howShown_112 (by decide) ?_
                -- stack differs: .int (nI false.toNat) / .int (nI 0)
                exact J113_5 false (by first | (simp [hwP, *]; done) | (simp [hwP]; omega)) _ (lv_sub hl [3, 4, 5, 2, 1, 0] rfl)
              · refine x_aload_n hx dX8_howShown_89 hl 3 rfl ?_
                refine x_get8 hx hP 0 rfl 27 (Nat.le_of_ble_eq_true rfl) wf_RX8_50 rfl dX8_howShown_90 ?_
                refine x_iload hx dX8_howShown_93 hl 1 rfl ?_
                have hj_95 : k9 % 4 < 4 := by omega
                refine x_iald (v := nI (mSH (k9 % 4))) hx hP 3 rfl hj_95 (by decide) (rfl) dX8_howShown_95 ?_
                have b_12 := hSH (k9 % 4) hj_95
                refine x_aload_n hx dX8_howShown_96 hl 3 rfl ?_
                refine x_get8 hx hP 0 rfl 26 (Nat.le_of_ble_eq_true rfl) wf_RX8_47 rfl dX8_howShown_97 ?_
                refine x_iload_n hx dX8_howShown_100 hl 4 rfl ?_
                have hj_101 : d < 100 := by omega
                refine x_iald (v := iI (mF2 d)) hx hP 2 rfl hj_101 (by decide) (rfl) dX8_howShown_101 ?_
                refine x_top (u := nI (d % 10)) (by rw [hF2]; rfl) ?_
                refine x_callRS (As := [.int (nI (mSH (k9 % 4))), .int (nI (d % 10))]) (rest := []) hx yv_X8_has (c_X8_has _ D (mSH (k9 % 4)) (d % 10) (by first | assumption | omega | (simp [*]; done)) (by first | assumption | omega | (simp [*]; done))) wm_RX8_97 hP [] rfl ⟨rfl, rfl⟩ ⟨Nat.le_of_ble_eq_true rfl, Nat.le_of_ble_eq_true rfl⟩ ⟨Nat.zero_le _, Nat.zero_le _⟩ hl rfl rfl (Nat.le_of_ble_eq_true rfl) dX8_howShown_102 ?_
                refine x_if_eq_B (tgt := 112) hx dX8_howShown_105 (by decide) (fun h_13 => ?_) (fun h_13 => ?_)
                · refine x_iconst (v := nI 0) hx dX8_howShown_112 (by decide) ?_
                  -- stack differs: .int (nI false.toNat) / .int (nI 0)
                  exact J113_5 false (by first | (simp [hwP, *]; done) | (simp [hwP]; omega)) _ (lv_sub hl [3, 4, 5, 2, 1, 0] rfl)
                · refine x_iconst (v := nI 1) hx dX8_howShown_108 (by decide) ?_
                  refine x_goto (tgt := 113) hx dX8_howShown_109 (by decide) ?_
                  -- stack differs: .int (nI true.toNat) / .int (nI 1)
                  exact J113_5 true (by first | (simp [hwP, *]; done) | (simp [hwP]; omega)) _ (lv_sub hl [3, 4, 5, 2, 1, 0] rfl)
        · omega
  exact L2_1 (16 - 0 + 1) 0 (by first | assumption | omega | (simp [*]; done)) (by first | exact hw_eq _ _ _ | exact h2.trans (hwTo_n (by omega) (by rw [← hbb]; assumption))) (Nat.lt_succ_self _) _ (lv_sub hl [1, 2, 0] rfl)
set_option maxHeartbeats 4000000 in
set_option maxRecDepth 100000 in
theorem c_X8_howShown_f (l : Launch) (D : KD) (mo : Nat) (mhd : Bool) (mlo : Nat) (mto : Nat) (mhn : Bool) (mcu : Nat) (y_sides : Nat) (y_other : Nat) (y_prices : Nat) (y_now : Nat) (msd : Nat) (y_text : Nat) (mlen : Nat) (mfa : Int) (mat : Nat) (mnu : Nat) (mna : Nat) (mri : Bool) (y_readDays : Nat) (mrc : Nat) (y_readSides : Nat) (y_readFigures : Nat) (mrp : Nat) (y_readOther : Nat) (y_readPrices : Nat) (mtp : Nat) (y_firstOf : Nat) (y_secondOf : Nat) (y_shown : Nat) (mun : Nat) (y_past : Nat) (y_choices : Nat) (mcm : Nat) (y_wanted : Nat) (mpm : Nat) (mpf : Int) (mpo : Nat) (y_ways : Nat) (y_waysThen : Nat) (mwr : Nat) (y_wrongDay : Nat) (y_wrongShown : Nat) (y_could : Nat) (y_shownIn : Nat) (mbk : Nat) (y_book : Nat) (y_images : Nat) (y_isKept : Nat) (mF1 : Nat → Nat) (mF2 : Nat → Int) (mSH : Nat → Nat) (d : Nat) (hd : d < 100) (hSH : ∀ k, k < 4 → mSH k < 1024) (hF1 : mF1 d = d % 10) (hF2 : mF2 d = -1) (hd10 : d < 10) : cR l yX8_howShown cX8_howShown 7 (some .int) rm_X8_howShown D [(mo, .inr (8, [.int (nI mhd.toNat), .int (nI mlo), .int (nI mto), .int (nI mhn.toNat), .int (nI mcu), .ref y_sides, .ref y_other, .ref y_prices, .ref y_now, .int (nI msd), .ref y_text, .int (nI mlen), .int (iI mfa), .int (nI mat), .int (nI mnu), .int (nI mna), .int (nI mri.toNat), .ref y_readDays, .int (nI mrc), .ref y_readSides, .ref y_readFigures, .int (nI mrp), .ref y_readOther, .ref y_readPrices, .int (nI mtp), .ref y_firstOf, .ref y_secondOf, .ref y_shown, .int (nI mun), .ref y_past, .ref y_choices, .int (nI mcm), .ref y_wanted, .int (nI mpm), .int (iI mpf), .int (nI mpo), .ref y_ways, .ref y_waysThen, .int (nI mwr), .ref y_wrongDay, .ref y_wrongShown, .ref y_could, .ref y_shownIn, .int (nI mbk), .ref y_book, .ref y_images, .ref y_isKept])), (y_firstOf, .inl (D.2.1, 100, .inl (nA mF1))), (y_secondOf, .inl (D.2.1, 100, .inl (zA mF2))), (y_shown, .inl (D.2.1, 4, .inl (nA mSH)))] [.ref mo, .int (nI d)] (iI (howS false mSH d)) := by
  refine cR.mk (by decide) (retI _) (Nat.le_of_ble_eq_true rfl) ?_
  intro X hx hL hP hret ls hl
  subst hL
  have hl : lv_has ls 7 [(0, .ref mo), (1, .int (nI d))] := hl
  refine x_iconst (v := nI 0) hx dX8_howShown_0 (by decide) ?_
  refine x_istore_n (lv' := [(2, .int (nI 0)), (0, .ref mo), (1, .int (nI d))]) hx dX8_howShown_1 hl (Nat.le_of_ble_eq_true rfl) rfl (fun ls hl => ?_)
  have L2_1 : ∀ (L2_1n : Nat) (k9 : Nat), (k9 ≤ 16) → (howS false mSH d = hwTo (hwP false mSH d) k9 (16 - k9)) → 16 - k9 < L2_1n → ∀ ls : Array Slot, lv_has ls 7 [(0, .ref mo), (1, .int (nI d)), (2, .int (nI k9))] → Wx X 0 0 (cxS X).heap [] 2 ls [] := by
    intro L2_1n
    induction L2_1n with
    | zero =>
      intro k9 h1 h2 hm
      exact absurd hm (Nat.not_lt_zero _)
    | succ L2_1n ihL2_1 =>
      intro k9 h1 h2 hm ls hl
      refine x_iload_n hx dX8_howShown_2 hl 2 rfl ?_
      refine x_bipush (v := nI 16) hx dX8_howShown_3 (by decide) ?_
      refine x_icmp_ge_N (a := k9) (b := 16) (tgt := 133) hx dX8_howShown_5 (by decide) (by omega) (by omega) (fun h_2 => ?_) (fun h_2 => ?_)
      · refine x_iconst (v := iI (-1)) hx dX8_howShown_133 (by decide) ?_
        exact hret _ _ _ dX8_howShown_134 (by rw [h2, hwTo_e (by omega)])
      · refine x_iload_n hx dX8_howShown_8 hl 2 rfl ?_
        refine x_iconst (v := nI 4) hx dX8_howShown_9 (by decide) ?_
        refine x_idiv (v := nI (k9 / 4)) hx dX8_howShown_10 (by decide) (pk_div (by omega) (by omega) (by omega)) ?_
        refine x_istore_n (lv' := [(3, .int (nI (k9 / 4))), (0, .ref mo), (1, .int (nI d)), (2, .int (nI k9))]) hx dX8_howShown_11 hl (Nat.le_of_ble_eq_true rfl) rfl (fun ls hl => ?_)
        refine x_iload_n hx dX8_howShown_12 hl 3 rfl ?_
        refine x_iconst (v := nI 4) hx dX8_howShown_13 (by decide) ?_
        refine x_irem (v := nI (k9 % 4)) hx dX8_howShown_14 (by decide) (pk_rem (by omega) (by omega) (by omega)) ?_
        refine x_istore (lv' := [(4, .int (nI (k9 % 4))), (3, .int (nI (k9 / 4))), (0, .ref mo), (1, .int (nI d)), (2, .int (nI k9))]) hx dX8_howShown_15 hl (Nat.le_of_ble_eq_true rfl) rfl (fun ls hl => ?_)
        refine x_aload_n hx dX8_howShown_17 hl 2 rfl ?_
        refine x_get8 hx hP 0 rfl 26 (Nat.le_of_ble_eq_true rfl) wf_RX8_47 rfl dX8_howShown_18 ?_
        refine x_iload_n hx dX8_howShown_21 hl 3 rfl ?_
        have hj_22 : d < 100 := by omega
        refine x_iald (v := iI (mF2 d)) hx hP 2 rfl hj_22 (by decide) (rfl) dX8_howShown_22 ?_
        refine x_if_ge_Z (a := (mF2 d)) (tgt := 53) hx dX8_howShown_23 (by decide) (by omega) (fun h_3 => ?_) (fun h_3 => ?_)
        · omega
        · have J54_4 : ∀ (bb : Bool), (bb = hwP false mSH d k9) → ∀ ls : Array Slot, lv_has ls 7 [(0, .ref mo), (1, .int (nI d)), (2, .int (nI k9)), (3, .int (nI (k9 / 4))), (4, .int (nI (k9 % 4)))] → Wx X 0 0 (cxS X).heap [] 54 ls [.int (nI bb.toNat)] := by
            intro bb hbb ls hl
            refine x_istore (lv' := [(5, .int (nI bb.toNat)), (0, .ref mo), (1, .int (nI d)), (2, .int (nI k9)), (3, .int (nI (k9 / 4))), (4, .int (nI (k9 % 4)))]) hx dX8_howShown_54 hl (Nat.le_of_ble_eq_true rfl) rfl (fun ls hl => ?_)
            refine x_aload_n hx dX8_howShown_56 hl 1 rfl ?_
            refine x_get8 hx hP 0 rfl 26 (Nat.le_of_ble_eq_true rfl) wf_RX8_47 rfl dX8_howShown_57 ?_
            refine x_iload_n hx dX8_howShown_60 hl 2 rfl ?_
            have hj_61 : d < 100 := by omega
            refine x_iald (v := iI (mF2 d)) hx hP 2 rfl hj_61 (by decide) (rfl) dX8_howShown_61 ?_
            refine x_if_lt_Z (a := (mF2 d)) (tgt := 112) hx dX8_howShown_62 (by decide) (by omega) (fun h_5 => ?_) (fun h_5 => ?_)
            · refine x_iconst (v := nI 0) hx dX8_howShown_112 (by decide) ?_
              refine x_istore (lv' := [(6, .int (nI 0)), (5, .int (nI bb.toNat)), (0, .ref mo), (1, .int (nI d)), (2, .int (nI k9)), (3, .int (nI (k9 / 4))), (4, .int (nI (k9 % 4)))]) hx dX8_howShown_113 hl (Nat.le_of_ble_eq_true rfl) rfl (fun ls hl => ?_)
              refine x_iload hx dX8_howShown_115 hl 1 rfl ?_
              refine x_if_ne_B (tgt := 125) hx dX8_howShown_117 (by decide) (fun h_6 => ?_) (fun h_6 => ?_)
              · refine x_iload_n hx dX8_howShown_125 hl 4 rfl ?_
                exact hret _ _ _ dX8_howShown_126 (by rw [h2, hwTo_y (by omega) (by rw [← hbb]; assumption)]; rfl)
              · refine x_iload hx dX8_howShown_120 hl 0 rfl ?_
                refine x_if_eq_N (a := 0) (tgt := 127) hx dX8_howShown_122 (by decide) (by omega) (fun h_7 => ?_) (fun h_7 => ?_)
                · refine x_iinc (v := nI (k9 + 1)) (lv' := [(2, .int (nI (k9 + 1))), (6, .int (nI 0)), (5, .int (nI bb.toNat)), (0, .ref mo), (1, .int (nI d)), (3, .int (nI (k9 / 4))), (4, .int (nI (k9 % 4)))]) hx dX8_howShown_127 hl 4 rfl (nI_addc k9 1) (Nat.le_of_ble_eq_true rfl) rfl (fun ls hl => ?_)
                  refine x_goto (tgt := 2) hx dX8_howShown_130 (by decide) ?_
                  have e_8 : (k9 + 1 : Nat) = (k9 + 1) := by
                    first | rfl | omega | (simp [*]; done) | (simp [*]; omega)
                  exact ihL2_1 (k9 + 1) (by first | assumption | omega | (simp [*]; done)) (by first | exact hw_eq _ _ _ | exact h2.trans (hwTo_n (by omega) (by rw [← hbb]; assumption))) (by omega) _ (lv_to (l := [(0, .ref mo), (1, .int (nI d)), (2, .int (nI (k9 + 1)))]) (l2 := [(0, .ref mo), (1, .int (nI d)), (2, .int (nI (k9 + 1)))]) (lv_sub hl [3, 4, 0] rfl) (cE rfl (cE rfl (cE (congrArg (fun z => ((2, Value.int z) : Nat × Value)) (congrArg (fun z : Nat => nI z) e_8)) rfl))))
                · omega
            · omega
          refine x_iload hx dX8_howShown_26 hl 0 rfl ?_
          refine x_if_ne_N (a := (k9 % 4)) (tgt := 53) hx dX8_howShown_28 (by decide) (by omega) (fun h_9 => ?_) (fun h_9 => ?_)
          · refine x_iconst (v := nI 0) hx dX8_howShown_53 (by decide) ?_
            -- stack differs: .int (nI false.toNat) / .int (nI 0)
            exact J54_4 false (by first | (simp [hwP, *]; done) | (simp [hwP]; omega)) _ (lv_sub hl [2, 3, 4, 1, 0] rfl)
          · refine x_aload_n hx dX8_howShown_31 hl 2 rfl ?_
            refine x_get8 hx hP 0 rfl 27 (Nat.le_of_ble_eq_true rfl) wf_RX8_50 rfl dX8_howShown_32 ?_
            refine x_iload_n hx dX8_howShown_35 hl 1 rfl ?_
            have hj_36 : k9 / 4 < 4 := by omega
            refine x_iald (v := nI (mSH (k9 / 4))) hx hP 3 rfl hj_36 (by decide) (rfl) dX8_howShown_36 ?_
            have b_10 := hSH (k9 / 4) hj_36
            refine x_aload_n hx dX8_howShown_37 hl 2 rfl ?_
            refine x_get8 hx hP 0 rfl 25 (Nat.le_of_ble_eq_true rfl) wf_RX8_44 rfl dX8_howShown_38 ?_
            refine x_iload_n hx dX8_howShown_41 hl 3 rfl ?_
            have hj_42 : d < 100 := by omega
            refine x_iald (v := nI (mF1 d)) hx hP 1 rfl hj_42 (by decide) (rfl) dX8_howShown_42 ?_
            refine x_top (u := nI (d % 10)) (congrArg nI hF1) ?_
            refine x_callRS (As := [.int (nI (mSH (k9 / 4))), .int (nI (d % 10))]) (rest := []) hx yv_X8_has (c_X8_has _ D (mSH (k9 / 4)) (d % 10) (by first | assumption | omega | (simp [*]; done)) (by first | assumption | omega | (simp [*]; done))) wm_RX8_97 hP [] rfl ⟨rfl, rfl⟩ ⟨Nat.le_of_ble_eq_true rfl, Nat.le_of_ble_eq_true rfl⟩ ⟨Nat.zero_le _, Nat.zero_le _⟩ hl rfl rfl (Nat.le_of_ble_eq_true rfl) dX8_howShown_43 ?_
            refine x_if_eq_B (tgt := 53) hx dX8_howShown_46 (by decide) (fun h_11 => ?_) (fun h_11 => ?_)
            · refine x_iconst (v := nI 0) hx dX8_howShown_53 (by decide) ?_
              -- stack differs: .int (nI false.toNat) / .int (nI 0)
              exact J54_4 false (by first | (simp [hwP, *]; done) | (simp [hwP]; omega)) _ (lv_sub hl [2, 3, 4, 1, 0] rfl)
            · refine x_iconst (v := nI 1) hx dX8_howShown_49 (by decide) ?_
              refine x_goto (tgt := 54) hx dX8_howShown_50 (by decide) ?_
              -- stack differs: .int (nI true.toNat) / .int (nI 1)
              exact J54_4 true (by first | (simp [hwP, *]; done) | (simp [hwP]; omega)) _ (lv_sub hl [2, 3, 4, 1, 0] rfl)
  exact L2_1 (16 - 0 + 1) 0 (by first | assumption | omega | (simp [*]; done)) (by first | exact hw_eq _ _ _ | exact h2.trans (hwTo_n (by omega) (by rw [← hbb]; assumption))) (Nat.lt_succ_self _) _ (lv_sub hl [1, 2, 0] rfl)
set_option maxHeartbeats 1000000 in
theorem c_X8_howShown (l : Launch) (D : KD) (mo : Nat) (mhd : Bool) (mlo : Nat) (mto : Nat) (mhn : Bool) (mcu : Nat) (y_sides : Nat) (y_other : Nat) (y_prices : Nat) (y_now : Nat) (msd : Nat) (y_text : Nat) (mlen : Nat) (mfa : Int) (mat : Nat) (mnu : Nat) (mna : Nat) (mri : Bool) (y_readDays : Nat) (mrc : Nat) (y_readSides : Nat) (y_readFigures : Nat) (mrp : Nat) (y_readOther : Nat) (y_readPrices : Nat) (mtp : Nat) (y_firstOf : Nat) (y_secondOf : Nat) (y_shown : Nat) (mun : Nat) (y_past : Nat) (y_choices : Nat) (mcm : Nat) (y_wanted : Nat) (mpm : Nat) (mpf : Int) (mpo : Nat) (y_ways : Nat) (y_waysThen : Nat) (mwr : Nat) (y_wrongDay : Nat) (y_wrongShown : Nat) (y_could : Nat) (y_shownIn : Nat) (mbk : Nat) (y_book : Nat) (y_images : Nat) (y_isKept : Nat) (mF1 : Nat → Nat) (mF2 : Nat → Int) (mSH : Nat → Nat) (d : Nat) (tw : Bool) (hd : d < 100) (hSH : ∀ k, k < 4 → mSH k < 1024) (hF1 : mF1 d = (if tw then d / 10 else d)) (hF2 : mF2 d = (if tw then ((d % 10 : Nat) : Int) else -1)) (htw : tw = false → d < 10) : cR l yX8_howShown cX8_howShown 7 (some .int) rm_X8_howShown D [(mo, .inr (8, [.int (nI mhd.toNat), .int (nI mlo), .int (nI mto), .int (nI mhn.toNat), .int (nI mcu), .ref y_sides, .ref y_other, .ref y_prices, .ref y_now, .int (nI msd), .ref y_text, .int (nI mlen), .int (iI mfa), .int (nI mat), .int (nI mnu), .int (nI mna), .int (nI mri.toNat), .ref y_readDays, .int (nI mrc), .ref y_readSides, .ref y_readFigures, .int (nI mrp), .ref y_readOther, .ref y_readPrices, .int (nI mtp), .ref y_firstOf, .ref y_secondOf, .ref y_shown, .int (nI mun), .ref y_past, .ref y_choices, .int (nI mcm), .ref y_wanted, .int (nI mpm), .int (iI mpf), .int (nI mpo), .ref y_ways, .ref y_waysThen, .int (nI mwr), .ref y_wrongDay, .ref y_wrongShown, .ref y_could, .ref y_shownIn, .int (nI mbk), .ref y_book, .ref y_images, .ref y_isKept])), (y_firstOf, .inl (D.2.1, 100, .inl (nA mF1))), (y_secondOf, .inl (D.2.1, 100, .inl (zA mF2))), (y_shown, .inl (D.2.1, 4, .inl (nA mSH)))] [.ref mo, .int (nI d)] (iI (howS tw mSH d)) := by
  cases tw with
  | true => exact c_X8_howShown_t l D mo mhd mlo mto mhn mcu y_sides y_other y_prices y_now msd y_text mlen mfa mat mnu mna mri y_readDays mrc y_readSides y_readFigures mrp y_readOther y_readPrices mtp y_firstOf y_secondOf y_shown mun y_past y_choices mcm y_wanted mpm mpf mpo y_ways y_waysThen mwr y_wrongDay y_wrongShown y_could y_shownIn mbk y_book y_images y_isKept mF1 mF2 mSH d hd hSH hF1 hF2
  | false => exact c_X8_howShown_f l D mo mhd mlo mto mhn mcu y_sides y_other y_prices y_now msd y_text mlen mfa mat mnu mna mri y_readDays mrc y_readSides y_readFigures mrp y_readOther y_readPrices mtp y_firstOf y_secondOf y_shown mun y_past y_choices mcm y_wanted mpm mpf mpo y_ways y_waysThen mwr y_wrongDay y_wrongShown y_could y_shownIn mbk y_book y_images y_isKept mF1 mF2 mSH d hd hSH (by rw [hF1]; simp only [Bool.false_eq_true, if_false]; have := htw rfl; omega) hF2 (htw rfl)
set_option maxHeartbeats 4000000 in
set_option maxRecDepth 100000 in
theorem c_X8_daysNow (l : Launch) (D : KD) (mo : Nat) (mhd : Bool) (mlo : Nat) (mto : Nat) (mhn : Bool) (mcu : Nat) (y_sides : Nat) (y_other : Nat) (y_prices : Nat) (y_now : Nat) (msd : Nat) (y_text : Nat) (mlen : Nat) (mfa : Int) (mat : Nat) (mnu : Nat) (mna : Nat) (mri : Bool) (y_readDays : Nat) (mrc : Nat) (y_readSides : Nat) (y_readFigures : Nat) (mrp : Nat) (y_readOther : Nat) (y_readPrices : Nat) (mtp : Nat) (y_firstOf : Nat) (y_secondOf : Nat) (y_shown : Nat) (mun : Nat) (y_past : Nat) (y_choices : Nat) (mcm : Nat) (y_wanted : Nat) (mpm : Nat) (mpf : Int) (mpo : Nat) (y_ways : Nat) (y_waysThen : Nat) (mwr : Nat) (y_wrongDay : Nat) (y_wrongShown : Nat) (y_could : Nat) (y_shownIn : Nat) (mbk : Nat) (y_book : Nat) (y_images : Nat) (y_isKept : Nat) (mSC : Nat → Nat) (mTV : Nat → Nat) (mNW : Nat → Nat) (mF1 : Nat → Nat) (mF2 : Nat → Int) (mSH : Nat → Nat) (e9 : Nat) (hmSC : ∀ k, k < 4 → mSC k < 7) (hmTV : ∀ k, k < 10 → mTV k < 10) (hmNW : ∀ k, k < 24 → mNW k < 11) (hlo : mNW 24 < 16) (hcu : mcu ≤ 4) (hme : e9 = pk mhd (mto + 1) mlo) (hle : mlo ≤ e9) (he : e9 ≤ 100) (hto : mto ≤ 99) (hlo9 : mlo ≤ 99) (hPL : plOk mhn e9 mF1 mF2) : cM l yX8_daysNow cX8_daysNow 3 (some .int) rm_X8_daysNow D [(mo, .inr (8, [.int (nI mhd.toNat), .int (nI mlo), .int (nI mto), .int (nI mhn.toNat), .int (nI mcu), .ref y_sides, .ref y_other, .ref y_prices, .ref y_now, .int (nI msd), .ref y_text, .int (nI mlen), .int (iI mfa), .int (nI mat), .int (nI mnu), .int (nI mna), .int (nI mri.toNat), .ref y_readDays, .int (nI mrc), .ref y_readSides, .ref y_readFigures, .int (nI mrp), .ref y_readOther, .ref y_readPrices, .int (nI mtp), .ref y_firstOf, .ref y_secondOf, .ref y_shown, .int (nI mun), .ref y_past, .ref y_choices, .int (nI mcm), .ref y_wanted, .int (nI mpm), .int (iI mpf), .int (nI mpo), .ref y_ways, .ref y_waysThen, .int (nI mwr), .ref y_wrongDay, .ref y_wrongShown, .ref y_could, .ref y_shownIn, .int (nI mbk), .ref y_book, .ref y_images, .ref y_isKept])), (y_sides, .inl (D.2.1, 4, .inl (nA mSC))), (y_other, .inl (D.2.1, 10, .inl (nA mTV))), (y_now, .inl (D.2.1, 26, .inl (nA mNW))), (y_firstOf, .inl (D.2.1, 100, .inl (nA mF1))), (y_secondOf, .inl (D.2.1, 100, .inl (zA mF2))), (y_shown, .inl (D.2.1, 4, .inl (nA mSH)))] [.ref mo] (nI (cntTo (canS mhn e9 (shM mTV mSC mNW mcu)) mlo e9)) [(mo, .inr (8, [.int (nI mhd.toNat), .int (nI mlo), .int (nI mto), .int (nI mhn.toNat), .int (nI mcu), .ref y_sides, .ref y_other, .ref y_prices, .ref y_now, .int (nI msd), .ref y_text, .int (nI mlen), .int (iI mfa), .int (nI mat), .int (nI mnu), .int (nI mna), .int (nI mri.toNat), .ref y_readDays, .int (nI mrc), .ref y_readSides, .ref y_readFigures, .int (nI mrp), .ref y_readOther, .ref y_readPrices, .int (nI mtp), .ref y_firstOf, .ref y_secondOf, .ref y_shown, .int (nI mun), .ref y_past, .ref y_choices, .int (nI mcm), .ref y_wanted, .int (nI mpm), .int (iI mpf), .int (nI mpo), .ref y_ways, .ref y_waysThen, .int (nI mwr), .ref y_wrongDay, .ref y_wrongShown, .ref y_could, .ref y_shownIn, .int (nI mbk), .ref y_book, .ref y_images, .ref y_isKept])), (y_sides, .inl (D.2.1, 4, .inl (nA mSC))), (y_other, .inl (D.2.1, 10, .inl (nA mTV))), (y_now, .inl (D.2.1, 26, .inl (nA mNW))), (y_firstOf, .inl (D.2.1, 100, .inl (nA mF1))), (y_secondOf, .inl (D.2.1, 100, .inl (zA mF2))), (y_shown, .inl (D.2.1, 4, .inl (nA (shM mTV mSC mNW mcu))))] := by
  refine cM.mk (by decide) (retI _) (Nat.le_of_ble_eq_true rfl) ?_
  intro X A hx hL hA hW hret ls hl
  subst hL
  have hl : lv_has ls 3 [(0, .ref mo)] := hl
  have hme1 : mhd = true → e9 = mto + 1 := fun h9 => by rw [hme, pk_t h9]
  have hme0 : mhd = false → e9 = mlo := fun h9 => by rw [hme, pk_f h9]
  have hme2 : e9 = mto + 1 ∨ e9 = mlo := by
    cases hq9 : mhd with
    | true => exact Or.inl (hme1 hq9)
    | false => exact Or.inr (hme0 hq9)
  have hSHl := shM_lt (cu := mcu) hmSC hmTV hmNW
  refine x_aload_n hx dX8_daysNow_0 hl 0 rfl ?_
  refine x_callVV (As := []) (rest := []) (wr := [(y_firstOf, .inl (D.2.1, 100, .inl (nA mF1))), (y_secondOf, .inl (D.2.1, 100, .inl (zA mF2)))]) hx yv_X8_findShown (c_X8_findShown _ D mo mhd mlo mto mhn mcu y_sides y_other y_prices y_now msd y_text mlen mfa mat mnu mna mri y_readDays mrc y_readSides y_readFigures mrp y_readOther y_readPrices mtp y_firstOf y_secondOf y_shown mun y_past y_choices mcm y_wanted mpm mpf mpo y_ways y_waysThen mwr y_wrongDay y_wrongShown y_could y_shownIn mbk y_book y_images y_isKept mSC mTV mNW mSH (by first | assumption | omega | (simp [*]; done)) (by first | assumption | omega | (simp [*]; done)) (by first | assumption | omega | (simp [*]; done)) (by first | assumption | omega | (simp [*]; done)) (by first | assumption | omega | (simp [*]; done))) wm_RX8_214 hA hW [0, 1, 2, 3, 6] [4, 5] rfl rfl rfl rfl rfl 0 rfl rfl ⟨rfl, rfl⟩ ⟨Nat.le_of_ble_eq_true rfl, Nat.le_of_ble_eq_true rfl⟩ ⟨Nat.zero_le _, Nat.zero_le _⟩ hl rfl rfl (Nat.le_of_ble_eq_true rfl) dX8_daysNow_1 [(y_firstOf, .inl (D.2.1, 100, .inl (nA mF1))), (y_secondOf, .inl (D.2.1, 100, .inl (zA mF2))), (mo, .inr (8, [.int (nI mhd.toNat), .int (nI mlo), .int (nI mto), .int (nI mhn.toNat), .int (nI mcu), .ref y_sides, .ref y_other, .ref y_prices, .ref y_now, .int (nI msd), .ref y_text, .int (nI mlen), .int (iI mfa), .int (nI mat), .int (nI mnu), .int (nI mna), .int (nI mri.toNat), .ref y_readDays, .int (nI mrc), .ref y_readSides, .ref y_readFigures, .int (nI mrp), .ref y_readOther, .ref y_readPrices, .int (nI mtp), .ref y_firstOf, .ref y_secondOf, .ref y_shown, .int (nI mun), .ref y_past, .ref y_choices, .int (nI mcm), .ref y_wanted, .int (nI mpm), .int (iI mpf), .int (nI mpo), .ref y_ways, .ref y_waysThen, .int (nI mwr), .ref y_wrongDay, .ref y_wrongShown, .ref y_could, .ref y_shownIn, .int (nI mbk), .ref y_book, .ref y_images, .ref y_isKept])), (y_sides, .inl (D.2.1, 4, .inl (nA mSC))), (y_other, .inl (D.2.1, 10, .inl (nA mTV))), (y_now, .inl (D.2.1, 26, .inl (nA mNW))), (y_shown, .inl (D.2.1, 4, .inl (nA (shM mTV mSC mNW mcu))))] rfl (fun H locs hW => ?_)
  refine x_iconst (v := nI 0) hx dX8_daysNow_4 (by decide) ?_
  refine x_istore_n (lv' := [(1, .int (nI 0)), (0, .ref mo)]) hx dX8_daysNow_5 hl (Nat.le_of_ble_eq_true rfl) rfl (fun ls hl => ?_)
  refine x_aload_n hx dX8_daysNow_6 hl 1 rfl ?_
  refine x_get8 hx hW.1 2 rfl 1 (Nat.le_of_ble_eq_true rfl) wf_RX8_107 rfl dX8_daysNow_7 ?_
  refine x_istore_n (lv' := [(2, .int (nI mlo)), (1, .int (nI 0)), (0, .ref mo)]) hx dX8_daysNow_10 hl (Nat.le_of_ble_eq_true rfl) rfl (fun ls hl => ?_)
  have L11_1 : ∀ (L11_1n : Nat) (d : Nat), (mlo ≤ d) → (d ≤ e9) → e9 - d < L11_1n → ∀ (H : Heap) (locs : List Loc), Wd X D A [(y_firstOf, .inl (D.2.1, 100, .inl (nA mF1))), (y_secondOf, .inl (D.2.1, 100, .inl (zA mF2))), (mo, .inr (8, [.int (nI mhd.toNat), .int (nI mlo), .int (nI mto), .int (nI mhn.toNat), .int (nI mcu), .ref y_sides, .ref y_other, .ref y_prices, .ref y_now, .int (nI msd), .ref y_text, .int (nI mlen), .int (iI mfa), .int (nI mat), .int (nI mnu), .int (nI mna), .int (nI mri.toNat), .ref y_readDays, .int (nI mrc), .ref y_readSides, .ref y_readFigures, .int (nI mrp), .ref y_readOther, .ref y_readPrices, .int (nI mtp), .ref y_firstOf, .ref y_secondOf, .ref y_shown, .int (nI mun), .ref y_past, .ref y_choices, .int (nI mcm), .ref y_wanted, .int (nI mpm), .int (iI mpf), .int (nI mpo), .ref y_ways, .ref y_waysThen, .int (nI mwr), .ref y_wrongDay, .ref y_wrongShown, .ref y_could, .ref y_shownIn, .int (nI mbk), .ref y_book, .ref y_images, .ref y_isKept])), (y_sides, .inl (D.2.1, 4, .inl (nA mSC))), (y_other, .inl (D.2.1, 10, .inl (nA mTV))), (y_now, .inl (D.2.1, 26, .inl (nA mNW))), (y_shown, .inl (D.2.1, 4, .inl (nA (shM mTV mSC mNW mcu))))] H locs → ∀ ls : Array Slot, lv_has ls 3 [(0, .ref mo), (1, .int (nI (cntTo (canS mhn e9 (shM mTV mSC mNW mcu)) mlo d))), (2, .int (nI d))] → Wx X 0 0 H locs 11 ls [] := by
    intro L11_1n
    induction L11_1n with
    | zero =>
      intro d h1 h2 hm
      exact absurd hm (Nat.not_lt_zero _)
    | succ L11_1n ihL11_1 =>
      intro d h1 h2 hm H locs hW ls hl
      have hcl := cntTo_le (canS mhn e9 (shM mTV mSC mNW mcu)) mlo d
      refine x_iload_n hx dX8_daysNow_11 hl 2 rfl ?_
      refine x_aload_n hx dX8_daysNow_12 hl 0 rfl ?_
      refine x_get8 hx hW.1 2 rfl 2 (Nat.le_of_ble_eq_true rfl) wf_RX8_110 rfl dX8_daysNow_13 ?_
      refine x_icmp_gt_N (a := d) (b := mto) (tgt := 48) hx dX8_daysNow_16 (by decide) (by omega) (by omega) (fun h_2 => ?_) (fun h_2 => ?_)
      · have hxe : d = e9 := by omega
        refine x_iload_n hx dX8_daysNow_48 hl 1 rfl ?_
        exact hret _ _ _ _ _ dX8_daysNow_49 (by rw [hxe]) (hW.conv [2, 3, 4, 5, 0, 1, 6] (w1 := [(mo, .inr (8, [.int (nI mhd.toNat), .int (nI mlo), .int (nI mto), .int (nI mhn.toNat), .int (nI mcu), .ref y_sides, .ref y_other, .ref y_prices, .ref y_now, .int (nI msd), .ref y_text, .int (nI mlen), .int (iI mfa), .int (nI mat), .int (nI mnu), .int (nI mna), .int (nI mri.toNat), .ref y_readDays, .int (nI mrc), .ref y_readSides, .ref y_readFigures, .int (nI mrp), .ref y_readOther, .ref y_readPrices, .int (nI mtp), .ref y_firstOf, .ref y_secondOf, .ref y_shown, .int (nI mun), .ref y_past, .ref y_choices, .int (nI mcm), .ref y_wanted, .int (nI mpm), .int (iI mpf), .int (nI mpo), .ref y_ways, .ref y_waysThen, .int (nI mwr), .ref y_wrongDay, .ref y_wrongShown, .ref y_could, .ref y_shownIn, .int (nI mbk), .ref y_book, .ref y_images, .ref y_isKept])), (y_sides, .inl (D.2.1, 4, .inl (nA mSC))), (y_other, .inl (D.2.1, 10, .inl (nA mTV))), (y_now, .inl (D.2.1, 26, .inl (nA mNW))), (y_firstOf, .inl (D.2.1, 100, .inl (nA mF1))), (y_secondOf, .inl (D.2.1, 100, .inl (zA mF2))), (y_shown, .inl (D.2.1, 4, .inl (nA (shM mTV mSC mNW mcu))))]) (w2 := [(mo, .inr (8, [.int (nI mhd.toNat), .int (nI mlo), .int (nI mto), .int (nI mhn.toNat), .int (nI mcu), .ref y_sides, .ref y_other, .ref y_prices, .ref y_now, .int (nI msd), .ref y_text, .int (nI mlen), .int (iI mfa), .int (nI mat), .int (nI mnu), .int (nI mna), .int (nI mri.toNat), .ref y_readDays, .int (nI mrc), .ref y_readSides, .ref y_readFigures, .int (nI mrp), .ref y_readOther, .ref y_readPrices, .int (nI mtp), .ref y_firstOf, .ref y_secondOf, .ref y_shown, .int (nI mun), .ref y_past, .ref y_choices, .int (nI mcm), .ref y_wanted, .int (nI mpm), .int (iI mpf), .int (nI mpo), .ref y_ways, .ref y_waysThen, .int (nI mwr), .ref y_wrongDay, .ref y_wrongShown, .ref y_could, .ref y_shownIn, .int (nI mbk), .ref y_book, .ref y_images, .ref y_isKept])), (y_sides, .inl (D.2.1, 4, .inl (nA mSC))), (y_other, .inl (D.2.1, 10, .inl (nA mTV))), (y_now, .inl (D.2.1, 26, .inl (nA mNW))), (y_firstOf, .inl (D.2.1, 100, .inl (nA mF1))), (y_secondOf, .inl (D.2.1, 100, .inl (zA mF2))), (y_shown, .inl (D.2.1, 4, .inl (nA (shM mTV mSC mNW mcu))))]) rfl rfl rfl)
      · refine x_aload_n hx dX8_daysNow_19 hl 0 rfl ?_
        refine x_get8 hx hW.1 2 rfl 0 (Nat.le_of_ble_eq_true rfl) wf_RX8_103 rfl dX8_daysNow_20 ?_
        refine x_if_eq_B (tgt := 48) hx dX8_daysNow_23 (by decide) (fun h_3 => ?_) (fun h_3 => ?_)
        · have hx0 := hme0 h_3
          have hxe : d = e9 := by omega
          refine x_iload_n hx dX8_daysNow_48 hl 1 rfl ?_
          exact hret _ _ _ _ _ dX8_daysNow_49 (by rw [hxe]) (hW.conv [2, 3, 4, 5, 0, 1, 6] (w1 := [(mo, .inr (8, [.int (nI mhd.toNat), .int (nI mlo), .int (nI mto), .int (nI mhn.toNat), .int (nI mcu), .ref y_sides, .ref y_other, .ref y_prices, .ref y_now, .int (nI msd), .ref y_text, .int (nI mlen), .int (iI mfa), .int (nI mat), .int (nI mnu), .int (nI mna), .int (nI mri.toNat), .ref y_readDays, .int (nI mrc), .ref y_readSides, .ref y_readFigures, .int (nI mrp), .ref y_readOther, .ref y_readPrices, .int (nI mtp), .ref y_firstOf, .ref y_secondOf, .ref y_shown, .int (nI mun), .ref y_past, .ref y_choices, .int (nI mcm), .ref y_wanted, .int (nI mpm), .int (iI mpf), .int (nI mpo), .ref y_ways, .ref y_waysThen, .int (nI mwr), .ref y_wrongDay, .ref y_wrongShown, .ref y_could, .ref y_shownIn, .int (nI mbk), .ref y_book, .ref y_images, .ref y_isKept])), (y_sides, .inl (D.2.1, 4, .inl (nA mSC))), (y_other, .inl (D.2.1, 10, .inl (nA mTV))), (y_now, .inl (D.2.1, 26, .inl (nA mNW))), (y_firstOf, .inl (D.2.1, 100, .inl (nA mF1))), (y_secondOf, .inl (D.2.1, 100, .inl (zA mF2))), (y_shown, .inl (D.2.1, 4, .inl (nA (shM mTV mSC mNW mcu))))]) (w2 := [(mo, .inr (8, [.int (nI mhd.toNat), .int (nI mlo), .int (nI mto), .int (nI mhn.toNat), .int (nI mcu), .ref y_sides, .ref y_other, .ref y_prices, .ref y_now, .int (nI msd), .ref y_text, .int (nI mlen), .int (iI mfa), .int (nI mat), .int (nI mnu), .int (nI mna), .int (nI mri.toNat), .ref y_readDays, .int (nI mrc), .ref y_readSides, .ref y_readFigures, .int (nI mrp), .ref y_readOther, .ref y_readPrices, .int (nI mtp), .ref y_firstOf, .ref y_secondOf, .ref y_shown, .int (nI mun), .ref y_past, .ref y_choices, .int (nI mcm), .ref y_wanted, .int (nI mpm), .int (iI mpf), .int (nI mpo), .ref y_ways, .ref y_waysThen, .int (nI mwr), .ref y_wrongDay, .ref y_wrongShown, .ref y_could, .ref y_shownIn, .int (nI mbk), .ref y_book, .ref y_images, .ref y_isKept])), (y_sides, .inl (D.2.1, 4, .inl (nA mSC))), (y_other, .inl (D.2.1, 10, .inl (nA mTV))), (y_now, .inl (D.2.1, 26, .inl (nA mNW))), (y_firstOf, .inl (D.2.1, 100, .inl (nA mF1))), (y_secondOf, .inl (D.2.1, 100, .inl (zA mF2))), (y_shown, .inl (D.2.1, 4, .inl (nA (shM mTV mSC mNW mcu))))]) rfl rfl rfl)
        · have hx1 := hme1 h_3
          have hPd := hPL d (by omega)
          refine x_iload_n hx dX8_daysNow_26 hl 1 rfl ?_
          refine x_aload_n hx dX8_daysNow_27 hl 0 rfl ?_
          refine x_iload_n hx dX8_daysNow_28 hl 2 rfl ?_
          refine x_callRV (As := [.int (nI d)]) (rest := [.int (nI (cntTo (canS mhn e9 (shM mTV mSC mNW mcu)) mlo d))]) hx yv_X8_howShown (c_X8_howShown _ D mo mhd mlo mto mhn mcu y_sides y_other y_prices y_now msd y_text mlen mfa mat mnu mna mri y_readDays mrc y_readSides y_readFigures mrp y_readOther y_readPrices mtp y_firstOf y_secondOf y_shown mun y_past y_choices mcm y_wanted mpm mpf mpo y_ways y_waysThen mwr y_wrongDay y_wrongShown y_could y_shownIn mbk y_book y_images y_isKept mF1 mF2 (shM mTV mSC mNW mcu) d (hasTwo mhn e9 d) (by first | assumption | omega | (simp [*]; done)) (by exact hSHl) (by exact hPd.1) (by exact hPd.2) (by exact two_f (by omega))) wm_RX8_217 hW.1 [2, 0, 1, 6] rfl 2 rfl rfl ⟨rfl, rfl⟩ ⟨Nat.le_of_ble_eq_true rfl, Nat.le_of_ble_eq_true rfl⟩ ⟨Nat.zero_le _, Nat.zero_le _⟩ hl rfl rfl (Nat.le_of_ble_eq_true rfl) dX8_daysNow_29 ?_
          have hhr := howS_rng (hasTwo mhn e9 d) (shM mTV mSC mNW mcu) d
          have J40_4 : ∀ (bb : Bool), (bb = canS mhn e9 (shM mTV mSC mNW mcu) d) → ∀ (H : Heap) (locs : List Loc), Wd X D A [(y_firstOf, .inl (D.2.1, 100, .inl (nA mF1))), (y_secondOf, .inl (D.2.1, 100, .inl (zA mF2))), (mo, .inr (8, [.int (nI mhd.toNat), .int (nI mlo), .int (nI mto), .int (nI mhn.toNat), .int (nI mcu), .ref y_sides, .ref y_other, .ref y_prices, .ref y_now, .int (nI msd), .ref y_text, .int (nI mlen), .int (iI mfa), .int (nI mat), .int (nI mnu), .int (nI mna), .int (nI mri.toNat), .ref y_readDays, .int (nI mrc), .ref y_readSides, .ref y_readFigures, .int (nI mrp), .ref y_readOther, .ref y_readPrices, .int (nI mtp), .ref y_firstOf, .ref y_secondOf, .ref y_shown, .int (nI mun), .ref y_past, .ref y_choices, .int (nI mcm), .ref y_wanted, .int (nI mpm), .int (iI mpf), .int (nI mpo), .ref y_ways, .ref y_waysThen, .int (nI mwr), .ref y_wrongDay, .ref y_wrongShown, .ref y_could, .ref y_shownIn, .int (nI mbk), .ref y_book, .ref y_images, .ref y_isKept])), (y_sides, .inl (D.2.1, 4, .inl (nA mSC))), (y_other, .inl (D.2.1, 10, .inl (nA mTV))), (y_now, .inl (D.2.1, 26, .inl (nA mNW))), (y_shown, .inl (D.2.1, 4, .inl (nA (shM mTV mSC mNW mcu))))] H locs → ∀ ls : Array Slot, lv_has ls 3 [(0, .ref mo), (1, .int (nI (cntTo (canS mhn e9 (shM mTV mSC mNW mcu)) mlo d))), (2, .int (nI d))] → Wx X 0 0 H locs 40 ls [.int (nI bb.toNat), .int (nI (cntTo (canS mhn e9 (shM mTV mSC mNW mcu)) mlo d))] := by
            intro bb hbb H locs hW ls hl
            have hbl := Bool.toNat_le bb
            refine x_iadd (v := nI (cntTo (canS mhn e9 (shM mTV mSC mNW mcu)) mlo d + bb.toNat)) hx dX8_daysNow_40 (nI_add _ _) ?_
            refine x_istore_n (lv' := [(1, .int (nI (cntTo (canS mhn e9 (shM mTV mSC mNW mcu)) mlo d + bb.toNat))), (0, .ref mo), (2, .int (nI d))]) hx dX8_daysNow_41 hl (Nat.le_of_ble_eq_true rfl) rfl (fun ls hl => ?_)
            refine x_iinc (v := nI (d + 1)) (lv' := [(2, .int (nI (d + 1))), (1, .int (nI (cntTo (canS mhn e9 (shM mTV mSC mNW mcu)) mlo d + bb.toNat))), (0, .ref mo)]) hx dX8_daysNow_42 hl 2 rfl (nI_addc d 1) (Nat.le_of_ble_eq_true rfl) rfl (fun ls hl => ?_)
            refine x_goto (tgt := 11) hx dX8_daysNow_45 (by decide) ?_
            have e_5 : (cntTo (canS mhn e9 (shM mTV mSC mNW mcu)) mlo d + bb.toNat : Nat) = cntTo (canS mhn e9 (shM mTV mSC mNW mcu)) mlo (d + 1) := by
              first | (rw [cntTo_0]; done) | (rw [cntTo_s _ h1, ← hbb])
            have e_6 : (d + 1 : Nat) = (d + 1) := by
              first | rfl | omega | (simp [*]; done) | (simp [*]; omega)
            exact ihL11_1 (d + 1) (by first | assumption | omega | (simp [*]; done)) (by first | assumption | omega | (simp [*]; done)) (by omega) _ _ hW _ (lv_to (l := [(0, .ref mo), (1, .int (nI (cntTo (canS mhn e9 (shM mTV mSC mNW mcu)) mlo d + bb.toNat))), (2, .int (nI (d + 1)))]) (l2 := [(0, .ref mo), (1, .int (nI (cntTo (canS mhn e9 (shM mTV mSC mNW mcu)) mlo (d + 1)))), (2, .int (nI (d + 1)))]) (lv_sub hl [2, 1, 0] rfl) (cE rfl (cE (congrArg (fun z => ((1, Value.int z) : Nat × Value)) (congrArg (fun z : Nat => nI z) e_5)) (cE (congrArg (fun z => ((2, Value.int z) : Nat × Value)) (congrArg (fun z : Nat => nI z) e_6)) rfl))))
          refine x_if_lt_Z (a := (howS (hasTwo mhn e9 d) (shM mTV mSC mNW mcu) d)) (tgt := 39) hx dX8_daysNow_32 (by decide) (by omega) (fun h_7 => ?_) (fun h_7 => ?_)
          · refine x_iconst (v := nI 0) hx dX8_daysNow_39 (by decide) ?_
            -- stack differs: .int (nI false.toNat) / .int (nI 0)
            exact J40_4 false (by first | exact (howS_y (by assumption)).symm | exact (howS_n (by assumption)).symm) _ _ hW _ (lv_sub hl [0, 1, 2] rfl)
          · refine x_iconst (v := nI 1) hx dX8_daysNow_35 (by decide) ?_
            refine x_goto (tgt := 40) hx dX8_daysNow_36 (by decide) ?_
            -- stack differs: .int (nI true.toNat) / .int (nI 1)
            exact J40_4 true (by first | exact (howS_y (by assumption)).symm | exact (howS_n (by assumption)).symm) _ _ hW _ (lv_sub hl [0, 1, 2] rfl)
  have e_8 : (0 : Nat) = cntTo (canS mhn e9 (shM mTV mSC mNW mcu)) mlo mlo := by
    first | (rw [cntTo_0]; done) | (rw [cntTo_s _ h1, ← hbb])
  exact L11_1 (e9 - mlo + 1) mlo (by first | assumption | omega | (simp [*]; done)) (by first | assumption | omega | (simp [*]; done)) (Nat.lt_succ_self _) _ _ hW _ (lv_to (l := [(0, .ref mo), (1, .int (nI 0)), (2, .int (nI mlo))]) (l2 := [(0, .ref mo), (1, .int (nI (cntTo (canS mhn e9 (shM mTV mSC mNW mcu)) mlo mlo))), (2, .int (nI mlo))]) (lv_sub hl [2, 1, 0] rfl) (cE rfl (cE (congrArg (fun z => ((1, Value.int z) : Nat × Value)) (congrArg (fun z : Nat => nI z) e_8)) (cE rfl rfl))))
set_option maxHeartbeats 4000000 in
set_option maxRecDepth 100000 in
theorem c_X8_days (l : Launch) (D : KD) (mo : Nat) (mhd : Bool) (mlo : Nat) (mto : Nat) (mhn : Bool) (mcu : Nat) (y_sides : Nat) (y_other : Nat) (y_prices : Nat) (y_now : Nat) (msd : Nat) (y_text : Nat) (mlen : Nat) (mfa : Int) (mat : Nat) (mnu : Nat) (mna : Nat) (mri : Bool) (y_readDays : Nat) (mrc : Nat) (y_readSides : Nat) (y_readFigures : Nat) (mrp : Nat) (y_readOther : Nat) (y_readPrices : Nat) (mtp : Nat) (y_firstOf : Nat) (y_secondOf : Nat) (y_shown : Nat) (mun : Nat) (y_past : Nat) (y_choices : Nat) (mcm : Nat) (y_wanted : Nat) (mpm : Nat) (mpf : Int) (mpo : Nat) (y_ways : Nat) (y_waysThen : Nat) (mwr : Nat) (y_wrongDay : Nat) (y_wrongShown : Nat) (y_could : Nat) (y_shownIn : Nat) (mbk : Nat) (y_book : Nat) (y_images : Nat) (y_isKept : Nat) (mSC : Nat → Nat) (mTV : Nat → Nat) (mNW : Nat → Nat) (mF1 : Nat → Nat) (mF2 : Nat → Int) (mSH : Nat → Nat) (e9 : Nat) (hmSC : ∀ k, k < 4 → mSC k < 7) (hmTV : ∀ k, k < 10 → mTV k < 10) (hmNW : ∀ k, k < 24 → mNW k < 11) (hlo : mNW 24 < 16) (hcu : mcu ≤ 4) (hme : e9 = pk mhd (mto + 1) mlo) (hle : mlo ≤ e9) (he : e9 ≤ 100) (hto : mto ≤ 99) (hlo9 : mlo ≤ 99) (hPL : plOk mhn e9 mF1 mF2) : cM l yX8_days cX8_days 1 (some .int) rm_X8_days D [(mo, .inr (8, [.int (nI mhd.toNat), .int (nI mlo), .int (nI mto), .int (nI mhn.toNat), .int (nI mcu), .ref y_sides, .ref y_other, .ref y_prices, .ref y_now, .int (nI msd), .ref y_text, .int (nI mlen), .int (iI mfa), .int (nI mat), .int (nI mnu), .int (nI mna), .int (nI mri.toNat), .ref y_readDays, .int (nI mrc), .ref y_readSides, .ref y_readFigures, .int (nI mrp), .ref y_readOther, .ref y_readPrices, .int (nI mtp), .ref y_firstOf, .ref y_secondOf, .ref y_shown, .int (nI mun), .ref y_past, .ref y_choices, .int (nI mcm), .ref y_wanted, .int (nI mpm), .int (iI mpf), .int (nI mpo), .ref y_ways, .ref y_waysThen, .int (nI mwr), .ref y_wrongDay, .ref y_wrongShown, .ref y_could, .ref y_shownIn, .int (nI mbk), .ref y_book, .ref y_images, .ref y_isKept])), (y_sides, .inl (D.2.1, 4, .inl (nA mSC))), (y_other, .inl (D.2.1, 10, .inl (nA mTV))), (y_now, .inl (D.2.1, 26, .inl (nA mNW))), (y_firstOf, .inl (D.2.1, 100, .inl (nA mF1))), (y_secondOf, .inl (D.2.1, 100, .inl (zA mF2))), (y_shown, .inl (D.2.1, 4, .inl (nA mSH)))] [.ref mo] (nI (cntTo (canS mhn e9 (shM mTV mSC mNW mcu)) mlo e9)) [(mo, .inr (8, [.int (nI mhd.toNat), .int (nI mlo), .int (nI mto), .int (nI mhn.toNat), .int (nI mcu), .ref y_sides, .ref y_other, .ref y_prices, .ref y_now, .int (nI msd), .ref y_text, .int (nI mlen), .int (iI mfa), .int (nI mat), .int (nI mnu), .int (nI mna), .int (nI mri.toNat), .ref y_readDays, .int (nI mrc), .ref y_readSides, .ref y_readFigures, .int (nI mrp), .ref y_readOther, .ref y_readPrices, .int (nI mtp), .ref y_firstOf, .ref y_secondOf, .ref y_shown, .int (nI mun), .ref y_past, .ref y_choices, .int (nI mcm), .ref y_wanted, .int (nI mpm), .int (iI mpf), .int (nI mpo), .ref y_ways, .ref y_waysThen, .int (nI mwr), .ref y_wrongDay, .ref y_wrongShown, .ref y_could, .ref y_shownIn, .int (nI mbk), .ref y_book, .ref y_images, .ref y_isKept])), (y_sides, .inl (D.2.1, 4, .inl (nA mSC))), (y_other, .inl (D.2.1, 10, .inl (nA mTV))), (y_now, .inl (D.2.1, 26, .inl (nA mNW))), (y_firstOf, .inl (D.2.1, 100, .inl (nA mF1))), (y_secondOf, .inl (D.2.1, 100, .inl (zA mF2))), (y_shown, .inl (D.2.1, 4, .inl (nA (shM mTV mSC mNW mcu))))] := by
  refine cM.mk (by decide) (retI _) (Nat.le_of_ble_eq_true rfl) ?_
  intro X A hx hL hA hW hret ls hl
  subst hL
  have hl : lv_has ls 1 [(0, .ref mo)] := hl
  refine x_aload_n hx dX8_days_0 hl 0 rfl ?_
  refine x_callMV (As := []) (rest := []) (wr := []) hx yv_X8_daysNow (c_X8_daysNow _ D mo mhd mlo mto mhn mcu y_sides y_other y_prices y_now msd y_text mlen mfa mat mnu mna mri y_readDays mrc y_readSides y_readFigures mrp y_readOther y_readPrices mtp y_firstOf y_secondOf y_shown mun y_past y_choices mcm y_wanted mpm mpf mpo y_ways y_waysThen mwr y_wrongDay y_wrongShown y_could y_shownIn mbk y_book y_images y_isKept mSC mTV mNW mF1 mF2 mSH e9 (by first | assumption | omega | (simp [*]; done)) (by first | assumption | omega | (simp [*]; done)) (by first | assumption | omega | (simp [*]; done)) (by first | assumption | omega | (simp [*]; done)) (by first | assumption | omega | (simp [*]; done)) (by first | assumption | omega | (simp [*]; done)) (by first | assumption | omega | (simp [*]; done)) (by first | assumption | omega | (simp [*]; done)) (by first | assumption | omega | (simp [*]; done)) (by first | assumption | omega | (simp [*]; done)) (by first | assumption | omega | (simp [*]; done))) wm_RX8_220 hA hW [0, 1, 2, 3, 4, 5, 6] [] rfl rfl rfl rfl rfl 0 rfl rfl ⟨rfl, rfl⟩ ⟨Nat.le_of_ble_eq_true rfl, Nat.le_of_ble_eq_true rfl⟩ ⟨Nat.zero_le _, Nat.zero_le _⟩ hl rfl rfl (Nat.le_of_ble_eq_true rfl) dX8_days_1 [(mo, .inr (8, [.int (nI mhd.toNat), .int (nI mlo), .int (nI mto), .int (nI mhn.toNat), .int (nI mcu), .ref y_sides, .ref y_other, .ref y_prices, .ref y_now, .int (nI msd), .ref y_text, .int (nI mlen), .int (iI mfa), .int (nI mat), .int (nI mnu), .int (nI mna), .int (nI mri.toNat), .ref y_readDays, .int (nI mrc), .ref y_readSides, .ref y_readFigures, .int (nI mrp), .ref y_readOther, .ref y_readPrices, .int (nI mtp), .ref y_firstOf, .ref y_secondOf, .ref y_shown, .int (nI mun), .ref y_past, .ref y_choices, .int (nI mcm), .ref y_wanted, .int (nI mpm), .int (iI mpf), .int (nI mpo), .ref y_ways, .ref y_waysThen, .int (nI mwr), .ref y_wrongDay, .ref y_wrongShown, .ref y_could, .ref y_shownIn, .int (nI mbk), .ref y_book, .ref y_images, .ref y_isKept])), (y_sides, .inl (D.2.1, 4, .inl (nA mSC))), (y_other, .inl (D.2.1, 10, .inl (nA mTV))), (y_now, .inl (D.2.1, 26, .inl (nA mNW))), (y_firstOf, .inl (D.2.1, 100, .inl (nA mF1))), (y_secondOf, .inl (D.2.1, 100, .inl (zA mF2))), (y_shown, .inl (D.2.1, 4, .inl (nA (shM mTV mSC mNW mcu))))] rfl (fun H locs hW => ?_)
  exact hret _ _ _ _ _ dX8_days_4 (rfl) hW
set_option maxHeartbeats 4000000 in
set_option maxRecDepth 100000 in
theorem c_X8_gapNow (l : Launch) (D : KD) (mo : Nat) (mhd : Bool) (mlo : Nat) (mto : Nat) (mhn : Bool) (mcu : Nat) (y_sides : Nat) (y_other : Nat) (y_prices : Nat) (y_now : Nat) (msd : Nat) (y_text : Nat) (mlen : Nat) (mfa : Int) (mat : Nat) (mnu : Nat) (mna : Nat) (mri : Bool) (y_readDays : Nat) (mrc : Nat) (y_readSides : Nat) (y_readFigures : Nat) (mrp : Nat) (y_readOther : Nat) (y_readPrices : Nat) (mtp : Nat) (y_firstOf : Nat) (y_secondOf : Nat) (y_shown : Nat) (mun : Nat) (y_past : Nat) (y_choices : Nat) (mcm : Nat) (y_wanted : Nat) (mpm : Nat) (mpf : Int) (mpo : Nat) (y_ways : Nat) (y_waysThen : Nat) (mwr : Nat) (y_wrongDay : Nat) (y_wrongShown : Nat) (y_could : Nat) (y_shownIn : Nat) (mbk : Nat) (y_book : Nat) (y_images : Nat) (y_isKept : Nat) (mSC : Nat → Nat) (mTV : Nat → Nat) (mNW : Nat → Nat) (mF1 : Nat → Nat) (mF2 : Nat → Int) (mSH : Nat → Nat) (e9 : Nat) (hmSC : ∀ k, k < 4 → mSC k < 7) (hmTV : ∀ k, k < 10 → mTV k < 10) (hmNW : ∀ k, k < 24 → mNW k < 11) (hlo : mNW 24 < 16) (hcu : mcu ≤ 4) (hme : e9 = pk mhd (mto + 1) mlo) (hle : mlo ≤ e9) (he : e9 ≤ 100) (hto : mto ≤ 99) (hlo9 : mlo ≤ 99) (hPL : plOk mhn e9 mF1 mF2) : cM l yX8_gapNow cX8_gapNow 2 (some .int) rm_X8_gapNow D [(mo, .inr (8, [.int (nI mhd.toNat), .int (nI mlo), .int (nI mto), .int (nI mhn.toNat), .int (nI mcu), .ref y_sides, .ref y_other, .ref y_prices, .ref y_now, .int (nI msd), .ref y_text, .int (nI mlen), .int (iI mfa), .int (nI mat), .int (nI mnu), .int (nI mna), .int (nI mri.toNat), .ref y_readDays, .int (nI mrc), .ref y_readSides, .ref y_readFigures, .int (nI mrp), .ref y_readOther, .ref y_readPrices, .int (nI mtp), .ref y_firstOf, .ref y_secondOf, .ref y_shown, .int (nI mun), .ref y_past, .ref y_choices, .int (nI mcm), .ref y_wanted, .int (nI mpm), .int (iI mpf), .int (nI mpo), .ref y_ways, .ref y_waysThen, .int (nI mwr), .ref y_wrongDay, .ref y_wrongShown, .ref y_could, .ref y_shownIn, .int (nI mbk), .ref y_book, .ref y_images, .ref y_isKept])), (y_sides, .inl (D.2.1, 4, .inl (nA mSC))), (y_other, .inl (D.2.1, 10, .inl (nA mTV))), (y_now, .inl (D.2.1, 26, .inl (nA mNW))), (y_firstOf, .inl (D.2.1, 100, .inl (nA mF1))), (y_secondOf, .inl (D.2.1, 100, .inl (zA mF2))), (y_shown, .inl (D.2.1, 4, .inl (nA mSH)))] [.ref mo] (iI (gapTo (canS mhn e9 (shM mTV mSC mNW mcu)) mlo (e9 - mlo))) [(mo, .inr (8, [.int (nI mhd.toNat), .int (nI mlo), .int (nI mto), .int (nI mhn.toNat), .int (nI mcu), .ref y_sides, .ref y_other, .ref y_prices, .ref y_now, .int (nI msd), .ref y_text, .int (nI mlen), .int (iI mfa), .int (nI mat), .int (nI mnu), .int (nI mna), .int (nI mri.toNat), .ref y_readDays, .int (nI mrc), .ref y_readSides, .ref y_readFigures, .int (nI mrp), .ref y_readOther, .ref y_readPrices, .int (nI mtp), .ref y_firstOf, .ref y_secondOf, .ref y_shown, .int (nI mun), .ref y_past, .ref y_choices, .int (nI mcm), .ref y_wanted, .int (nI mpm), .int (iI mpf), .int (nI mpo), .ref y_ways, .ref y_waysThen, .int (nI mwr), .ref y_wrongDay, .ref y_wrongShown, .ref y_could, .ref y_shownIn, .int (nI mbk), .ref y_book, .ref y_images, .ref y_isKept])), (y_sides, .inl (D.2.1, 4, .inl (nA mSC))), (y_other, .inl (D.2.1, 10, .inl (nA mTV))), (y_now, .inl (D.2.1, 26, .inl (nA mNW))), (y_firstOf, .inl (D.2.1, 100, .inl (nA mF1))), (y_secondOf, .inl (D.2.1, 100, .inl (zA mF2))), (y_shown, .inl (D.2.1, 4, .inl (nA (shM mTV mSC mNW mcu))))] := by
  refine cM.mk (by decide) (retI _) (Nat.le_of_ble_eq_true rfl) ?_
  intro X A hx hL hA hW hret ls hl
  subst hL
  have hl : lv_has ls 2 [(0, .ref mo)] := hl
  have hme1 : mhd = true → e9 = mto + 1 := fun h9 => by rw [hme, pk_t h9]
  have hme0 : mhd = false → e9 = mlo := fun h9 => by rw [hme, pk_f h9]
  have hme2 : e9 = mto + 1 ∨ e9 = mlo := by
    cases hq9 : mhd with
    | true => exact Or.inl (hme1 hq9)
    | false => exact Or.inr (hme0 hq9)
  have hSHl := shM_lt (cu := mcu) hmSC hmTV hmNW
  refine x_aload_n hx dX8_gapNow_0 hl 0 rfl ?_
  refine x_callVV (As := []) (rest := []) (wr := [(y_firstOf, .inl (D.2.1, 100, .inl (nA mF1))), (y_secondOf, .inl (D.2.1, 100, .inl (zA mF2)))]) hx yv_X8_findShown (c_X8_findShown _ D mo mhd mlo mto mhn mcu y_sides y_other y_prices y_now msd y_text mlen mfa mat mnu mna mri y_readDays mrc y_readSides y_readFigures mrp y_readOther y_readPrices mtp y_firstOf y_secondOf y_shown mun y_past y_choices mcm y_wanted mpm mpf mpo y_ways y_waysThen mwr y_wrongDay y_wrongShown y_could y_shownIn mbk y_book y_images y_isKept mSC mTV mNW mSH (by first | assumption | omega | (simp [*]; done)) (by first | assumption | omega | (simp [*]; done)) (by first | assumption | omega | (simp [*]; done)) (by first | assumption | omega | (simp [*]; done)) (by first | assumption | omega | (simp [*]; done))) wm_RX8_214 hA hW [0, 1, 2, 3, 6] [4, 5] rfl rfl rfl rfl rfl 0 rfl rfl ⟨rfl, rfl⟩ ⟨Nat.le_of_ble_eq_true rfl, Nat.le_of_ble_eq_true rfl⟩ ⟨Nat.zero_le _, Nat.zero_le _⟩ hl rfl rfl (Nat.le_of_ble_eq_true rfl) dX8_gapNow_1 [(y_firstOf, .inl (D.2.1, 100, .inl (nA mF1))), (y_secondOf, .inl (D.2.1, 100, .inl (zA mF2))), (mo, .inr (8, [.int (nI mhd.toNat), .int (nI mlo), .int (nI mto), .int (nI mhn.toNat), .int (nI mcu), .ref y_sides, .ref y_other, .ref y_prices, .ref y_now, .int (nI msd), .ref y_text, .int (nI mlen), .int (iI mfa), .int (nI mat), .int (nI mnu), .int (nI mna), .int (nI mri.toNat), .ref y_readDays, .int (nI mrc), .ref y_readSides, .ref y_readFigures, .int (nI mrp), .ref y_readOther, .ref y_readPrices, .int (nI mtp), .ref y_firstOf, .ref y_secondOf, .ref y_shown, .int (nI mun), .ref y_past, .ref y_choices, .int (nI mcm), .ref y_wanted, .int (nI mpm), .int (iI mpf), .int (nI mpo), .ref y_ways, .ref y_waysThen, .int (nI mwr), .ref y_wrongDay, .ref y_wrongShown, .ref y_could, .ref y_shownIn, .int (nI mbk), .ref y_book, .ref y_images, .ref y_isKept])), (y_sides, .inl (D.2.1, 4, .inl (nA mSC))), (y_other, .inl (D.2.1, 10, .inl (nA mTV))), (y_now, .inl (D.2.1, 26, .inl (nA mNW))), (y_shown, .inl (D.2.1, 4, .inl (nA (shM mTV mSC mNW mcu))))] rfl (fun H locs hW => ?_)
  refine x_aload_n hx dX8_gapNow_4 hl 0 rfl ?_
  refine x_get8 hx hW.1 2 rfl 1 (Nat.le_of_ble_eq_true rfl) wf_RX8_107 rfl dX8_gapNow_5 ?_
  refine x_istore_n (lv' := [(1, .int (nI mlo)), (0, .ref mo)]) hx dX8_gapNow_8 hl (Nat.le_of_ble_eq_true rfl) rfl (fun ls hl => ?_)
  have L9_1 : ∀ (L9_1n : Nat) (d : Nat), (mlo ≤ d) → (d ≤ e9) → (gapTo (canS mhn e9 (shM mTV mSC mNW mcu)) mlo (e9 - mlo) = gapTo (canS mhn e9 (shM mTV mSC mNW mcu)) d (e9 - d)) → e9 - d < L9_1n → ∀ (H : Heap) (locs : List Loc), Wd X D A [(y_firstOf, .inl (D.2.1, 100, .inl (nA mF1))), (y_secondOf, .inl (D.2.1, 100, .inl (zA mF2))), (mo, .inr (8, [.int (nI mhd.toNat), .int (nI mlo), .int (nI mto), .int (nI mhn.toNat), .int (nI mcu), .ref y_sides, .ref y_other, .ref y_prices, .ref y_now, .int (nI msd), .ref y_text, .int (nI mlen), .int (iI mfa), .int (nI mat), .int (nI mnu), .int (nI mna), .int (nI mri.toNat), .ref y_readDays, .int (nI mrc), .ref y_readSides, .ref y_readFigures, .int (nI mrp), .ref y_readOther, .ref y_readPrices, .int (nI mtp), .ref y_firstOf, .ref y_secondOf, .ref y_shown, .int (nI mun), .ref y_past, .ref y_choices, .int (nI mcm), .ref y_wanted, .int (nI mpm), .int (iI mpf), .int (nI mpo), .ref y_ways, .ref y_waysThen, .int (nI mwr), .ref y_wrongDay, .ref y_wrongShown, .ref y_could, .ref y_shownIn, .int (nI mbk), .ref y_book, .ref y_images, .ref y_isKept])), (y_sides, .inl (D.2.1, 4, .inl (nA mSC))), (y_other, .inl (D.2.1, 10, .inl (nA mTV))), (y_now, .inl (D.2.1, 26, .inl (nA mNW))), (y_shown, .inl (D.2.1, 4, .inl (nA (shM mTV mSC mNW mcu))))] H locs → ∀ ls : Array Slot, lv_has ls 2 [(0, .ref mo), (1, .int (nI d))] → Wx X 0 0 H locs 9 ls [] := by
    intro L9_1n
    induction L9_1n with
    | zero =>
      intro d h1 h2 h3 hm
      exact absurd hm (Nat.not_lt_zero _)
    | succ L9_1n ihL9_1 =>
      intro d h1 h2 h3 hm H locs hW ls hl
      refine x_iload_n hx dX8_gapNow_9 hl 1 rfl ?_
      refine x_aload_n hx dX8_gapNow_10 hl 0 rfl ?_
      refine x_get8 hx hW.1 2 rfl 2 (Nat.le_of_ble_eq_true rfl) wf_RX8_110 rfl dX8_gapNow_11 ?_
      refine x_icmp_gt_N (a := d) (b := mto) (tgt := 40) hx dX8_gapNow_14 (by decide) (by omega) (by omega) (fun h_2 => ?_) (fun h_2 => ?_)
      · have hxe : d = e9 := by omega
        refine x_iconst (v := iI (-1)) hx dX8_gapNow_40 (by decide) ?_
        exact hret _ _ _ _ _ dX8_gapNow_41 (by rw [h3, gapTo_e (by omega)]) (hW.conv [2, 3, 4, 5, 0, 1, 6] (w1 := [(mo, .inr (8, [.int (nI mhd.toNat), .int (nI mlo), .int (nI mto), .int (nI mhn.toNat), .int (nI mcu), .ref y_sides, .ref y_other, .ref y_prices, .ref y_now, .int (nI msd), .ref y_text, .int (nI mlen), .int (iI mfa), .int (nI mat), .int (nI mnu), .int (nI mna), .int (nI mri.toNat), .ref y_readDays, .int (nI mrc), .ref y_readSides, .ref y_readFigures, .int (nI mrp), .ref y_readOther, .ref y_readPrices, .int (nI mtp), .ref y_firstOf, .ref y_secondOf, .ref y_shown, .int (nI mun), .ref y_past, .ref y_choices, .int (nI mcm), .ref y_wanted, .int (nI mpm), .int (iI mpf), .int (nI mpo), .ref y_ways, .ref y_waysThen, .int (nI mwr), .ref y_wrongDay, .ref y_wrongShown, .ref y_could, .ref y_shownIn, .int (nI mbk), .ref y_book, .ref y_images, .ref y_isKept])), (y_sides, .inl (D.2.1, 4, .inl (nA mSC))), (y_other, .inl (D.2.1, 10, .inl (nA mTV))), (y_now, .inl (D.2.1, 26, .inl (nA mNW))), (y_firstOf, .inl (D.2.1, 100, .inl (nA mF1))), (y_secondOf, .inl (D.2.1, 100, .inl (zA mF2))), (y_shown, .inl (D.2.1, 4, .inl (nA (shM mTV mSC mNW mcu))))]) (w2 := [(mo, .inr (8, [.int (nI mhd.toNat), .int (nI mlo), .int (nI mto), .int (nI mhn.toNat), .int (nI mcu), .ref y_sides, .ref y_other, .ref y_prices, .ref y_now, .int (nI msd), .ref y_text, .int (nI mlen), .int (iI mfa), .int (nI mat), .int (nI mnu), .int (nI mna), .int (nI mri.toNat), .ref y_readDays, .int (nI mrc), .ref y_readSides, .ref y_readFigures, .int (nI mrp), .ref y_readOther, .ref y_readPrices, .int (nI mtp), .ref y_firstOf, .ref y_secondOf, .ref y_shown, .int (nI mun), .ref y_past, .ref y_choices, .int (nI mcm), .ref y_wanted, .int (nI mpm), .int (iI mpf), .int (nI mpo), .ref y_ways, .ref y_waysThen, .int (nI mwr), .ref y_wrongDay, .ref y_wrongShown, .ref y_could, .ref y_shownIn, .int (nI mbk), .ref y_book, .ref y_images, .ref y_isKept])), (y_sides, .inl (D.2.1, 4, .inl (nA mSC))), (y_other, .inl (D.2.1, 10, .inl (nA mTV))), (y_now, .inl (D.2.1, 26, .inl (nA mNW))), (y_firstOf, .inl (D.2.1, 100, .inl (nA mF1))), (y_secondOf, .inl (D.2.1, 100, .inl (zA mF2))), (y_shown, .inl (D.2.1, 4, .inl (nA (shM mTV mSC mNW mcu))))]) rfl rfl rfl)
      · refine x_aload_n hx dX8_gapNow_17 hl 0 rfl ?_
        refine x_get8 hx hW.1 2 rfl 0 (Nat.le_of_ble_eq_true rfl) wf_RX8_103 rfl dX8_gapNow_18 ?_
        refine x_if_eq_B (tgt := 40) hx dX8_gapNow_21 (by decide) (fun h_3 => ?_) (fun h_3 => ?_)
        · have hx0 := hme0 h_3
          have hxe : d = e9 := by omega
          refine x_iconst (v := iI (-1)) hx dX8_gapNow_40 (by decide) ?_
          exact hret _ _ _ _ _ dX8_gapNow_41 (by rw [h3, gapTo_e (by omega)]) (hW.conv [2, 3, 4, 5, 0, 1, 6] (w1 := [(mo, .inr (8, [.int (nI mhd.toNat), .int (nI mlo), .int (nI mto), .int (nI mhn.toNat), .int (nI mcu), .ref y_sides, .ref y_other, .ref y_prices, .ref y_now, .int (nI msd), .ref y_text, .int (nI mlen), .int (iI mfa), .int (nI mat), .int (nI mnu), .int (nI mna), .int (nI mri.toNat), .ref y_readDays, .int (nI mrc), .ref y_readSides, .ref y_readFigures, .int (nI mrp), .ref y_readOther, .ref y_readPrices, .int (nI mtp), .ref y_firstOf, .ref y_secondOf, .ref y_shown, .int (nI mun), .ref y_past, .ref y_choices, .int (nI mcm), .ref y_wanted, .int (nI mpm), .int (iI mpf), .int (nI mpo), .ref y_ways, .ref y_waysThen, .int (nI mwr), .ref y_wrongDay, .ref y_wrongShown, .ref y_could, .ref y_shownIn, .int (nI mbk), .ref y_book, .ref y_images, .ref y_isKept])), (y_sides, .inl (D.2.1, 4, .inl (nA mSC))), (y_other, .inl (D.2.1, 10, .inl (nA mTV))), (y_now, .inl (D.2.1, 26, .inl (nA mNW))), (y_firstOf, .inl (D.2.1, 100, .inl (nA mF1))), (y_secondOf, .inl (D.2.1, 100, .inl (zA mF2))), (y_shown, .inl (D.2.1, 4, .inl (nA (shM mTV mSC mNW mcu))))]) (w2 := [(mo, .inr (8, [.int (nI mhd.toNat), .int (nI mlo), .int (nI mto), .int (nI mhn.toNat), .int (nI mcu), .ref y_sides, .ref y_other, .ref y_prices, .ref y_now, .int (nI msd), .ref y_text, .int (nI mlen), .int (iI mfa), .int (nI mat), .int (nI mnu), .int (nI mna), .int (nI mri.toNat), .ref y_readDays, .int (nI mrc), .ref y_readSides, .ref y_readFigures, .int (nI mrp), .ref y_readOther, .ref y_readPrices, .int (nI mtp), .ref y_firstOf, .ref y_secondOf, .ref y_shown, .int (nI mun), .ref y_past, .ref y_choices, .int (nI mcm), .ref y_wanted, .int (nI mpm), .int (iI mpf), .int (nI mpo), .ref y_ways, .ref y_waysThen, .int (nI mwr), .ref y_wrongDay, .ref y_wrongShown, .ref y_could, .ref y_shownIn, .int (nI mbk), .ref y_book, .ref y_images, .ref y_isKept])), (y_sides, .inl (D.2.1, 4, .inl (nA mSC))), (y_other, .inl (D.2.1, 10, .inl (nA mTV))), (y_now, .inl (D.2.1, 26, .inl (nA mNW))), (y_firstOf, .inl (D.2.1, 100, .inl (nA mF1))), (y_secondOf, .inl (D.2.1, 100, .inl (zA mF2))), (y_shown, .inl (D.2.1, 4, .inl (nA (shM mTV mSC mNW mcu))))]) rfl rfl rfl)
        · have hx1 := hme1 h_3
          have hPd := hPL d (by omega)
          refine x_aload_n hx dX8_gapNow_24 hl 0 rfl ?_
          refine x_iload_n hx dX8_gapNow_25 hl 1 rfl ?_
          refine x_callRV (As := [.int (nI d)]) (rest := []) hx yv_X8_howShown (c_X8_howShown _ D mo mhd mlo mto mhn mcu y_sides y_other y_prices y_now msd y_text mlen mfa mat mnu mna mri y_readDays mrc y_readSides y_readFigures mrp y_readOther y_readPrices mtp y_firstOf y_secondOf y_shown mun y_past y_choices mcm y_wanted mpm mpf mpo y_ways y_waysThen mwr y_wrongDay y_wrongShown y_could y_shownIn mbk y_book y_images y_isKept mF1 mF2 (shM mTV mSC mNW mcu) d (hasTwo mhn e9 d) (by first | assumption | omega | (simp [*]; done)) (by exact hSHl) (by exact hPd.1) (by exact hPd.2) (by exact two_f (by omega))) wm_RX8_217 hW.1 [2, 0, 1, 6] rfl 2 rfl rfl ⟨rfl, rfl⟩ ⟨Nat.le_of_ble_eq_true rfl, Nat.le_of_ble_eq_true rfl⟩ ⟨Nat.zero_le _, Nat.zero_le _⟩ hl rfl rfl (Nat.le_of_ble_eq_true rfl) dX8_gapNow_26 ?_
          have hhr := howS_rng (hasTwo mhn e9 d) (shM mTV mSC mNW mcu) d
          refine x_if_ge_Z (a := (howS (hasTwo mhn e9 d) (shM mTV mSC mNW mcu) d)) (tgt := 34) hx dX8_gapNow_29 (by decide) (by omega) (fun h_4 => ?_) (fun h_4 => ?_)
          · refine x_iinc (v := nI (d + 1)) (lv' := [(1, .int (nI (d + 1))), (0, .ref mo)]) hx dX8_gapNow_34 hl 1 rfl (nI_addc d 1) (Nat.le_of_ble_eq_true rfl) rfl (fun ls hl => ?_)
            refine x_goto (tgt := 9) hx dX8_gapNow_37 (by decide) ?_
            have e_5 : (d + 1 : Nat) = (d + 1) := by
              first | rfl | omega | (simp [*]; done) | (simp [*]; omega)
            exact ihL9_1 (d + 1) (by first | assumption | omega | (simp [*]; done)) (by first | assumption | omega | (simp [*]; done)) (by first | rfl | exact h3.trans (gapTo_y (by omega) (howS_y (by assumption)))) (by omega) _ _ hW _ (lv_to (l := [(0, .ref mo), (1, .int (nI (d + 1)))]) (l2 := [(0, .ref mo), (1, .int (nI (d + 1)))]) (lv_sub hl [1, 0] rfl) (cE rfl (cE (congrArg (fun z => ((1, Value.int z) : Nat × Value)) (congrArg (fun z : Nat => nI z) e_5)) rfl)))
          · refine x_iload_n hx dX8_gapNow_32 hl 1 rfl ?_
            exact hret _ _ _ _ _ dX8_gapNow_33 (by rw [h3, gapTo_n (by omega) (show canS mhn e9 (shM mTV mSC mNW mcu) d = false from howS_n (by assumption))]; rfl) (hW.conv [2, 3, 4, 5, 0, 1, 6] (w1 := [(mo, .inr (8, [.int (nI mhd.toNat), .int (nI mlo), .int (nI mto), .int (nI mhn.toNat), .int (nI mcu), .ref y_sides, .ref y_other, .ref y_prices, .ref y_now, .int (nI msd), .ref y_text, .int (nI mlen), .int (iI mfa), .int (nI mat), .int (nI mnu), .int (nI mna), .int (nI mri.toNat), .ref y_readDays, .int (nI mrc), .ref y_readSides, .ref y_readFigures, .int (nI mrp), .ref y_readOther, .ref y_readPrices, .int (nI mtp), .ref y_firstOf, .ref y_secondOf, .ref y_shown, .int (nI mun), .ref y_past, .ref y_choices, .int (nI mcm), .ref y_wanted, .int (nI mpm), .int (iI mpf), .int (nI mpo), .ref y_ways, .ref y_waysThen, .int (nI mwr), .ref y_wrongDay, .ref y_wrongShown, .ref y_could, .ref y_shownIn, .int (nI mbk), .ref y_book, .ref y_images, .ref y_isKept])), (y_sides, .inl (D.2.1, 4, .inl (nA mSC))), (y_other, .inl (D.2.1, 10, .inl (nA mTV))), (y_now, .inl (D.2.1, 26, .inl (nA mNW))), (y_firstOf, .inl (D.2.1, 100, .inl (nA mF1))), (y_secondOf, .inl (D.2.1, 100, .inl (zA mF2))), (y_shown, .inl (D.2.1, 4, .inl (nA (shM mTV mSC mNW mcu))))]) (w2 := [(mo, .inr (8, [.int (nI mhd.toNat), .int (nI mlo), .int (nI mto), .int (nI mhn.toNat), .int (nI mcu), .ref y_sides, .ref y_other, .ref y_prices, .ref y_now, .int (nI msd), .ref y_text, .int (nI mlen), .int (iI mfa), .int (nI mat), .int (nI mnu), .int (nI mna), .int (nI mri.toNat), .ref y_readDays, .int (nI mrc), .ref y_readSides, .ref y_readFigures, .int (nI mrp), .ref y_readOther, .ref y_readPrices, .int (nI mtp), .ref y_firstOf, .ref y_secondOf, .ref y_shown, .int (nI mun), .ref y_past, .ref y_choices, .int (nI mcm), .ref y_wanted, .int (nI mpm), .int (iI mpf), .int (nI mpo), .ref y_ways, .ref y_waysThen, .int (nI mwr), .ref y_wrongDay, .ref y_wrongShown, .ref y_could, .ref y_shownIn, .int (nI mbk), .ref y_book, .ref y_images, .ref y_isKept])), (y_sides, .inl (D.2.1, 4, .inl (nA mSC))), (y_other, .inl (D.2.1, 10, .inl (nA mTV))), (y_now, .inl (D.2.1, 26, .inl (nA mNW))), (y_firstOf, .inl (D.2.1, 100, .inl (nA mF1))), (y_secondOf, .inl (D.2.1, 100, .inl (zA mF2))), (y_shown, .inl (D.2.1, 4, .inl (nA (shM mTV mSC mNW mcu))))]) rfl rfl rfl)
  exact L9_1 (e9 - mlo + 1) mlo (by first | assumption | omega | (simp [*]; done)) (by first | assumption | omega | (simp [*]; done)) (by first | rfl | exact h3.trans (gapTo_y (by omega) (howS_y (by assumption)))) (Nat.lt_succ_self _) _ _ hW _ (lv_sub hl [1, 0] rfl)
set_option maxHeartbeats 4000000 in
set_option maxRecDepth 100000 in
theorem c_X8_gap (l : Launch) (D : KD) (mo : Nat) (mhd : Bool) (mlo : Nat) (mto : Nat) (mhn : Bool) (mcu : Nat) (y_sides : Nat) (y_other : Nat) (y_prices : Nat) (y_now : Nat) (msd : Nat) (y_text : Nat) (mlen : Nat) (mfa : Int) (mat : Nat) (mnu : Nat) (mna : Nat) (mri : Bool) (y_readDays : Nat) (mrc : Nat) (y_readSides : Nat) (y_readFigures : Nat) (mrp : Nat) (y_readOther : Nat) (y_readPrices : Nat) (mtp : Nat) (y_firstOf : Nat) (y_secondOf : Nat) (y_shown : Nat) (mun : Nat) (y_past : Nat) (y_choices : Nat) (mcm : Nat) (y_wanted : Nat) (mpm : Nat) (mpf : Int) (mpo : Nat) (y_ways : Nat) (y_waysThen : Nat) (mwr : Nat) (y_wrongDay : Nat) (y_wrongShown : Nat) (y_could : Nat) (y_shownIn : Nat) (mbk : Nat) (y_book : Nat) (y_images : Nat) (y_isKept : Nat) (mSC : Nat → Nat) (mTV : Nat → Nat) (mNW : Nat → Nat) (mF1 : Nat → Nat) (mF2 : Nat → Int) (mSH : Nat → Nat) (e9 : Nat) (hmSC : ∀ k, k < 4 → mSC k < 7) (hmTV : ∀ k, k < 10 → mTV k < 10) (hmNW : ∀ k, k < 24 → mNW k < 11) (hlo : mNW 24 < 16) (hcu : mcu ≤ 4) (hme : e9 = pk mhd (mto + 1) mlo) (hle : mlo ≤ e9) (he : e9 ≤ 100) (hto : mto ≤ 99) (hlo9 : mlo ≤ 99) (hPL : plOk mhn e9 mF1 mF2) : cM l yX8_gap cX8_gap 1 (some .int) rm_X8_gap D [(mo, .inr (8, [.int (nI mhd.toNat), .int (nI mlo), .int (nI mto), .int (nI mhn.toNat), .int (nI mcu), .ref y_sides, .ref y_other, .ref y_prices, .ref y_now, .int (nI msd), .ref y_text, .int (nI mlen), .int (iI mfa), .int (nI mat), .int (nI mnu), .int (nI mna), .int (nI mri.toNat), .ref y_readDays, .int (nI mrc), .ref y_readSides, .ref y_readFigures, .int (nI mrp), .ref y_readOther, .ref y_readPrices, .int (nI mtp), .ref y_firstOf, .ref y_secondOf, .ref y_shown, .int (nI mun), .ref y_past, .ref y_choices, .int (nI mcm), .ref y_wanted, .int (nI mpm), .int (iI mpf), .int (nI mpo), .ref y_ways, .ref y_waysThen, .int (nI mwr), .ref y_wrongDay, .ref y_wrongShown, .ref y_could, .ref y_shownIn, .int (nI mbk), .ref y_book, .ref y_images, .ref y_isKept])), (y_sides, .inl (D.2.1, 4, .inl (nA mSC))), (y_other, .inl (D.2.1, 10, .inl (nA mTV))), (y_now, .inl (D.2.1, 26, .inl (nA mNW))), (y_firstOf, .inl (D.2.1, 100, .inl (nA mF1))), (y_secondOf, .inl (D.2.1, 100, .inl (zA mF2))), (y_shown, .inl (D.2.1, 4, .inl (nA mSH)))] [.ref mo] (iI (gapTo (canS mhn e9 (shM mTV mSC mNW mcu)) mlo (e9 - mlo))) [(mo, .inr (8, [.int (nI mhd.toNat), .int (nI mlo), .int (nI mto), .int (nI mhn.toNat), .int (nI mcu), .ref y_sides, .ref y_other, .ref y_prices, .ref y_now, .int (nI msd), .ref y_text, .int (nI mlen), .int (iI mfa), .int (nI mat), .int (nI mnu), .int (nI mna), .int (nI mri.toNat), .ref y_readDays, .int (nI mrc), .ref y_readSides, .ref y_readFigures, .int (nI mrp), .ref y_readOther, .ref y_readPrices, .int (nI mtp), .ref y_firstOf, .ref y_secondOf, .ref y_shown, .int (nI mun), .ref y_past, .ref y_choices, .int (nI mcm), .ref y_wanted, .int (nI mpm), .int (iI mpf), .int (nI mpo), .ref y_ways, .ref y_waysThen, .int (nI mwr), .ref y_wrongDay, .ref y_wrongShown, .ref y_could, .ref y_shownIn, .int (nI mbk), .ref y_book, .ref y_images, .ref y_isKept])), (y_sides, .inl (D.2.1, 4, .inl (nA mSC))), (y_other, .inl (D.2.1, 10, .inl (nA mTV))), (y_now, .inl (D.2.1, 26, .inl (nA mNW))), (y_firstOf, .inl (D.2.1, 100, .inl (nA mF1))), (y_secondOf, .inl (D.2.1, 100, .inl (zA mF2))), (y_shown, .inl (D.2.1, 4, .inl (nA (shM mTV mSC mNW mcu))))] := by
  refine cM.mk (by decide) (retI _) (Nat.le_of_ble_eq_true rfl) ?_
  intro X A hx hL hA hW hret ls hl
  subst hL
  have hl : lv_has ls 1 [(0, .ref mo)] := hl
  refine x_aload_n hx dX8_gap_0 hl 0 rfl ?_
  refine x_callMV (As := []) (rest := []) (wr := []) hx yv_X8_gapNow (c_X8_gapNow _ D mo mhd mlo mto mhn mcu y_sides y_other y_prices y_now msd y_text mlen mfa mat mnu mna mri y_readDays mrc y_readSides y_readFigures mrp y_readOther y_readPrices mtp y_firstOf y_secondOf y_shown mun y_past y_choices mcm y_wanted mpm mpf mpo y_ways y_waysThen mwr y_wrongDay y_wrongShown y_could y_shownIn mbk y_book y_images y_isKept mSC mTV mNW mF1 mF2 mSH e9 (by first | assumption | omega | (simp [*]; done)) (by first | assumption | omega | (simp [*]; done)) (by first | assumption | omega | (simp [*]; done)) (by first | assumption | omega | (simp [*]; done)) (by first | assumption | omega | (simp [*]; done)) (by first | assumption | omega | (simp [*]; done)) (by first | assumption | omega | (simp [*]; done)) (by first | assumption | omega | (simp [*]; done)) (by first | assumption | omega | (simp [*]; done)) (by first | assumption | omega | (simp [*]; done)) (by first | assumption | omega | (simp [*]; done))) wm_RX8_223 hA hW [0, 1, 2, 3, 4, 5, 6] [] rfl rfl rfl rfl rfl 0 rfl rfl ⟨rfl, rfl⟩ ⟨Nat.le_of_ble_eq_true rfl, Nat.le_of_ble_eq_true rfl⟩ ⟨Nat.zero_le _, Nat.zero_le _⟩ hl rfl rfl (Nat.le_of_ble_eq_true rfl) dX8_gap_1 [(mo, .inr (8, [.int (nI mhd.toNat), .int (nI mlo), .int (nI mto), .int (nI mhn.toNat), .int (nI mcu), .ref y_sides, .ref y_other, .ref y_prices, .ref y_now, .int (nI msd), .ref y_text, .int (nI mlen), .int (iI mfa), .int (nI mat), .int (nI mnu), .int (nI mna), .int (nI mri.toNat), .ref y_readDays, .int (nI mrc), .ref y_readSides, .ref y_readFigures, .int (nI mrp), .ref y_readOther, .ref y_readPrices, .int (nI mtp), .ref y_firstOf, .ref y_secondOf, .ref y_shown, .int (nI mun), .ref y_past, .ref y_choices, .int (nI mcm), .ref y_wanted, .int (nI mpm), .int (iI mpf), .int (nI mpo), .ref y_ways, .ref y_waysThen, .int (nI mwr), .ref y_wrongDay, .ref y_wrongShown, .ref y_could, .ref y_shownIn, .int (nI mbk), .ref y_book, .ref y_images, .ref y_isKept])), (y_sides, .inl (D.2.1, 4, .inl (nA mSC))), (y_other, .inl (D.2.1, 10, .inl (nA mTV))), (y_now, .inl (D.2.1, 26, .inl (nA mNW))), (y_firstOf, .inl (D.2.1, 100, .inl (nA mF1))), (y_secondOf, .inl (D.2.1, 100, .inl (zA mF2))), (y_shown, .inl (D.2.1, 4, .inl (nA (shM mTV mSC mNW mcu))))] rfl (fun H locs hW => ?_)
  exact hret _ _ _ _ _ dX8_gap_4 (rfl) hW
set_option maxHeartbeats 4000000 in
set_option maxRecDepth 100000 in
theorem c_X8_shown_no (l : Launch) (D : KD) (mo : Nat) (mhd : Bool) (mlo : Nat) (mto : Nat) (mhn : Bool) (mcu : Nat) (y_sides : Nat) (y_other : Nat) (y_prices : Nat) (y_now : Nat) (msd : Nat) (y_text : Nat) (mlen : Nat) (mfa : Int) (mat : Nat) (mnu : Nat) (mna : Nat) (mri : Bool) (y_readDays : Nat) (mrc : Nat) (y_readSides : Nat) (y_readFigures : Nat) (mrp : Nat) (y_readOther : Nat) (y_readPrices : Nat) (mtp : Nat) (y_firstOf : Nat) (y_secondOf : Nat) (y_shown : Nat) (mun : Nat) (y_past : Nat) (y_choices : Nat) (mcm : Nat) (y_wanted : Nat) (mpm : Nat) (mpf : Int) (mpo : Nat) (y_ways : Nat) (y_waysThen : Nat) (mwr : Nat) (y_wrongDay : Nat) (y_wrongShown : Nat) (y_could : Nat) (y_shownIn : Nat) (mbk : Nat) (y_book : Nat) (y_images : Nat) (y_isKept : Nat) (e9 : Nat) (z : Int) (w : Int) (hme : e9 = pk mhd (mto + 1) mlo) (hle : mlo ≤ e9) (he : e9 ≤ 100) (hto : mto ≤ 99) (hlo9 : mlo ≤ 99) (hz : -2147483648 ≤ z ∧ z < 2147483648) (hw : -2147483648 ≤ w ∧ w < 2147483648) (hno : ¬ ((mlo : Int) ≤ z ∧ z < (e9 : Int))) : cR l yX8_shown cX8_shown 4 (some .int) rm_X8_shown D [(mo, .inr (8, [.int (nI mhd.toNat), .int (nI mlo), .int (nI mto), .int (nI mhn.toNat), .int (nI mcu), .ref y_sides, .ref y_other, .ref y_prices, .ref y_now, .int (nI msd), .ref y_text, .int (nI mlen), .int (iI mfa), .int (nI mat), .int (nI mnu), .int (nI mna), .int (nI mri.toNat), .ref y_readDays, .int (nI mrc), .ref y_readSides, .ref y_readFigures, .int (nI mrp), .ref y_readOther, .ref y_readPrices, .int (nI mtp), .ref y_firstOf, .ref y_secondOf, .ref y_shown, .int (nI mun), .ref y_past, .ref y_choices, .int (nI mcm), .ref y_wanted, .int (nI mpm), .int (iI mpf), .int (nI mpo), .ref y_ways, .ref y_waysThen, .int (nI mwr), .ref y_wrongDay, .ref y_wrongShown, .ref y_could, .ref y_shownIn, .int (nI mbk), .ref y_book, .ref y_images, .ref y_isKept]))] [.ref mo, .int (iI z), .int (iI w)] (iI (-1000000002)) := by
  refine cR.mk (by decide) (retI _) (Nat.le_of_ble_eq_true rfl) ?_
  intro X hx hL hP hret ls hl
  subst hL
  have hl : lv_has ls 4 [(0, .ref mo), (1, .int (iI z)), (2, .int (iI w))] := hl
  have hme1 : mhd = true → e9 = mto + 1 := fun h9 => by rw [hme, pk_t h9]
  have hme0 : mhd = false → e9 = mlo := fun h9 => by rw [hme, pk_f h9]
  have hme2 : e9 = mto + 1 ∨ e9 = mlo := by
    cases hq9 : mhd with
    | true => exact Or.inl (hme1 hq9)
    | false => exact Or.inr (hme0 hq9)
  refine x_aload_n hx dX8_shown_0 hl 0 rfl ?_
  refine x_iload_n hx dX8_shown_1 hl 1 rfl ?_
  refine x_callRV (As := [.int (iI z)]) (rest := []) hx yv_X8_isDay (c_X8_isDay _ D mo mhd mlo mto mhn mcu y_sides y_other y_prices y_now msd y_text mlen mfa mat mnu mna mri y_readDays mrc y_readSides y_readFigures mrp y_readOther y_readPrices mtp y_firstOf y_secondOf y_shown mun y_past y_choices mcm y_wanted mpm mpf mpo y_ways y_waysThen mwr y_wrongDay y_wrongShown y_could y_shownIn mbk y_book y_images y_isKept z (by first | assumption | omega | (simp [*]; done)) (by first | assumption | omega | (simp [*]; done)) (by first | assumption | omega | (simp [*]; done))) wm_RX8_211 hP [0] rfl 0 rfl rfl ⟨rfl, rfl⟩ ⟨Nat.le_of_ble_eq_true rfl, Nat.le_of_ble_eq_true rfl⟩ ⟨Nat.zero_le _, Nat.zero_le _⟩ hl rfl rfl (Nat.le_of_ble_eq_true rfl) dX8_shown_2 ?_
  refine x_if_ne_B (tgt := 11) hx dX8_shown_5 (by decide) (fun h_1 => ?_) (fun h_1 => ?_)
  · simp only [Bool.and_eq_true, decide_eq_true_eq] at h_1
    have hx1 := hme1 h_1.1
    omega
  · refine x_ldc (u := iI (-1000000002)) hx wk_RX8_115 (by decide) dX8_shown_8 ?_
    exact hret _ _ _ dX8_shown_10 (rfl)
set_option maxHeartbeats 4000000 in
set_option maxRecDepth 100000 in
theorem c_X8_shown (l : Launch) (D : KD) (mo : Nat) (mhd : Bool) (mlo : Nat) (mto : Nat) (mhn : Bool) (mcu : Nat) (y_sides : Nat) (y_other : Nat) (y_prices : Nat) (y_now : Nat) (msd : Nat) (y_text : Nat) (mlen : Nat) (mfa : Int) (mat : Nat) (mnu : Nat) (mna : Nat) (mri : Bool) (y_readDays : Nat) (mrc : Nat) (y_readSides : Nat) (y_readFigures : Nat) (mrp : Nat) (y_readOther : Nat) (y_readPrices : Nat) (mtp : Nat) (y_firstOf : Nat) (y_secondOf : Nat) (y_shown : Nat) (mun : Nat) (y_past : Nat) (y_choices : Nat) (mcm : Nat) (y_wanted : Nat) (mpm : Nat) (mpf : Int) (mpo : Nat) (y_ways : Nat) (y_waysThen : Nat) (mwr : Nat) (y_wrongDay : Nat) (y_wrongShown : Nat) (y_could : Nat) (y_shownIn : Nat) (mbk : Nat) (y_book : Nat) (y_images : Nat) (y_isKept : Nat) (mSC : Nat → Nat) (mTV : Nat → Nat) (mNW : Nat → Nat) (mF1 : Nat → Nat) (mF2 : Nat → Int) (mSH : Nat → Nat) (e9 : Nat) (d : Nat) (w : Int) (hmSC : ∀ k, k < 4 → mSC k < 7) (hmTV : ∀ k, k < 10 → mTV k < 10) (hmNW : ∀ k, k < 24 → mNW k < 11) (hlo : mNW 24 < 16) (hcu : mcu ≤ 4) (hme : e9 = pk mhd (mto + 1) mlo) (hle : mlo ≤ e9) (he : e9 ≤ 100) (hto : mto ≤ 99) (hlo9 : mlo ≤ 99) (hPL : plOk mhn e9 mF1 mF2) (hd1 : mlo ≤ d) (hd2 : d < e9) (hw : -2147483648 ≤ w ∧ w < 2147483648) : cM l yX8_shown cX8_shown 4 (some .int) rm_X8_shown D [(mo, .inr (8, [.int (nI mhd.toNat), .int (nI mlo), .int (nI mto), .int (nI mhn.toNat), .int (nI mcu), .ref y_sides, .ref y_other, .ref y_prices, .ref y_now, .int (nI msd), .ref y_text, .int (nI mlen), .int (iI mfa), .int (nI mat), .int (nI mnu), .int (nI mna), .int (nI mri.toNat), .ref y_readDays, .int (nI mrc), .ref y_readSides, .ref y_readFigures, .int (nI mrp), .ref y_readOther, .ref y_readPrices, .int (nI mtp), .ref y_firstOf, .ref y_secondOf, .ref y_shown, .int (nI mun), .ref y_past, .ref y_choices, .int (nI mcm), .ref y_wanted, .int (nI mpm), .int (iI mpf), .int (nI mpo), .ref y_ways, .ref y_waysThen, .int (nI mwr), .ref y_wrongDay, .ref y_wrongShown, .ref y_could, .ref y_shownIn, .int (nI mbk), .ref y_book, .ref y_images, .ref y_isKept])), (y_sides, .inl (D.2.1, 4, .inl (nA mSC))), (y_other, .inl (D.2.1, 10, .inl (nA mTV))), (y_now, .inl (D.2.1, 26, .inl (nA mNW))), (y_firstOf, .inl (D.2.1, 100, .inl (nA mF1))), (y_secondOf, .inl (D.2.1, 100, .inl (zA mF2))), (y_shown, .inl (D.2.1, 4, .inl (nA mSH)))] [.ref mo, .int (nI d), .int (iI w)] (iI (shownF mhn e9 (shM mTV mSC mNW mcu) d w)) [(mo, .inr (8, [.int (nI mhd.toNat), .int (nI mlo), .int (nI mto), .int (nI mhn.toNat), .int (nI mcu), .ref y_sides, .ref y_other, .ref y_prices, .ref y_now, .int (nI msd), .ref y_text, .int (nI mlen), .int (iI mfa), .int (nI mat), .int (nI mnu), .int (nI mna), .int (nI mri.toNat), .ref y_readDays, .int (nI mrc), .ref y_readSides, .ref y_readFigures, .int (nI mrp), .ref y_readOther, .ref y_readPrices, .int (nI mtp), .ref y_firstOf, .ref y_secondOf, .ref y_shown, .int (nI mun), .ref y_past, .ref y_choices, .int (nI mcm), .ref y_wanted, .int (nI mpm), .int (iI mpf), .int (nI mpo), .ref y_ways, .ref y_waysThen, .int (nI mwr), .ref y_wrongDay, .ref y_wrongShown, .ref y_could, .ref y_shownIn, .int (nI mbk), .ref y_book, .ref y_images, .ref y_isKept])), (y_sides, .inl (D.2.1, 4, .inl (nA mSC))), (y_other, .inl (D.2.1, 10, .inl (nA mTV))), (y_now, .inl (D.2.1, 26, .inl (nA mNW))), (y_firstOf, .inl (D.2.1, 100, .inl (nA mF1))), (y_secondOf, .inl (D.2.1, 100, .inl (zA mF2))), (y_shown, .inl (D.2.1, 4, .inl (nA (shM mTV mSC mNW mcu))))] := by
  refine cM.mk (by decide) (retI _) (Nat.le_of_ble_eq_true rfl) ?_
  intro X A hx hL hA hW hret ls hl
  subst hL
  have hl : lv_has ls 4 [(0, .ref mo), (1, .int (nI d)), (2, .int (iI w))] := hl
  have hme1 : mhd = true → e9 = mto + 1 := fun h9 => by rw [hme, pk_t h9]
  have hme0 : mhd = false → e9 = mlo := fun h9 => by rw [hme, pk_f h9]
  have hme2 : e9 = mto + 1 ∨ e9 = mlo := by
    cases hq9 : mhd with
    | true => exact Or.inl (hme1 hq9)
    | false => exact Or.inr (hme0 hq9)
  have hSHl := shM_lt (cu := mcu) hmSC hmTV hmNW
  have hPd := hPL d hd2
  have hmd : mhd = true := by
    cases hq9 : mhd with
    | true => rfl
    | false => have := hme0 hq9; omega
  have hmt := hme1 hmd
  refine x_aload_n hx dX8_shown_0 hl 0 rfl ?_
  refine x_iload_n hx dX8_shown_1 hl 1 rfl ?_
  refine x_callRV (As := [.int (nI d)]) (rest := []) hx yv_X8_isDay (c_X8_isDay _ D mo mhd mlo mto mhn mcu y_sides y_other y_prices y_now msd y_text mlen mfa mat mnu mna mri y_readDays mrc y_readSides y_readFigures mrp y_readOther y_readPrices mtp y_firstOf y_secondOf y_shown mun y_past y_choices mcm y_wanted mpm mpf mpo y_ways y_waysThen mwr y_wrongDay y_wrongShown y_could y_shownIn mbk y_book y_images y_isKept (d : Int) (by first | assumption | omega | (simp [*]; done)) (by first | assumption | omega | (simp [*]; done)) (by first | assumption | omega | (simp [*]; done))) wm_RX8_211 hW.1 [0] rfl 0 rfl rfl ⟨rfl, rfl⟩ ⟨Nat.le_of_ble_eq_true rfl, Nat.le_of_ble_eq_true rfl⟩ ⟨Nat.zero_le _, Nat.zero_le _⟩ hl rfl rfl (Nat.le_of_ble_eq_true rfl) dX8_shown_2 ?_
  refine x_if_ne_B (tgt := 11) hx dX8_shown_5 (by decide) (fun h_1 => ?_) (fun h_1 => ?_)
  · refine x_aload_n hx dX8_shown_11 hl 0 rfl ?_
    refine x_callVV (As := []) (rest := []) (wr := [(y_firstOf, .inl (D.2.1, 100, .inl (nA mF1))), (y_secondOf, .inl (D.2.1, 100, .inl (zA mF2)))]) hx yv_X8_findShown (c_X8_findShown _ D mo mhd mlo mto mhn mcu y_sides y_other y_prices y_now msd y_text mlen mfa mat mnu mna mri y_readDays mrc y_readSides y_readFigures mrp y_readOther y_readPrices mtp y_firstOf y_secondOf y_shown mun y_past y_choices mcm y_wanted mpm mpf mpo y_ways y_waysThen mwr y_wrongDay y_wrongShown y_could y_shownIn mbk y_book y_images y_isKept mSC mTV mNW mSH (by first | assumption | omega | (simp [*]; done)) (by first | assumption | omega | (simp [*]; done)) (by first | assumption | omega | (simp [*]; done)) (by first | assumption | omega | (simp [*]; done)) (by first | assumption | omega | (simp [*]; done))) wm_RX8_214 hA hW [0, 1, 2, 3, 6] [4, 5] rfl rfl rfl rfl rfl 0 rfl rfl ⟨rfl, rfl⟩ ⟨Nat.le_of_ble_eq_true rfl, Nat.le_of_ble_eq_true rfl⟩ ⟨Nat.zero_le _, Nat.zero_le _⟩ hl rfl rfl (Nat.le_of_ble_eq_true rfl) dX8_shown_12 [(y_firstOf, .inl (D.2.1, 100, .inl (nA mF1))), (y_secondOf, .inl (D.2.1, 100, .inl (zA mF2))), (mo, .inr (8, [.int (nI mhd.toNat), .int (nI mlo), .int (nI mto), .int (nI mhn.toNat), .int (nI mcu), .ref y_sides, .ref y_other, .ref y_prices, .ref y_now, .int (nI msd), .ref y_text, .int (nI mlen), .int (iI mfa), .int (nI mat), .int (nI mnu), .int (nI mna), .int (nI mri.toNat), .ref y_readDays, .int (nI mrc), .ref y_readSides, .ref y_readFigures, .int (nI mrp), .ref y_readOther, .ref y_readPrices, .int (nI mtp), .ref y_firstOf, .ref y_secondOf, .ref y_shown, .int (nI mun), .ref y_past, .ref y_choices, .int (nI mcm), .ref y_wanted, .int (nI mpm), .int (iI mpf), .int (nI mpo), .ref y_ways, .ref y_waysThen, .int (nI mwr), .ref y_wrongDay, .ref y_wrongShown, .ref y_could, .ref y_shownIn, .int (nI mbk), .ref y_book, .ref y_images, .ref y_isKept])), (y_sides, .inl (D.2.1, 4, .inl (nA mSC))), (y_other, .inl (D.2.1, 10, .inl (nA mTV))), (y_now, .inl (D.2.1, 26, .inl (nA mNW))), (y_shown, .inl (D.2.1, 4, .inl (nA (shM mTV mSC mNW mcu))))] rfl (fun H locs hW => ?_)
    refine x_aload_n hx dX8_shown_15 hl 0 rfl ?_
    refine x_iload_n hx dX8_shown_16 hl 1 rfl ?_
    refine x_callRV (As := [.int (nI d)]) (rest := []) hx yv_X8_howShown (c_X8_howShown _ D mo mhd mlo mto mhn mcu y_sides y_other y_prices y_now msd y_text mlen mfa mat mnu mna mri y_readDays mrc y_readSides y_readFigures mrp y_readOther y_readPrices mtp y_firstOf y_secondOf y_shown mun y_past y_choices mcm y_wanted mpm mpf mpo y_ways y_waysThen mwr y_wrongDay y_wrongShown y_could y_shownIn mbk y_book y_images y_isKept mF1 mF2 (shM mTV mSC mNW mcu) d (hasTwo mhn e9 d) (by first | assumption | omega | (simp [*]; done)) (by exact hSHl) (by exact hPd.1) (by exact hPd.2) (by exact two_f hd2)) wm_RX8_217 hW.1 [2, 0, 1, 6] rfl 2 rfl rfl ⟨rfl, rfl⟩ ⟨Nat.le_of_ble_eq_true rfl, Nat.le_of_ble_eq_true rfl⟩ ⟨Nat.zero_le _, Nat.zero_le _⟩ hl rfl rfl (Nat.le_of_ble_eq_true rfl) dX8_shown_17 ?_
    rcases (howS_c (hasTwo mhn e9 d) (shM mTV mSC mNW mcu) d) with hca | hca
    · have hsplit : True := trivial
      obtain ⟨hv, hhv⟩ := Int.eq_ofNat_of_zero_le hca.2
      have hdv := howS_d (show d < 100 by omega) hca.1 hhv
      refine x_top (u := nI hv) (congrArg iI hhv) ?_
      have hhr := howS_rng (hasTwo mhn e9 d) (shM mTV mSC mNW mcu) d
      rw [hhv] at hhr
      have hcS : canS mhn e9 (shM mTV mSC mNW mcu) d = true := hca.1
      refine x_istore_n (lv' := [(3, .int (nI hv)), (0, .ref mo), (1, .int (nI d)), (2, .int (iI w))]) hx dX8_shown_20 hl (Nat.le_of_ble_eq_true rfl) rfl (fun ls hl => ?_)
      refine x_iload_n hx dX8_shown_21 hl 3 rfl ?_
      refine x_iconst (v := iI (-1)) hx dX8_shown_22 (by decide) ?_
      refine x_icmp_ne_Z (a := w) (b := (-1)) (tgt := 36) hx dX8_shown_23 (by decide) (by omega) (by omega) (fun h_2 => ?_) (fun h_2 => ?_)
      · refine x_iload_n hx dX8_shown_36 hl 0 rfl ?_
        refine x_if_ge_N (a := hv) (tgt := 44) hx dX8_shown_37 (by decide) (by omega) (fun h_3 => ?_) (fun h_3 => ?_)
        · refine x_iload_n hx dX8_shown_44 hl 3 rfl ?_
          refine x_if_ne_Z (a := w) (tgt := 54) hx dX8_shown_45 (by decide) (by omega) (fun h_4 => ?_) (fun h_4 => ?_)
          · refine x_iload_n hx dX8_shown_54 hl 3 rfl ?_
            refine x_iconst (v := nI 1) hx dX8_shown_55 (by decide) ?_
            refine x_icmp_ne_Z (a := w) (b := 1) (tgt := 74) hx dX8_shown_56 (by decide) (by omega) (by omega) (fun h_5 => ?_) (fun h_5 => ?_)
            · refine x_iconst (v := iI (-1)) hx dX8_shown_74 (by decide) ?_
              exact hret _ _ _ _ _ dX8_shown_75 (by (first | rw [shF_m (show d < 100 by omega) hca.1 hhv] | rw [shF_n hcS]); (repeat first | rw [if_pos (by omega)] | rw [if_neg (by omega)] | rw [if_pos htf] | rw [if_neg (by rw [htf]; decide)]); first | done | rfl) (hW.conv [2, 3, 4, 5, 0, 1, 6] (w1 := [(mo, .inr (8, [.int (nI mhd.toNat), .int (nI mlo), .int (nI mto), .int (nI mhn.toNat), .int (nI mcu), .ref y_sides, .ref y_other, .ref y_prices, .ref y_now, .int (nI msd), .ref y_text, .int (nI mlen), .int (iI mfa), .int (nI mat), .int (nI mnu), .int (nI mna), .int (nI mri.toNat), .ref y_readDays, .int (nI mrc), .ref y_readSides, .ref y_readFigures, .int (nI mrp), .ref y_readOther, .ref y_readPrices, .int (nI mtp), .ref y_firstOf, .ref y_secondOf, .ref y_shown, .int (nI mun), .ref y_past, .ref y_choices, .int (nI mcm), .ref y_wanted, .int (nI mpm), .int (iI mpf), .int (nI mpo), .ref y_ways, .ref y_waysThen, .int (nI mwr), .ref y_wrongDay, .ref y_wrongShown, .ref y_could, .ref y_shownIn, .int (nI mbk), .ref y_book, .ref y_images, .ref y_isKept])), (y_sides, .inl (D.2.1, 4, .inl (nA mSC))), (y_other, .inl (D.2.1, 10, .inl (nA mTV))), (y_now, .inl (D.2.1, 26, .inl (nA mNW))), (y_firstOf, .inl (D.2.1, 100, .inl (nA mF1))), (y_secondOf, .inl (D.2.1, 100, .inl (zA mF2))), (y_shown, .inl (D.2.1, 4, .inl (nA (shM mTV mSC mNW mcu))))]) (w2 := [(mo, .inr (8, [.int (nI mhd.toNat), .int (nI mlo), .int (nI mto), .int (nI mhn.toNat), .int (nI mcu), .ref y_sides, .ref y_other, .ref y_prices, .ref y_now, .int (nI msd), .ref y_text, .int (nI mlen), .int (iI mfa), .int (nI mat), .int (nI mnu), .int (nI mna), .int (nI mri.toNat), .ref y_readDays, .int (nI mrc), .ref y_readSides, .ref y_readFigures, .int (nI mrp), .ref y_readOther, .ref y_readPrices, .int (nI mtp), .ref y_firstOf, .ref y_secondOf, .ref y_shown, .int (nI mun), .ref y_past, .ref y_choices, .int (nI mcm), .ref y_wanted, .int (nI mpm), .int (iI mpf), .int (nI mpo), .ref y_ways, .ref y_waysThen, .int (nI mwr), .ref y_wrongDay, .ref y_wrongShown, .ref y_could, .ref y_shownIn, .int (nI mbk), .ref y_book, .ref y_images, .ref y_isKept])), (y_sides, .inl (D.2.1, 4, .inl (nA mSC))), (y_other, .inl (D.2.1, 10, .inl (nA mTV))), (y_now, .inl (D.2.1, 26, .inl (nA mNW))), (y_firstOf, .inl (D.2.1, 100, .inl (nA mF1))), (y_secondOf, .inl (D.2.1, 100, .inl (zA mF2))), (y_shown, .inl (D.2.1, 4, .inl (nA (shM mTV mSC mNW mcu))))]) rfl rfl rfl)
            · refine x_aload_n hx dX8_shown_59 hl 1 rfl ?_
              refine x_get8 hx hW.1 2 rfl 26 (Nat.le_of_ble_eq_true rfl) wf_RX8_47 rfl dX8_shown_60 ?_
              refine x_iload_n hx dX8_shown_63 hl 2 rfl ?_
              have hj_64 : d < 100 := by omega
              refine x_iald (v := iI (mF2 d)) hx hW.1 1 rfl hj_64 (by decide) (rfl) dX8_shown_64 ?_
              have hF2r : -1 ≤ mF2 d ∧ mF2 d < 10 := by
                rw [hPd.2]
                split <;> omega
              refine x_if_lt_Z (a := (mF2 d)) (tgt := 74) hx dX8_shown_65 (by decide) (by omega) (fun h_6 => ?_) (fun h_6 => ?_)
              · have hF2 := hPd.2
                have htf : hasTwo mhn e9 d = false := by
                  cases hq8 : hasTwo mhn e9 d with
                  | false => rfl
                  | true => rw [hq8, if_pos rfl] at hF2; omega
                refine x_iconst (v := iI (-1)) hx dX8_shown_74 (by decide) ?_
                exact hret _ _ _ _ _ dX8_shown_75 (by (first | rw [shF_m (show d < 100 by omega) hca.1 hhv] | rw [shF_n hcS]); (repeat first | rw [if_pos (by omega)] | rw [if_neg (by omega)] | rw [if_pos htf] | rw [if_neg (by rw [htf]; decide)]); first | done | rfl) (hW.conv [2, 3, 4, 5, 0, 1, 6] (w1 := [(mo, .inr (8, [.int (nI mhd.toNat), .int (nI mlo), .int (nI mto), .int (nI mhn.toNat), .int (nI mcu), .ref y_sides, .ref y_other, .ref y_prices, .ref y_now, .int (nI msd), .ref y_text, .int (nI mlen), .int (iI mfa), .int (nI mat), .int (nI mnu), .int (nI mna), .int (nI mri.toNat), .ref y_readDays, .int (nI mrc), .ref y_readSides, .ref y_readFigures, .int (nI mrp), .ref y_readOther, .ref y_readPrices, .int (nI mtp), .ref y_firstOf, .ref y_secondOf, .ref y_shown, .int (nI mun), .ref y_past, .ref y_choices, .int (nI mcm), .ref y_wanted, .int (nI mpm), .int (iI mpf), .int (nI mpo), .ref y_ways, .ref y_waysThen, .int (nI mwr), .ref y_wrongDay, .ref y_wrongShown, .ref y_could, .ref y_shownIn, .int (nI mbk), .ref y_book, .ref y_images, .ref y_isKept])), (y_sides, .inl (D.2.1, 4, .inl (nA mSC))), (y_other, .inl (D.2.1, 10, .inl (nA mTV))), (y_now, .inl (D.2.1, 26, .inl (nA mNW))), (y_firstOf, .inl (D.2.1, 100, .inl (nA mF1))), (y_secondOf, .inl (D.2.1, 100, .inl (zA mF2))), (y_shown, .inl (D.2.1, 4, .inl (nA (shM mTV mSC mNW mcu))))]) (w2 := [(mo, .inr (8, [.int (nI mhd.toNat), .int (nI mlo), .int (nI mto), .int (nI mhn.toNat), .int (nI mcu), .ref y_sides, .ref y_other, .ref y_prices, .ref y_now, .int (nI msd), .ref y_text, .int (nI mlen), .int (iI mfa), .int (nI mat), .int (nI mnu), .int (nI mna), .int (nI mri.toNat), .ref y_readDays, .int (nI mrc), .ref y_readSides, .ref y_readFigures, .int (nI mrp), .ref y_readOther, .ref y_readPrices, .int (nI mtp), .ref y_firstOf, .ref y_secondOf, .ref y_shown, .int (nI mun), .ref y_past, .ref y_choices, .int (nI mcm), .ref y_wanted, .int (nI mpm), .int (iI mpf), .int (nI mpo), .ref y_ways, .ref y_waysThen, .int (nI mwr), .ref y_wrongDay, .ref y_wrongShown, .ref y_could, .ref y_shownIn, .int (nI mbk), .ref y_book, .ref y_images, .ref y_isKept])), (y_sides, .inl (D.2.1, 4, .inl (nA mSC))), (y_other, .inl (D.2.1, 10, .inl (nA mTV))), (y_now, .inl (D.2.1, 26, .inl (nA mNW))), (y_firstOf, .inl (D.2.1, 100, .inl (nA mF1))), (y_secondOf, .inl (D.2.1, 100, .inl (zA mF2))), (y_shown, .inl (D.2.1, 4, .inl (nA (shM mTV mSC mNW mcu))))]) rfl rfl rfl)
              · have hF2 := hPd.2
                have htf : hasTwo mhn e9 d = true := by
                  cases hq8 : hasTwo mhn e9 d with
                  | true => rfl
                  | false => rw [hq8] at hF2; simp at hF2; omega
                refine x_iload_n hx dX8_shown_68 hl 0 rfl ?_
                refine x_iconst (v := nI 4) hx dX8_shown_69 (by decide) ?_
                refine x_irem (v := nI (hv % 4)) hx dX8_shown_70 (by decide) (pk_rem (by omega) (by omega) (by omega)) ?_
                refine x_goto (tgt := 75) hx dX8_shown_71 (by decide) ?_
                exact hret _ _ _ _ _ dX8_shown_75 (by (first | rw [shF_m (show d < 100 by omega) hca.1 hhv] | rw [shF_n hcS]); (repeat first | rw [if_pos (by omega)] | rw [if_neg (by omega)] | rw [if_pos htf] | rw [if_neg (by rw [htf]; decide)]); first | done | rfl) (hW.conv [2, 3, 4, 5, 0, 1, 6] (w1 := [(mo, .inr (8, [.int (nI mhd.toNat), .int (nI mlo), .int (nI mto), .int (nI mhn.toNat), .int (nI mcu), .ref y_sides, .ref y_other, .ref y_prices, .ref y_now, .int (nI msd), .ref y_text, .int (nI mlen), .int (iI mfa), .int (nI mat), .int (nI mnu), .int (nI mna), .int (nI mri.toNat), .ref y_readDays, .int (nI mrc), .ref y_readSides, .ref y_readFigures, .int (nI mrp), .ref y_readOther, .ref y_readPrices, .int (nI mtp), .ref y_firstOf, .ref y_secondOf, .ref y_shown, .int (nI mun), .ref y_past, .ref y_choices, .int (nI mcm), .ref y_wanted, .int (nI mpm), .int (iI mpf), .int (nI mpo), .ref y_ways, .ref y_waysThen, .int (nI mwr), .ref y_wrongDay, .ref y_wrongShown, .ref y_could, .ref y_shownIn, .int (nI mbk), .ref y_book, .ref y_images, .ref y_isKept])), (y_sides, .inl (D.2.1, 4, .inl (nA mSC))), (y_other, .inl (D.2.1, 10, .inl (nA mTV))), (y_now, .inl (D.2.1, 26, .inl (nA mNW))), (y_firstOf, .inl (D.2.1, 100, .inl (nA mF1))), (y_secondOf, .inl (D.2.1, 100, .inl (zA mF2))), (y_shown, .inl (D.2.1, 4, .inl (nA (shM mTV mSC mNW mcu))))]) (w2 := [(mo, .inr (8, [.int (nI mhd.toNat), .int (nI mlo), .int (nI mto), .int (nI mhn.toNat), .int (nI mcu), .ref y_sides, .ref y_other, .ref y_prices, .ref y_now, .int (nI msd), .ref y_text, .int (nI mlen), .int (iI mfa), .int (nI mat), .int (nI mnu), .int (nI mna), .int (nI mri.toNat), .ref y_readDays, .int (nI mrc), .ref y_readSides, .ref y_readFigures, .int (nI mrp), .ref y_readOther, .ref y_readPrices, .int (nI mtp), .ref y_firstOf, .ref y_secondOf, .ref y_shown, .int (nI mun), .ref y_past, .ref y_choices, .int (nI mcm), .ref y_wanted, .int (nI mpm), .int (iI mpf), .int (nI mpo), .ref y_ways, .ref y_waysThen, .int (nI mwr), .ref y_wrongDay, .ref y_wrongShown, .ref y_could, .ref y_shownIn, .int (nI mbk), .ref y_book, .ref y_images, .ref y_isKept])), (y_sides, .inl (D.2.1, 4, .inl (nA mSC))), (y_other, .inl (D.2.1, 10, .inl (nA mTV))), (y_now, .inl (D.2.1, 26, .inl (nA mNW))), (y_firstOf, .inl (D.2.1, 100, .inl (nA mF1))), (y_secondOf, .inl (D.2.1, 100, .inl (zA mF2))), (y_shown, .inl (D.2.1, 4, .inl (nA (shM mTV mSC mNW mcu))))]) rfl rfl rfl)
          · refine x_iload_n hx dX8_shown_48 hl 0 rfl ?_
            refine x_iconst (v := nI 4) hx dX8_shown_49 (by decide) ?_
            refine x_idiv (v := nI (hv / 4)) hx dX8_shown_50 (by decide) (pk_div (by omega) (by omega) (by omega)) ?_
            refine x_goto (tgt := 75) hx dX8_shown_51 (by decide) ?_
            exact hret _ _ _ _ _ dX8_shown_75 (by (first | rw [shF_m (show d < 100 by omega) hca.1 hhv] | rw [shF_n hcS]); (repeat first | rw [if_pos (by omega)] | rw [if_neg (by omega)] | rw [if_pos htf] | rw [if_neg (by rw [htf]; decide)]); first | done | rfl) (hW.conv [2, 3, 4, 5, 0, 1, 6] (w1 := [(mo, .inr (8, [.int (nI mhd.toNat), .int (nI mlo), .int (nI mto), .int (nI mhn.toNat), .int (nI mcu), .ref y_sides, .ref y_other, .ref y_prices, .ref y_now, .int (nI msd), .ref y_text, .int (nI mlen), .int (iI mfa), .int (nI mat), .int (nI mnu), .int (nI mna), .int (nI mri.toNat), .ref y_readDays, .int (nI mrc), .ref y_readSides, .ref y_readFigures, .int (nI mrp), .ref y_readOther, .ref y_readPrices, .int (nI mtp), .ref y_firstOf, .ref y_secondOf, .ref y_shown, .int (nI mun), .ref y_past, .ref y_choices, .int (nI mcm), .ref y_wanted, .int (nI mpm), .int (iI mpf), .int (nI mpo), .ref y_ways, .ref y_waysThen, .int (nI mwr), .ref y_wrongDay, .ref y_wrongShown, .ref y_could, .ref y_shownIn, .int (nI mbk), .ref y_book, .ref y_images, .ref y_isKept])), (y_sides, .inl (D.2.1, 4, .inl (nA mSC))), (y_other, .inl (D.2.1, 10, .inl (nA mTV))), (y_now, .inl (D.2.1, 26, .inl (nA mNW))), (y_firstOf, .inl (D.2.1, 100, .inl (nA mF1))), (y_secondOf, .inl (D.2.1, 100, .inl (zA mF2))), (y_shown, .inl (D.2.1, 4, .inl (nA (shM mTV mSC mNW mcu))))]) (w2 := [(mo, .inr (8, [.int (nI mhd.toNat), .int (nI mlo), .int (nI mto), .int (nI mhn.toNat), .int (nI mcu), .ref y_sides, .ref y_other, .ref y_prices, .ref y_now, .int (nI msd), .ref y_text, .int (nI mlen), .int (iI mfa), .int (nI mat), .int (nI mnu), .int (nI mna), .int (nI mri.toNat), .ref y_readDays, .int (nI mrc), .ref y_readSides, .ref y_readFigures, .int (nI mrp), .ref y_readOther, .ref y_readPrices, .int (nI mtp), .ref y_firstOf, .ref y_secondOf, .ref y_shown, .int (nI mun), .ref y_past, .ref y_choices, .int (nI mcm), .ref y_wanted, .int (nI mpm), .int (iI mpf), .int (nI mpo), .ref y_ways, .ref y_waysThen, .int (nI mwr), .ref y_wrongDay, .ref y_wrongShown, .ref y_could, .ref y_shownIn, .int (nI mbk), .ref y_book, .ref y_images, .ref y_isKept])), (y_sides, .inl (D.2.1, 4, .inl (nA mSC))), (y_other, .inl (D.2.1, 10, .inl (nA mTV))), (y_now, .inl (D.2.1, 26, .inl (nA mNW))), (y_firstOf, .inl (D.2.1, 100, .inl (nA mF1))), (y_secondOf, .inl (D.2.1, 100, .inl (zA mF2))), (y_shown, .inl (D.2.1, 4, .inl (nA (shM mTV mSC mNW mcu))))]) rfl rfl rfl)
        · omega
      · refine x_iload_n hx dX8_shown_26 hl 0 rfl ?_
        refine x_if_ge_N (a := hv) (tgt := 34) hx dX8_shown_27 (by decide) (by omega) (fun h_7 => ?_) (fun h_7 => ?_)
        · refine x_iconst (v := nI 1) hx dX8_shown_34 (by decide) ?_
          exact hret _ _ _ _ _ dX8_shown_35 (by (first | rw [shF_m (show d < 100 by omega) hca.1 hhv] | rw [shF_n hcS]); (repeat first | rw [if_pos (by omega)] | rw [if_neg (by omega)] | rw [if_pos htf] | rw [if_neg (by rw [htf]; decide)]); first | done | rfl) (hW.conv [2, 3, 4, 5, 0, 1, 6] (w1 := [(mo, .inr (8, [.int (nI mhd.toNat), .int (nI mlo), .int (nI mto), .int (nI mhn.toNat), .int (nI mcu), .ref y_sides, .ref y_other, .ref y_prices, .ref y_now, .int (nI msd), .ref y_text, .int (nI mlen), .int (iI mfa), .int (nI mat), .int (nI mnu), .int (nI mna), .int (nI mri.toNat), .ref y_readDays, .int (nI mrc), .ref y_readSides, .ref y_readFigures, .int (nI mrp), .ref y_readOther, .ref y_readPrices, .int (nI mtp), .ref y_firstOf, .ref y_secondOf, .ref y_shown, .int (nI mun), .ref y_past, .ref y_choices, .int (nI mcm), .ref y_wanted, .int (nI mpm), .int (iI mpf), .int (nI mpo), .ref y_ways, .ref y_waysThen, .int (nI mwr), .ref y_wrongDay, .ref y_wrongShown, .ref y_could, .ref y_shownIn, .int (nI mbk), .ref y_book, .ref y_images, .ref y_isKept])), (y_sides, .inl (D.2.1, 4, .inl (nA mSC))), (y_other, .inl (D.2.1, 10, .inl (nA mTV))), (y_now, .inl (D.2.1, 26, .inl (nA mNW))), (y_firstOf, .inl (D.2.1, 100, .inl (nA mF1))), (y_secondOf, .inl (D.2.1, 100, .inl (zA mF2))), (y_shown, .inl (D.2.1, 4, .inl (nA (shM mTV mSC mNW mcu))))]) (w2 := [(mo, .inr (8, [.int (nI mhd.toNat), .int (nI mlo), .int (nI mto), .int (nI mhn.toNat), .int (nI mcu), .ref y_sides, .ref y_other, .ref y_prices, .ref y_now, .int (nI msd), .ref y_text, .int (nI mlen), .int (iI mfa), .int (nI mat), .int (nI mnu), .int (nI mna), .int (nI mri.toNat), .ref y_readDays, .int (nI mrc), .ref y_readSides, .ref y_readFigures, .int (nI mrp), .ref y_readOther, .ref y_readPrices, .int (nI mtp), .ref y_firstOf, .ref y_secondOf, .ref y_shown, .int (nI mun), .ref y_past, .ref y_choices, .int (nI mcm), .ref y_wanted, .int (nI mpm), .int (iI mpf), .int (nI mpo), .ref y_ways, .ref y_waysThen, .int (nI mwr), .ref y_wrongDay, .ref y_wrongShown, .ref y_could, .ref y_shownIn, .int (nI mbk), .ref y_book, .ref y_images, .ref y_isKept])), (y_sides, .inl (D.2.1, 4, .inl (nA mSC))), (y_other, .inl (D.2.1, 10, .inl (nA mTV))), (y_now, .inl (D.2.1, 26, .inl (nA mNW))), (y_firstOf, .inl (D.2.1, 100, .inl (nA mF1))), (y_secondOf, .inl (D.2.1, 100, .inl (zA mF2))), (y_shown, .inl (D.2.1, 4, .inl (nA (shM mTV mSC mNW mcu))))]) rfl rfl rfl)
        · omega
    · have hsplit : True := trivial
      refine x_top (u := iI (-1)) (congrArg iI hca.2) ?_
      have hcS : canS mhn e9 (shM mTV mSC mNW mcu) d = false := hca.1
      refine x_istore_n (lv' := [(3, .int (iI (-1))), (0, .ref mo), (1, .int (nI d)), (2, .int (iI w))]) hx dX8_shown_20 hl (Nat.le_of_ble_eq_true rfl) rfl (fun ls hl => ?_)
      refine x_iload_n hx dX8_shown_21 hl 3 rfl ?_
      refine x_iconst (v := iI (-1)) hx dX8_shown_22 (by decide) ?_
      refine x_icmp_ne_Z (a := w) (b := (-1)) (tgt := 36) hx dX8_shown_23 (by decide) (by omega) (by omega) (fun h_8 => ?_) (fun h_8 => ?_)
      · refine x_iload_n hx dX8_shown_36 hl 0 rfl ?_
        refine x_if_ge_Z (a := (-1)) (tgt := 44) hx dX8_shown_37 (by decide) (by omega) (fun h_9 => ?_) (fun h_9 => ?_)
        · omega
        · refine x_iconst (v := iI (-1)) hx dX8_shown_40 (by decide) ?_
          refine x_goto (tgt := 75) hx dX8_shown_41 (by decide) ?_
          exact hret _ _ _ _ _ dX8_shown_75 (by (first | rw [shF_m (show d < 100 by omega) hca.1 hhv] | rw [shF_n hcS]); (repeat first | rw [if_pos (by omega)] | rw [if_neg (by omega)] | rw [if_pos htf] | rw [if_neg (by rw [htf]; decide)]); first | done | rfl) (hW.conv [2, 3, 4, 5, 0, 1, 6] (w1 := [(mo, .inr (8, [.int (nI mhd.toNat), .int (nI mlo), .int (nI mto), .int (nI mhn.toNat), .int (nI mcu), .ref y_sides, .ref y_other, .ref y_prices, .ref y_now, .int (nI msd), .ref y_text, .int (nI mlen), .int (iI mfa), .int (nI mat), .int (nI mnu), .int (nI mna), .int (nI mri.toNat), .ref y_readDays, .int (nI mrc), .ref y_readSides, .ref y_readFigures, .int (nI mrp), .ref y_readOther, .ref y_readPrices, .int (nI mtp), .ref y_firstOf, .ref y_secondOf, .ref y_shown, .int (nI mun), .ref y_past, .ref y_choices, .int (nI mcm), .ref y_wanted, .int (nI mpm), .int (iI mpf), .int (nI mpo), .ref y_ways, .ref y_waysThen, .int (nI mwr), .ref y_wrongDay, .ref y_wrongShown, .ref y_could, .ref y_shownIn, .int (nI mbk), .ref y_book, .ref y_images, .ref y_isKept])), (y_sides, .inl (D.2.1, 4, .inl (nA mSC))), (y_other, .inl (D.2.1, 10, .inl (nA mTV))), (y_now, .inl (D.2.1, 26, .inl (nA mNW))), (y_firstOf, .inl (D.2.1, 100, .inl (nA mF1))), (y_secondOf, .inl (D.2.1, 100, .inl (zA mF2))), (y_shown, .inl (D.2.1, 4, .inl (nA (shM mTV mSC mNW mcu))))]) (w2 := [(mo, .inr (8, [.int (nI mhd.toNat), .int (nI mlo), .int (nI mto), .int (nI mhn.toNat), .int (nI mcu), .ref y_sides, .ref y_other, .ref y_prices, .ref y_now, .int (nI msd), .ref y_text, .int (nI mlen), .int (iI mfa), .int (nI mat), .int (nI mnu), .int (nI mna), .int (nI mri.toNat), .ref y_readDays, .int (nI mrc), .ref y_readSides, .ref y_readFigures, .int (nI mrp), .ref y_readOther, .ref y_readPrices, .int (nI mtp), .ref y_firstOf, .ref y_secondOf, .ref y_shown, .int (nI mun), .ref y_past, .ref y_choices, .int (nI mcm), .ref y_wanted, .int (nI mpm), .int (iI mpf), .int (nI mpo), .ref y_ways, .ref y_waysThen, .int (nI mwr), .ref y_wrongDay, .ref y_wrongShown, .ref y_could, .ref y_shownIn, .int (nI mbk), .ref y_book, .ref y_images, .ref y_isKept])), (y_sides, .inl (D.2.1, 4, .inl (nA mSC))), (y_other, .inl (D.2.1, 10, .inl (nA mTV))), (y_now, .inl (D.2.1, 26, .inl (nA mNW))), (y_firstOf, .inl (D.2.1, 100, .inl (nA mF1))), (y_secondOf, .inl (D.2.1, 100, .inl (zA mF2))), (y_shown, .inl (D.2.1, 4, .inl (nA (shM mTV mSC mNW mcu))))]) rfl rfl rfl)
      · refine x_iload_n hx dX8_shown_26 hl 0 rfl ?_
        refine x_if_ge_Z (a := (-1)) (tgt := 34) hx dX8_shown_27 (by decide) (by omega) (fun h_10 => ?_) (fun h_10 => ?_)
        · omega
        · refine x_iconst (v := nI 0) hx dX8_shown_30 (by decide) ?_
          refine x_goto (tgt := 35) hx dX8_shown_31 (by decide) ?_
          exact hret _ _ _ _ _ dX8_shown_35 (by (first | rw [shF_m (show d < 100 by omega) hca.1 hhv] | rw [shF_n hcS]); (repeat first | rw [if_pos (by omega)] | rw [if_neg (by omega)] | rw [if_pos htf] | rw [if_neg (by rw [htf]; decide)]); first | done | rfl) (hW.conv [2, 3, 4, 5, 0, 1, 6] (w1 := [(mo, .inr (8, [.int (nI mhd.toNat), .int (nI mlo), .int (nI mto), .int (nI mhn.toNat), .int (nI mcu), .ref y_sides, .ref y_other, .ref y_prices, .ref y_now, .int (nI msd), .ref y_text, .int (nI mlen), .int (iI mfa), .int (nI mat), .int (nI mnu), .int (nI mna), .int (nI mri.toNat), .ref y_readDays, .int (nI mrc), .ref y_readSides, .ref y_readFigures, .int (nI mrp), .ref y_readOther, .ref y_readPrices, .int (nI mtp), .ref y_firstOf, .ref y_secondOf, .ref y_shown, .int (nI mun), .ref y_past, .ref y_choices, .int (nI mcm), .ref y_wanted, .int (nI mpm), .int (iI mpf), .int (nI mpo), .ref y_ways, .ref y_waysThen, .int (nI mwr), .ref y_wrongDay, .ref y_wrongShown, .ref y_could, .ref y_shownIn, .int (nI mbk), .ref y_book, .ref y_images, .ref y_isKept])), (y_sides, .inl (D.2.1, 4, .inl (nA mSC))), (y_other, .inl (D.2.1, 10, .inl (nA mTV))), (y_now, .inl (D.2.1, 26, .inl (nA mNW))), (y_firstOf, .inl (D.2.1, 100, .inl (nA mF1))), (y_secondOf, .inl (D.2.1, 100, .inl (zA mF2))), (y_shown, .inl (D.2.1, 4, .inl (nA (shM mTV mSC mNW mcu))))]) (w2 := [(mo, .inr (8, [.int (nI mhd.toNat), .int (nI mlo), .int (nI mto), .int (nI mhn.toNat), .int (nI mcu), .ref y_sides, .ref y_other, .ref y_prices, .ref y_now, .int (nI msd), .ref y_text, .int (nI mlen), .int (iI mfa), .int (nI mat), .int (nI mnu), .int (nI mna), .int (nI mri.toNat), .ref y_readDays, .int (nI mrc), .ref y_readSides, .ref y_readFigures, .int (nI mrp), .ref y_readOther, .ref y_readPrices, .int (nI mtp), .ref y_firstOf, .ref y_secondOf, .ref y_shown, .int (nI mun), .ref y_past, .ref y_choices, .int (nI mcm), .ref y_wanted, .int (nI mpm), .int (iI mpf), .int (nI mpo), .ref y_ways, .ref y_waysThen, .int (nI mwr), .ref y_wrongDay, .ref y_wrongShown, .ref y_could, .ref y_shownIn, .int (nI mbk), .ref y_book, .ref y_images, .ref y_isKept])), (y_sides, .inl (D.2.1, 4, .inl (nA mSC))), (y_other, .inl (D.2.1, 10, .inl (nA mTV))), (y_now, .inl (D.2.1, 26, .inl (nA mNW))), (y_firstOf, .inl (D.2.1, 100, .inl (nA mF1))), (y_secondOf, .inl (D.2.1, 100, .inl (zA mF2))), (y_shown, .inl (D.2.1, 4, .inl (nA (shM mTV mSC mNW mcu))))]) rfl rfl rfl)
  · simp only [hmd, Bool.true_and, decide_eq_false_iff_not] at h_1
    omega
