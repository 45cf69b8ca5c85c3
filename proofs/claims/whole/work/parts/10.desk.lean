/-! pure words: from lo up to d -/
def mxN (f : Nat → Nat) : Nat → Nat
  | 0 => 0
  | n + 1 => max (mxN f n) (f n)
def mxTo (f : Nat → Nat) (lo d : Nat) : Nat := mxN (fun i => f (lo + i)) (d - lo)
theorem mxTo_0 (f : Nat → Nat) (lo : Nat) : mxTo f lo lo = 0 := by simp [mxTo, mxN]
theorem mxTo_s (f : Nat → Nat) {lo d : Nat} (h : lo ≤ d) : mxTo f lo (d + 1) = max (mxTo f lo d) (f d) := by
  have e : d + 1 - lo = (d - lo) + 1 := by omega
  simp only [mxTo, e, mxN]
  congr 2; omega
theorem mxN_le {f : Nat → Nat} {b : Nat} (h : ∀ i, f i ≤ b) : ∀ n, mxN f n ≤ b
  | 0 => Nat.zero_le _
  | n + 1 => by simp only [mxN]; have := mxN_le h n; have := h n; omega
theorem mxTo_le {f : Nat → Nat} {b : Nat} (h : ∀ i, f i ≤ b) (lo d : Nat) : mxTo f lo d ≤ b := mxN_le (fun i => h _) _
def cntN (p : Nat → Bool) : Nat → Nat
  | 0 => 0
  | n + 1 => cntN p n + (p n).toNat
def cntTo (p : Nat → Bool) (lo d : Nat) : Nat := cntN (fun i => p (lo + i)) (d - lo)
theorem cntTo_0 (p : Nat → Bool) (lo : Nat) : cntTo p lo lo = 0 := by simp [cntTo, cntN]
theorem cntTo_s (p : Nat → Bool) {lo d : Nat} (h : lo ≤ d) : cntTo p lo (d + 1) = cntTo p lo d + (p d).toNat := by
  have e : d + 1 - lo = (d - lo) + 1 := by omega
  simp only [cntTo, e, cntN]
  congr 3; omega
theorem cntN_le (p : Nat → Bool) : ∀ n, cntN p n ≤ n
  | 0 => Nat.le_refl _
  | n + 1 => by simp only [cntN]; have := cntN_le p n; have := Bool.toNat_le (p n); omega
theorem cntTo_le (p : Nat → Bool) (lo d : Nat) : cntTo p lo d ≤ d - lo := cntN_le _ _
/-- a day has two places -/
def hasTwo (hn : Bool) (e d : Nat) : Bool := if hn then decide (11 ≤ e) else decide (10 ≤ d)
/-- a figure and what it is turned over -/
def both (TV : Nat → Nat) (g : Nat) : Nat := 2 ^ g ||| 2 ^ TV g
def often (TV : Nat → Nat) (hn : Bool) (e g d : Nat) : Nat := ((both TV g).testBit (d % 10)).toNat + (if hasTwo hn e d then ((both TV g).testBit (d / 10)).toNat else 0)
theorem often_le (TV : Nat → Nat) (hn : Bool) (e g d : Nat) : often TV hn e g d ≤ 2 := by
  unfold often
  have := Bool.toNat_le ((both TV g).testBit (d % 10))
  have := Bool.toNat_le ((both TV g).testBit (d / 10))
  split <;> omega
theorem both_lt {TV : Nat → Nat} {g : Nat} (hg : g < 10) (ht : TV g < 10) : both TV g < 1024 := by
  have h1 : 2 ^ g < 2 ^ 10 := Nat.pow_lt_pow_right (by decide) hg
  have h2 : 2 ^ TV g < 2 ^ 10 := Nat.pow_lt_pow_right (by decide) ht
  exact Nat.or_lt_two_pow h1 h2
def mostO (TV : Nat → Nat) (hn : Bool) (lo e g : Nat) : Nat := mxTo (often TV hn e g) lo e
def sideB (cu : Nat) (SC : Nat → Nat) (z w : Int) : Bool := decide (0 ≤ z ∧ z < (cu : Int) ∧ 0 ≤ w ∧ w < (SC z.toNat : Int))
set_option maxHeartbeats 4000000 in
set_option maxRecDepth 100000 in
theorem c_X0_hasCube (l : Launch) (D : KD) (tb : Nat) (thd : Bool) (tlo : Nat) (te : Nat) (thn : Bool) (tcu : Nat) (tsc : Nat) (tfg : Nat) (ttv : Nat) (tpr : Nat) (z : Int) (hcu : tcu ≤ 4) (hz : -2147483648 ≤ z ∧ z < 2147483648) : cR l yX0_hasCube cX0_hasCube 2 (some .boolean) rm_X0_hasCube D [(tb, .inr (0, [.int (nI thd.toNat), .int (nI tlo), .int (iI ((te : Int) - 1)), .int (nI thn.toNat), .int (nI tcu), .ref tsc, .ref tfg, .ref ttv, .ref tpr]))] [.ref tb, .int (iI z)] (nI (decide (0 ≤ z ∧ z < (tcu : Int))).toNat) := by
  refine cR.mk (by decide) (retZ _) (Nat.le_of_ble_eq_true rfl) ?_
  intro X hx hL hP hret ls hl
  subst hL
  have hl : lv_has ls 2 [(0, .ref tb), (1, .int (iI z))] := hl
  refine x_iload_n hx dX0_hasCube_0 hl 1 rfl ?_
  refine x_if_lt_Z (a := z) (tgt := 21) hx dX0_hasCube_1 (by decide) (by omega) (fun h_1 => ?_) (fun h_1 => ?_)
  · refine x_iconst (v := nI 0) hx dX0_hasCube_21 (by decide) ?_
    exact hret _ _ _ dX0_hasCube_22 (by first | exact retF _ (by first | omega | (simp [*]; done)) | (simp [*]; done))
  · refine x_iload_n hx dX0_hasCube_4 hl 1 rfl ?_
    refine x_aload_n hx dX0_hasCube_5 hl 0 rfl ?_
    refine x_get0 hx hP 0 rfl 4 (Nat.le_of_ble_eq_true rfl) wf_RX0_41 rfl dX0_hasCube_6 ?_
    refine x_icmp_ge_Z (a := z) (b := (tcu : Int)) (tgt := 21) hx dX0_hasCube_9 (by decide) (by omega) (by omega) (fun h_2 => ?_) (fun h_2 => ?_)
    · refine x_iconst (v := nI 0) hx dX0_hasCube_21 (by decide) ?_
      exact hret _ _ _ dX0_hasCube_22 (by first | exact retF _ (by first | omega | (simp [*]; done)) | (simp [*]; done))
    · refine x_iload_n hx dX0_hasCube_12 hl 1 rfl ?_
      refine x_iconst (v := nI 4) hx dX0_hasCube_13 (by decide) ?_
      refine x_icmp_ge_Z (a := z) (b := 4) (tgt := 21) hx dX0_hasCube_14 (by decide) (by omega) (by omega) (fun h_3 => ?_) (fun h_3 => ?_)
      · refine x_iconst (v := nI 0) hx dX0_hasCube_21 (by decide) ?_
        exact hret _ _ _ dX0_hasCube_22 (by first | exact retF _ (by first | omega | (simp [*]; done)) | (simp [*]; done))
      · refine x_iconst (v := nI 1) hx dX0_hasCube_17 (by decide) ?_
        refine x_goto (tgt := 22) hx dX0_hasCube_18 (by decide) ?_
        exact hret _ _ _ dX0_hasCube_22 (by first | exact retT _ (by first | omega | (simp [*]; done)) | (simp [*]; done))
set_option maxHeartbeats 4000000 in
set_option maxRecDepth 100000 in
theorem c_X0_hasSide (l : Launch) (D : KD) (tb : Nat) (thd : Bool) (tlo : Nat) (te : Nat) (thn : Bool) (tcu : Nat) (tsc : Nat) (tfg : Nat) (ttv : Nat) (tpr : Nat) (tSC : Nat → Nat) (z : Int) (w : Int) (htSC : ∀ k, k < 4 → tSC k < 7) (hcu : tcu ≤ 4) (hz : -2147483648 ≤ z ∧ z < 2147483648) (hw : -2147483648 ≤ w ∧ w < 2147483648) : cR l yX0_hasSide cX0_hasSide 3 (some .boolean) rm_X0_hasSide D [(tb, .inr (0, [.int (nI thd.toNat), .int (nI tlo), .int (iI ((te : Int) - 1)), .int (nI thn.toNat), .int (nI tcu), .ref tsc, .ref tfg, .ref ttv, .ref tpr])), (tsc, .inl (D.2.1, 4, .inl (nA tSC)))] [.ref tb, .int (iI z), .int (iI w)] (nI (sideB tcu tSC z w).toNat) := by
  refine cR.mk (by decide) (retZ _) (Nat.le_of_ble_eq_true rfl) ?_
  intro X hx hL hP hret ls hl
  subst hL
  have hl : lv_has ls 3 [(0, .ref tb), (1, .int (iI z)), (2, .int (iI w))] := hl
  refine x_aload_n hx dX0_hasSide_0 hl 0 rfl ?_
  refine x_iload_n hx dX0_hasSide_1 hl 1 rfl ?_
  refine x_callRV (As := [.int (iI z)]) (rest := []) hx yv_X0_hasCube (c_X0_hasCube _ D tb thd tlo te thn tcu tsc tfg ttv tpr z (by first | assumption | omega | (simp [*]; done)) (by first | assumption | omega | (simp [*]; done))) wm_RX0_50 hP [0] rfl 0 rfl rfl ⟨rfl, rfl⟩ ⟨Nat.le_of_ble_eq_true rfl, Nat.le_of_ble_eq_true rfl⟩ ⟨Nat.zero_le _, Nat.zero_le _⟩ hl rfl rfl (Nat.le_of_ble_eq_true rfl) dX0_hasSide_2 ?_
  refine x_if_eq_B (tgt := 32) hx dX0_hasSide_5 (by decide) (fun h_1 => ?_) (fun h_1 => ?_)
  · have hd_2 := of_decide_eq_false h_1
    refine x_iconst (v := nI 0) hx dX0_hasSide_32 (by decide) ?_
    exact hret _ _ _ dX0_hasSide_33 (by (try simp only [sideB]); (try simp only [*, if_true, if_false, Bool.false_eq_true, reduceIte]); first | rfl | exact retT _ (by first | omega | (simp only [Int.toNat_natCast]; omega)) | exact retF _ (by first | omega | (simp only [Int.toNat_natCast]; omega)) | (simp [*]; done))
  · have hd_3 := of_decide_eq_true h_1
    obtain ⟨c, rfl⟩ := Int.eq_ofNat_of_zero_le (show 0 ≤ z from by omega)
    have hl : lv_has ls 3 [(0, .ref tb), (1, .int (nI c)), (2, .int (iI w))] := hl
    refine x_iload_n hx dX0_hasSide_8 hl 2 rfl ?_
    refine x_if_lt_Z (a := w) (tgt := 32) hx dX0_hasSide_9 (by decide) (by omega) (fun h_4 => ?_) (fun h_4 => ?_)
    · refine x_iconst (v := nI 0) hx dX0_hasSide_32 (by decide) ?_
      exact hret _ _ _ dX0_hasSide_33 (by (try simp only [sideB]); (try simp only [*, if_true, if_false, Bool.false_eq_true, reduceIte]); first | rfl | exact retT _ (by first | omega | (simp only [Int.toNat_natCast]; omega)) | exact retF _ (by first | omega | (simp only [Int.toNat_natCast]; omega)) | (simp [*]; done))
    · refine x_iload_n hx dX0_hasSide_12 hl 2 rfl ?_
      refine x_aload_n hx dX0_hasSide_13 hl 0 rfl ?_
      refine x_get0 hx hP 0 rfl 5 (Nat.le_of_ble_eq_true rfl) wf_RX0_9 rfl dX0_hasSide_14 ?_
      refine x_iload_n hx dX0_hasSide_17 hl 1 rfl ?_
      have hj_18 : c < 4 := by omega
      refine x_iald (v := nI (tSC c)) hx hP 1 rfl hj_18 (by decide) rfl dX0_hasSide_18 ?_
      have b_5 := htSC c hj_18
      refine x_icmp_ge_Z (a := w) (b := ((tSC c : Nat) : Int)) (tgt := 32) hx dX0_hasSide_19 (by decide) (by omega) (by omega) (fun h_6 => ?_) (fun h_6 => ?_)
      · refine x_iconst (v := nI 0) hx dX0_hasSide_32 (by decide) ?_
        exact hret _ _ _ dX0_hasSide_33 (by (try simp only [sideB]); (try simp only [*, if_true, if_false, Bool.false_eq_true, reduceIte]); first | rfl | exact retT _ (by first | omega | (simp only [Int.toNat_natCast]; omega)) | exact retF _ (by first | omega | (simp only [Int.toNat_natCast]; omega)) | (simp [*]; done))
      · refine x_iload_n hx dX0_hasSide_22 hl 2 rfl ?_
        refine x_bipush (v := nI 6) hx dX0_hasSide_23 (by decide) ?_
        refine x_icmp_ge_Z (a := w) (b := 6) (tgt := 32) hx dX0_hasSide_25 (by decide) (by omega) (by omega) (fun h_7 => ?_) (fun h_7 => ?_)
        · refine x_iconst (v := nI 0) hx dX0_hasSide_32 (by decide) ?_
          exact hret _ _ _ dX0_hasSide_33 (by (try simp only [sideB]); (try simp only [*, if_true, if_false, Bool.false_eq_true, reduceIte]); first | rfl | exact retT _ (by first | omega | (simp only [Int.toNat_natCast]; omega)) | exact retF _ (by first | omega | (simp only [Int.toNat_natCast]; omega)) | (simp [*]; done))
        · refine x_iconst (v := nI 1) hx dX0_hasSide_28 (by decide) ?_
          refine x_goto (tgt := 33) hx dX0_hasSide_29 (by decide) ?_
          exact hret _ _ _ dX0_hasSide_33 (by (try simp only [sideB]); (try simp only [*, if_true, if_false, Bool.false_eq_true, reduceIte]); first | rfl | exact retT _ (by first | omega | (simp only [Int.toNat_natCast]; omega)) | exact retF _ (by first | omega | (simp only [Int.toNat_natCast]; omega)) | (simp [*]; done))
set_option maxHeartbeats 4000000 in
set_option maxRecDepth 100000 in
theorem c_X0_hasDay (l : Launch) (D : KD) (tb : Nat) (thd : Bool) (tlo : Nat) (te : Nat) (thn : Bool) (tcu : Nat) (tsc : Nat) (tfg : Nat) (ttv : Nat) (tpr : Nat) (z : Int) (hlo : tlo ≤ 99) (he : te ≤ 100) (hz : -2147483648 ≤ z ∧ z < 2147483648) : cR l yX0_hasDay cX0_hasDay 2 (some .boolean) rm_X0_hasDay D [(tb, .inr (0, [.int (nI thd.toNat), .int (nI tlo), .int (iI ((te : Int) - 1)), .int (nI thn.toNat), .int (nI tcu), .ref tsc, .ref tfg, .ref ttv, .ref tpr]))] [.ref tb, .int (iI z)] (nI (decide ((tlo : Int) ≤ z ∧ z < (te : Int))).toNat) := by
  refine cR.mk (by decide) (retZ _) (Nat.le_of_ble_eq_true rfl) ?_
  intro X hx hL hP hret ls hl
  subst hL
  have hl : lv_has ls 2 [(0, .ref tb), (1, .int (iI z))] := hl
  refine x_iload_n hx dX0_hasDay_0 hl 1 rfl ?_
  refine x_aload_n hx dX0_hasDay_1 hl 0 rfl ?_
  refine x_get0 hx hP 0 rfl 1 (Nat.le_of_ble_eq_true rfl) wf_RX0_31 rfl dX0_hasDay_2 ?_
  refine x_icmp_lt_Z (a := z) (b := (tlo : Int)) (tgt := 20) hx dX0_hasDay_5 (by decide) (by omega) (by omega) (fun h_1 => ?_) (fun h_1 => ?_)
  · refine x_iconst (v := nI 0) hx dX0_hasDay_20 (by decide) ?_
    exact hret _ _ _ dX0_hasDay_21 (by first | exact retF _ (by first | omega | (simp [*]; done)) | (simp [*]; done))
  · refine x_iload_n hx dX0_hasDay_8 hl 1 rfl ?_
    refine x_aload_n hx dX0_hasDay_9 hl 0 rfl ?_
    refine x_get0 hx hP 0 rfl 2 (Nat.le_of_ble_eq_true rfl) wf_RX0_35 rfl dX0_hasDay_10 ?_
    refine x_icmp_gt_Z (a := z) (b := ((te : Int) - 1)) (tgt := 20) hx dX0_hasDay_13 (by decide) (by omega) (by omega) (fun h_2 => ?_) (fun h_2 => ?_)
    · refine x_iconst (v := nI 0) hx dX0_hasDay_20 (by decide) ?_
      exact hret _ _ _ dX0_hasDay_21 (by first | exact retF _ (by first | omega | (simp [*]; done)) | (simp [*]; done))
    · refine x_iconst (v := nI 1) hx dX0_hasDay_16 (by decide) ?_
      refine x_goto (tgt := 21) hx dX0_hasDay_17 (by decide) ?_
      exact hret _ _ _ dX0_hasDay_21 (by first | exact retT _ (by first | omega | (simp [*]; done)) | (simp [*]; done))
set_option maxHeartbeats 4000000 in
set_option maxRecDepth 100000 in
theorem c_X0_dayCount (l : Launch) (D : KD) (tb : Nat) (thd : Bool) (tlo : Nat) (te : Nat) (thn : Bool) (tcu : Nat) (tsc : Nat) (tfg : Nat) (ttv : Nat) (tpr : Nat) (hle : tlo ≤ te) (he : te ≤ 100) : cR l yX0_dayCount cX0_dayCount 1 (some .int) rm_X0_dayCount D [(tb, .inr (0, [.int (nI thd.toNat), .int (nI tlo), .int (iI ((te : Int) - 1)), .int (nI thn.toNat), .int (nI tcu), .ref tsc, .ref tfg, .ref ttv, .ref tpr]))] [.ref tb] (nI (te - tlo)) := by
  refine cR.mk (by decide) (retI _) (Nat.le_of_ble_eq_true rfl) ?_
  intro X hx hL hP hret ls hl
  subst hL
  have hl : lv_has ls 1 [(0, .ref tb)] := hl
  refine x_aload_n hx dX0_dayCount_0 hl 0 rfl ?_
  refine x_get0 hx hP 0 rfl 2 (Nat.le_of_ble_eq_true rfl) wf_RX0_35 rfl dX0_dayCount_1 ?_
  refine x_aload_n hx dX0_dayCount_4 hl 0 rfl ?_
  refine x_get0 hx hP 0 rfl 1 (Nat.le_of_ble_eq_true rfl) wf_RX0_31 rfl dX0_dayCount_5 ?_
  refine x_isub (v := iI (((te : Int) - 1) - (tlo : Int))) hx dX0_dayCount_8 (iI_sub ((te : Int) - 1) (tlo : Int)) ?_
  refine x_iconst (v := nI 1) hx dX0_dayCount_9 (by decide) ?_
  refine x_iadd (v := iI (((te : Int) - 1) - (tlo : Int) + 1)) hx dX0_dayCount_10 (iI_add (((te : Int) - 1) - (tlo : Int)) 1) ?_
  exact hret _ _ _ dX0_dayCount_11 (by rw [nI_iI]; congr 1; omega)
set_option maxHeartbeats 4000000 in
set_option maxRecDepth 100000 in
theorem c_X0_hasTwoPlaces (l : Launch) (D : KD) (tb : Nat) (thd : Bool) (tlo : Nat) (te : Nat) (thn : Bool) (tcu : Nat) (tsc : Nat) (tfg : Nat) (ttv : Nat) (tpr : Nat) (d : Nat) (he : te ≤ 100) (hd : d < 2147483648) : cR l yX0_hasTwoPlaces cX0_hasTwoPlaces 2 (some .boolean) rm_X0_hasTwoPlaces D [(tb, .inr (0, [.int (nI thd.toNat), .int (nI tlo), .int (iI ((te : Int) - 1)), .int (nI thn.toNat), .int (nI tcu), .ref tsc, .ref tfg, .ref ttv, .ref tpr]))] [.ref tb, .int (nI d)] (nI (hasTwo thn te d).toNat) := by
  refine cR.mk (by decide) (retZ _) (Nat.le_of_ble_eq_true rfl) ?_
  intro X hx hL hP hret ls hl
  subst hL
  have hl : lv_has ls 2 [(0, .ref tb), (1, .int (nI d))] := hl
  refine x_aload_n hx dX0_hasTwoPlaces_0 hl 0 rfl ?_
  refine x_get0 hx hP 0 rfl 3 (Nat.le_of_ble_eq_true rfl) wf_RX0_38 rfl dX0_hasTwoPlaces_1 ?_
  refine x_if_eq_B (tgt := 14) hx dX0_hasTwoPlaces_4 (by decide) (fun h_1 => ?_) (fun h_1 => ?_)
  · refine x_iload_n hx dX0_hasTwoPlaces_14 hl 1 rfl ?_
    refine x_bipush (v := nI 10) hx dX0_hasTwoPlaces_15 (by decide) ?_
    refine x_icmp_lt_N (a := d) (b := 10) (tgt := 24) hx dX0_hasTwoPlaces_17 (by decide) (by omega) (by omega) (fun h_2 => ?_) (fun h_2 => ?_)
    · refine x_iconst (v := nI 0) hx dX0_hasTwoPlaces_24 (by decide) ?_
      exact hret _ _ _ dX0_hasTwoPlaces_25 (by (try simp only [hasTwo]); (try simp only [*, if_true, if_false, Bool.false_eq_true, reduceIte]); first | rfl | exact retT _ (by first | omega | (simp only [Int.toNat_natCast]; omega)) | exact retF _ (by first | omega | (simp only [Int.toNat_natCast]; omega)) | (simp [*]; done))
    · refine x_iconst (v := nI 1) hx dX0_hasTwoPlaces_20 (by decide) ?_
      refine x_goto (tgt := 25) hx dX0_hasTwoPlaces_21 (by decide) ?_
      exact hret _ _ _ dX0_hasTwoPlaces_25 (by (try simp only [hasTwo]); (try simp only [*, if_true, if_false, Bool.false_eq_true, reduceIte]); first | rfl | exact retT _ (by first | omega | (simp only [Int.toNat_natCast]; omega)) | exact retF _ (by first | omega | (simp only [Int.toNat_natCast]; omega)) | (simp [*]; done))
  · refine x_aload_n hx dX0_hasTwoPlaces_7 hl 0 rfl ?_
    refine x_get0 hx hP 0 rfl 2 (Nat.le_of_ble_eq_true rfl) wf_RX0_35 rfl dX0_hasTwoPlaces_8 ?_
    refine x_goto (tgt := 15) hx dX0_hasTwoPlaces_11 (by decide) ?_
    refine x_bipush (v := nI 10) hx dX0_hasTwoPlaces_15 (by decide) ?_
    refine x_icmp_lt_Z (a := ((te : Int) - 1)) (b := 10) (tgt := 24) hx dX0_hasTwoPlaces_17 (by decide) (by omega) (by omega) (fun h_3 => ?_) (fun h_3 => ?_)
    · refine x_iconst (v := nI 0) hx dX0_hasTwoPlaces_24 (by decide) ?_
      exact hret _ _ _ dX0_hasTwoPlaces_25 (by (try simp only [hasTwo]); (try simp only [*, if_true, if_false, Bool.false_eq_true, reduceIte]); first | rfl | exact retT _ (by first | omega | (simp only [Int.toNat_natCast]; omega)) | exact retF _ (by first | omega | (simp only [Int.toNat_natCast]; omega)) | (simp [*]; done))
    · refine x_iconst (v := nI 1) hx dX0_hasTwoPlaces_20 (by decide) ?_
      refine x_goto (tgt := 25) hx dX0_hasTwoPlaces_21 (by decide) ?_
      exact hret _ _ _ dX0_hasTwoPlaces_25 (by (try simp only [hasTwo]); (try simp only [*, if_true, if_false, Bool.false_eq_true, reduceIte]); first | rfl | exact retT _ (by first | omega | (simp only [Int.toNat_natCast]; omega)) | exact retF _ (by first | omega | (simp only [Int.toNat_natCast]; omega)) | (simp [*]; done))
set_option maxHeartbeats 4000000 in
set_option maxRecDepth 100000 in
theorem c_X0_bothWays (l : Launch) (D : KD) (tb : Nat) (thd : Bool) (tlo : Nat) (te : Nat) (thn : Bool) (tcu : Nat) (tsc : Nat) (tfg : Nat) (ttv : Nat) (tpr : Nat) (tTV : Nat → Nat) (g : Nat) (htTV : ∀ k, k < 10 → tTV k < 10) (hg : g < 10) : cR l yX0_bothWays cX0_bothWays 2 (some .int) rm_X0_bothWays D [(tb, .inr (0, [.int (nI thd.toNat), .int (nI tlo), .int (iI ((te : Int) - 1)), .int (nI thn.toNat), .int (nI tcu), .ref tsc, .ref tfg, .ref ttv, .ref tpr])), (ttv, .inl (D.2.1, 10, .inl (nA tTV)))] [.ref tb, .int (nI g)] (nI (both tTV g)) := by
  refine cR.mk (by decide) (retI _) (Nat.le_of_ble_eq_true rfl) ?_
  intro X hx hL hP hret ls hl
  subst hL
  have hl : lv_has ls 2 [(0, .ref tb), (1, .int (nI g))] := hl
  refine x_iconst (v := nI 1) hx dX0_bothWays_0 (by decide) ?_
  refine x_iload_n hx dX0_bothWays_1 hl 1 rfl ?_
  refine x_ishl (v := nI (2 ^ g)) hx dX0_bothWays_2 (nI_shl1 (by omega)) ?_
  refine x_iconst (v := nI 1) hx dX0_bothWays_3 (by decide) ?_
  refine x_aload_n hx dX0_bothWays_4 hl 0 rfl ?_
  refine x_get0 hx hP 0 rfl 7 (Nat.le_of_ble_eq_true rfl) wf_RX0_18 rfl dX0_bothWays_5 ?_
  refine x_iload_n hx dX0_bothWays_8 hl 1 rfl ?_
  have hj_9 : g < 10 := by omega
  refine x_iald (v := nI (tTV g)) hx hP 1 rfl hj_9 (by decide) rfl dX0_bothWays_9 ?_
  have b_1 := htTV g hj_9
  refine x_ishl (v := nI (2 ^ (tTV g))) hx dX0_bothWays_10 (nI_shl1 (by omega)) ?_
  refine x_ior (v := nI ((2 ^ g) ||| (2 ^ (tTV g)))) hx dX0_bothWays_11 (nI_or _ _) ?_
  exact hret _ _ _ dX0_bothWays_12 (congrArg nI (by first | rfl | omega | (simp [both, *]; done) | (simp [both, *]; omega)))
set_option maxHeartbeats 4000000 in
set_option maxRecDepth 100000 in
theorem c_X0_mostOften (l : Launch) (D : KD) (tb : Nat) (thd : Bool) (tlo : Nat) (te : Nat) (thn : Bool) (tcu : Nat) (tsc : Nat) (tfg : Nat) (ttv : Nat) (tpr : Nat) (tTV : Nat → Nat) (g : Nat) (htTV : ∀ k, k < 10 → tTV k < 10) (hg : g < 10) (hle : tlo ≤ te) (he : te ≤ 100) : cR l yX0_mostOften cX0_mostOften 6 (some .int) rm_X0_mostOften D [(tb, .inr (0, [.int (nI thd.toNat), .int (nI tlo), .int (iI ((te : Int) - 1)), .int (nI thn.toNat), .int (nI tcu), .ref tsc, .ref tfg, .ref ttv, .ref tpr])), (ttv, .inl (D.2.1, 10, .inl (nA tTV)))] [.ref tb, .int (nI g)] (nI (mostO tTV thn tlo te g)) := by
  refine cR.mk (by decide) (retI _) (Nat.le_of_ble_eq_true rfl) ?_
  intro X hx hL hP hret ls hl
  subst hL
  have hl : lv_has ls 6 [(0, .ref tb), (1, .int (nI g))] := hl
  have hbo := both_lt hg (htTV g hg)
  refine x_aload_n hx dX0_mostOften_0 hl 0 rfl ?_
  refine x_iload_n hx dX0_mostOften_1 hl 1 rfl ?_
  refine x_callRV (As := [.int (nI g)]) (rest := []) hx yv_X0_bothWays (c_X0_bothWays _ D tb thd tlo te thn tcu tsc tfg ttv tpr tTV g (by first | assumption | omega | (simp [*]; done)) (by first | assumption | omega | (simp [*]; done))) wm_RX0_54 hP [0, 1] rfl 0 rfl rfl ⟨rfl, rfl⟩ ⟨Nat.le_of_ble_eq_true rfl, Nat.le_of_ble_eq_true rfl⟩ ⟨Nat.zero_le _, Nat.zero_le _⟩ hl rfl rfl (Nat.le_of_ble_eq_true rfl) dX0_mostOften_2 ?_
  refine x_istore_n (lv' := [(2, .int (nI (both tTV g))), (0, .ref tb), (1, .int (nI g))]) hx dX0_mostOften_5 hl (Nat.le_of_ble_eq_true rfl) rfl (fun ls hl => ?_)
  refine x_iconst (v := nI 0) hx dX0_mostOften_6 (by decide) ?_
  refine x_istore_n (lv' := [(3, .int (nI 0)), (2, .int (nI (both tTV g))), (0, .ref tb), (1, .int (nI g))]) hx dX0_mostOften_7 hl (Nat.le_of_ble_eq_true rfl) rfl (fun ls hl => ?_)
  refine x_aload_n hx dX0_mostOften_8 hl 2 rfl ?_
  refine x_get0 hx hP 0 rfl 1 (Nat.le_of_ble_eq_true rfl) wf_RX0_31 rfl dX0_mostOften_9 ?_
  refine x_istore (lv' := [(4, .int (nI tlo)), (3, .int (nI 0)), (2, .int (nI (both tTV g))), (0, .ref tb), (1, .int (nI g))]) hx dX0_mostOften_12 hl (Nat.le_of_ble_eq_true rfl) rfl (fun ls hl => ?_)
  have L14_1 : ∀ (L14_1n : Nat) (d : Nat), (tlo ≤ d) → (d ≤ te) → te - d < L14_1n → ∀ ls : Array Slot, lv_has ls 6 [(0, .ref tb), (1, .int (nI g)), (2, .int (nI (both tTV g))), (3, .int (nI (mxTo (often tTV thn te g) tlo d))), (4, .int (nI d))] → Wx X 0 0 (cxS X).heap [] 14 ls [] := by
    intro L14_1n
    induction L14_1n with
    | zero =>
      intro d h1 h2 hm
      exact absurd hm (Nat.not_lt_zero _)
    | succ L14_1n ihL14_1 =>
      intro d h1 h2 hm ls hl
      have hmx := mxTo_le (often_le tTV thn te g) tlo d
      refine x_iload hx dX0_mostOften_14 hl 4 rfl ?_
      refine x_aload_n hx dX0_mostOften_16 hl 0 rfl ?_
      refine x_get0 hx hP 0 rfl 2 (Nat.le_of_ble_eq_true rfl) wf_RX0_35 rfl dX0_mostOften_17 ?_
      refine x_icmp_gt_Z (a := (d : Int)) (b := ((te : Int) - 1)) (tgt := 70) hx dX0_mostOften_20 (by decide) (by omega) (by omega) (fun h_2 => ?_) (fun h_2 => ?_)
      · refine x_iload_n hx dX0_mostOften_70 hl 3 rfl ?_
        exact hret _ _ _ dX0_mostOften_71 (by simp only [mostO]; congr 1; congr 1; omega)
      · refine x_iload_n hx dX0_mostOften_23 hl 2 rfl ?_
        refine x_iload hx dX0_mostOften_24 hl 4 rfl ?_
        refine x_bipush (v := nI 10) hx dX0_mostOften_26 (by decide) ?_
        refine x_irem (v := nI (d % 10)) hx dX0_mostOften_28 (by decide) (pk_rem (by omega) (by omega) (by omega)) ?_
        refine x_ishr (v := nI ((both tTV g) >>> (d % 10))) hx dX0_mostOften_29 (nI_shr (by omega) (by omega)) ?_
        refine x_iconst (v := nI 1) hx dX0_mostOften_30 (by decide) ?_
        refine x_iand (v := nI ((both tTV g).testBit (d % 10)).toNat) hx dX0_mostOften_31 (nI_tb _ _) ?_
        refine x_istore (lv' := [(5, .int (nI ((both tTV g).testBit (d % 10)).toNat)), (0, .ref tb), (1, .int (nI g)), (2, .int (nI (both tTV g))), (3, .int (nI (mxTo (often tTV thn te g) tlo d))), (4, .int (nI d))]) hx dX0_mostOften_32 hl (Nat.le_of_ble_eq_true rfl) rfl (fun ls hl => ?_)
        have hb1 := Bool.toNat_le ((both tTV g).testBit (d % 10))
        refine x_aload_n hx dX0_mostOften_34 hl 1 rfl ?_
        refine x_iload hx dX0_mostOften_35 hl 5 rfl ?_
        refine x_callRV (As := [.int (nI d)]) (rest := []) hx yv_X0_hasTwoPlaces (c_X0_hasTwoPlaces _ D tb thd tlo te thn tcu tsc tfg ttv tpr d (by first | assumption | omega | (simp [*]; done)) (by first | assumption | omega | (simp [*]; done))) wm_RX0_58 hP [0] rfl 0 rfl rfl ⟨rfl, rfl⟩ ⟨Nat.le_of_ble_eq_true rfl, Nat.le_of_ble_eq_true rfl⟩ ⟨Nat.zero_le _, Nat.zero_le _⟩ hl rfl rfl (Nat.le_of_ble_eq_true rfl) dX0_mostOften_37 ?_
        refine x_if_eq_B (tgt := 57) hx dX0_mostOften_40 (by decide) (fun h_3 => ?_) (fun h_3 => ?_)
        · refine x_iload_n hx dX0_mostOften_57 hl 4 rfl ?_
          refine x_iload hx dX0_mostOften_58 hl 0 rfl ?_
          refine x_mmax (v := nI (max (mxTo (often tTV thn te g) tlo d) (((both tTV g).testBit (d % 10)).toNat))) hx wm_RX0_61 (Nat.le_of_ble_eq_true rfl) (Nat.le_of_ble_eq_true rfl) ⟨Nat.zero_le _, Nat.zero_le _⟩ hl (nI_max (by omega) (by omega)) dX0_mostOften_60 ?_
          refine x_istore_n (lv' := [(3, .int (nI (max (mxTo (often tTV thn te g) tlo d) (((both tTV g).testBit (d % 10)).toNat)))), (5, .int (nI ((both tTV g).testBit (d % 10)).toNat)), (0, .ref tb), (1, .int (nI g)), (2, .int (nI (both tTV g))), (4, .int (nI d))]) hx dX0_mostOften_63 hl (Nat.le_of_ble_eq_true rfl) rfl (fun ls hl => ?_)
          refine x_iinc (v := nI (d + 1)) (lv' := [(4, .int (nI (d + 1))), (3, .int (nI (max (mxTo (often tTV thn te g) tlo d) (((both tTV g).testBit (d % 10)).toNat)))), (5, .int (nI ((both tTV g).testBit (d % 10)).toNat)), (0, .ref tb), (1, .int (nI g)), (2, .int (nI (both tTV g)))]) hx dX0_mostOften_64 hl 5 rfl (nI_addc d 1) (Nat.le_of_ble_eq_true rfl) rfl (fun ls hl => ?_)
          refine x_goto (tgt := 14) hx dX0_mostOften_67 (by decide) ?_
          have e_4 : (max (mxTo (often tTV thn te g) tlo d) (((both tTV g).testBit (d % 10)).toNat) : Nat) = mxTo (often tTV thn te g) tlo (d + 1) := by
            first | rw [mxTo_0] | (rw [mxTo_s _ h1]; simp [often, *])
          have e_5 : (d + 1 : Nat) = (d + 1) := by
            first | rfl | omega | (simp [*]; done) | (simp [*]; omega)
          exact ihL14_1 (d + 1) (by first | assumption | omega | (simp [*]; done)) (by first | assumption | omega | (simp [*]; done)) (by omega) _ (lv_to (l := [(0, .ref tb), (1, .int (nI g)), (2, .int (nI (both tTV g))), (3, .int (nI (max (mxTo (often tTV thn te g) tlo d) (((both tTV g).testBit (d % 10)).toNat)))), (4, .int (nI (d + 1)))]) (l2 := [(0, .ref tb), (1, .int (nI g)), (2, .int (nI (both tTV g))), (3, .int (nI (mxTo (often tTV thn te g) tlo (d + 1)))), (4, .int (nI (d + 1)))]) (lv_sub hl [3, 4, 5, 1, 0] rfl) (cE rfl (cE rfl (cE rfl (cE (congrArg (fun z => ((3, Value.int z) : Nat × Value)) (congrArg (fun z : Nat => nI z) e_4)) (cE (congrArg (fun z => ((4, Value.int z) : Nat × Value)) (congrArg (fun z : Nat => nI z) e_5)) rfl))))))
        · have hb2 := Bool.toNat_le ((both tTV g).testBit (d / 10))
          refine x_iload hx dX0_mostOften_43 hl 0 rfl ?_
          refine x_iload_n hx dX0_mostOften_45 hl 3 rfl ?_
          refine x_iload hx dX0_mostOften_46 hl 5 rfl ?_
          refine x_bipush (v := nI 10) hx dX0_mostOften_48 (by decide) ?_
          refine x_idiv (v := nI (d / 10)) hx dX0_mostOften_50 (by decide) (pk_div (by omega) (by omega) (by omega)) ?_
          refine x_ishr (v := nI ((both tTV g) >>> (d / 10))) hx dX0_mostOften_51 (nI_shr (by omega) (by omega)) ?_
          refine x_iconst (v := nI 1) hx dX0_mostOften_52 (by decide) ?_
          refine x_iand (v := nI ((both tTV g).testBit (d / 10)).toNat) hx dX0_mostOften_53 (nI_tb _ _) ?_
          refine x_iadd (v := nI ((((both tTV g).testBit (d % 10)).toNat) + (((both tTV g).testBit (d / 10)).toNat))) hx dX0_mostOften_54 (nI_add _ _) ?_
          refine x_istore (lv' := [(5, .int (nI ((((both tTV g).testBit (d % 10)).toNat) + (((both tTV g).testBit (d / 10)).toNat)))), (0, .ref tb), (1, .int (nI g)), (2, .int (nI (both tTV g))), (3, .int (nI (mxTo (often tTV thn te g) tlo d))), (4, .int (nI d))]) hx dX0_mostOften_55 hl (Nat.le_of_ble_eq_true rfl) rfl (fun ls hl => ?_)
          refine x_iload_n hx dX0_mostOften_57 hl 4 rfl ?_
          refine x_iload hx dX0_mostOften_58 hl 0 rfl ?_
          refine x_mmax (v := nI (max (mxTo (often tTV thn te g) tlo d) ((((both tTV g).testBit (d % 10)).toNat) + (((both tTV g).testBit (d / 10)).toNat)))) hx wm_RX0_61 (Nat.le_of_ble_eq_true rfl) (Nat.le_of_ble_eq_true rfl) ⟨Nat.zero_le _, Nat.zero_le _⟩ hl (nI_max (by omega) (by omega)) dX0_mostOften_60 ?_
          refine x_istore_n (lv' := [(3, .int (nI (max (mxTo (often tTV thn te g) tlo d) ((((both tTV g).testBit (d % 10)).toNat) + (((both tTV g).testBit (d / 10)).toNat))))), (5, .int (nI ((((both tTV g).testBit (d % 10)).toNat) + (((both tTV g).testBit (d / 10)).toNat)))), (0, .ref tb), (1, .int (nI g)), (2, .int (nI (both tTV g))), (4, .int (nI d))]) hx dX0_mostOften_63 hl (Nat.le_of_ble_eq_true rfl) rfl (fun ls hl => ?_)
          refine x_iinc (v := nI (d + 1)) (lv' := [(4, .int (nI (d + 1))), (3, .int (nI (max (mxTo (often tTV thn te g) tlo d) ((((both tTV g).testBit (d % 10)).toNat) + (((both tTV g).testBit (d / 10)).toNat))))), (5, .int (nI ((((both tTV g).testBit (d % 10)).toNat) + (((both tTV g).testBit (d / 10)).toNat)))), (0, .ref tb), (1, .int (nI g)), (2, .int (nI (both tTV g)))]) hx dX0_mostOften_64 hl 5 rfl (nI_addc d 1) (Nat.le_of_ble_eq_true rfl) rfl (fun ls hl => ?_)
          refine x_goto (tgt := 14) hx dX0_mostOften_67 (by decide) ?_
          have e_6 : (max (mxTo (often tTV thn te g) tlo d) ((((both tTV g).testBit (d % 10)).toNat) + (((both tTV g).testBit (d / 10)).toNat)) : Nat) = mxTo (often tTV thn te g) tlo (d + 1) := by
            first | rw [mxTo_0] | (rw [mxTo_s _ h1]; simp [often, *])
          have e_7 : (d + 1 : Nat) = (d + 1) := by
            first | rfl | omega | (simp [*]; done) | (simp [*]; omega)
          exact ihL14_1 (d + 1) (by first | assumption | omega | (simp [*]; done)) (by first | assumption | omega | (simp [*]; done)) (by omega) _ (lv_to (l := [(0, .ref tb), (1, .int (nI g)), (2, .int (nI (both tTV g))), (3, .int (nI (max (mxTo (often tTV thn te g) tlo d) ((((both tTV g).testBit (d % 10)).toNat) + (((both tTV g).testBit (d / 10)).toNat))))), (4, .int (nI (d + 1)))]) (l2 := [(0, .ref tb), (1, .int (nI g)), (2, .int (nI (both tTV g))), (3, .int (nI (mxTo (often tTV thn te g) tlo (d + 1)))), (4, .int (nI (d + 1)))]) (lv_sub hl [3, 4, 5, 1, 0] rfl) (cE rfl (cE rfl (cE rfl (cE (congrArg (fun z => ((3, Value.int z) : Nat × Value)) (congrArg (fun z : Nat => nI z) e_6)) (cE (congrArg (fun z => ((4, Value.int z) : Nat × Value)) (congrArg (fun z : Nat => nI z) e_7)) rfl))))))
  have e_8 : (0 : Nat) = mxTo (often tTV thn te g) tlo tlo := by
    first | rw [mxTo_0] | (rw [mxTo_s _ h1]; simp [often, *])
  exact L14_1 (te - tlo + 1) tlo (by first | assumption | omega | (simp [*]; done)) (by first | assumption | omega | (simp [*]; done)) (Nat.lt_succ_self _) _ (lv_to (l := [(0, .ref tb), (1, .int (nI g)), (2, .int (nI (both tTV g))), (3, .int (nI 0)), (4, .int (nI tlo))]) (l2 := [(0, .ref tb), (1, .int (nI g)), (2, .int (nI (both tTV g))), (3, .int (nI (mxTo (often tTV thn te g) tlo tlo))), (4, .int (nI tlo))]) (lv_sub hl [3, 4, 2, 1, 0] rfl) (cE rfl (cE rfl (cE rfl (cE (congrArg (fun z => ((3, Value.int z) : Nat × Value)) (congrArg (fun z : Nat => nI z) e_8)) (cE rfl rfl))))))
