/-! a trial: what each cube shows; by figure the cubes that show it -/
def cfOf (sh : Nat → Nat) (g : Nat) : Nat := ((sh 0).testBit g).toNat + 2 * ((sh 1).testBit g).toNat + 4 * ((sh 2).testBit g).toNat + 8 * ((sh 3).testBit g).toNat
theorem cfOf_b (sh : Nat → Nat) : ∀ k, k < 10 → cfOf sh k < 16 := by
  intro k _
  unfold cfOf
  have := Bool.toNat_le ((sh 0).testBit k)
  have := Bool.toNat_le ((sh 1).testBit k)
  have := Bool.toNat_le ((sh 2).testBit k)
  have := Bool.toNat_le ((sh 3).testBit k)
  omega
theorem see_bits : ∀ (b0 b1 b2 b3 b : Bool) (c : Fin 4), bclr (b0.toNat + 2 * b1.toNat + 4 * b2.toNat + 8 * b3.toNat) (2 ^ c.val) ||| b.toNat * 2 ^ c.val = (if 0 = c.val then b else b0).toNat + 2 * (if 1 = c.val then b else b1).toNat + 4 * (if 2 = c.val then b else b2).toNat + 8 * (if 3 = c.val then b else b3).toNat := by decide
theorem cfOf_see (sh : Nat → Nat) {c : Nat} (hc : c < 4) (v g : Nat) : bclr (cfOf sh g) (2 ^ c) ||| (v.testBit g).toNat * 2 ^ c = cfOf (va_up sh c v) g := by
  have h := see_bits ((sh 0).testBit g) ((sh 1).testBit g) ((sh 2).testBit g) ((sh 3).testBit g) (v.testBit g) ⟨c, hc⟩
  have e : ∀ i, (va_up sh c v i).testBit g = if i = c then v.testBit g else (sh i).testBit g := by
    intro i
    by_cases h2 : i = c <;> simp [va_up, h2]
  simp only [cfOf, e]
  exact h
theorem cfOf_cong {s1 s2 : Nat → Nat} (h : ∀ c, c < 4 → s1 c = s2 c) (g : Nat) : cfOf s1 g = cfOf s2 g := by
  simp only [cfOf, h 0 (by decide), h 1 (by decide), h 2 (by decide), h 3 (by decide)]
theorem filN_at (f g : Nat → Nat) (j : Nat) : filN f g j j = g j := by simp [filN]
theorem shlb (b : Bool) {c : Nat} (hc : c < 4) : b.toNat * 2 ^ c < 4294967296 := by
  have h1 := Bool.toNat_le b
  have h2 : 2 ^ c ≤ 2 ^ 3 := Nat.pow_le_pow_right (by decide) (by omega)
  have h3 := Nat.mul_le_mul h1 h2
  omega
def lz (lost c m : Nat) : Nat := if lost.testBit c then 0 else m
def lsb (m : Nat) : Nat := if m = 0 then 0 else 2 ^ lowB m
theorem nI_lsb : ∀ m, m < 1024 → nI m &&& (-(nI m)) = nI (lsb m) := by decide +kernel
def canM (f l : Nat) : Bool := decide (f ≠ 0) && (decide (l ≠ 0) && decide ((f ||| l) &&& ((f ||| l) - 1) ≠ 0))
def canS (hn : Bool) (e : Nat) (sh : Nat → Nat) (d : Nat) : Bool := if hasTwo hn e d then canM (cfOf sh (d / 10)) (cfOf sh (d % 10)) else decide (cfOf sh (d % 10) ≠ 0)
theorem canS_cong {s1 s2 : Nat → Nat} (h : ∀ c, c < 4 → s1 c = s2 c) (hn : Bool) (e d : Nat) : canS hn e s1 d = canS hn e s2 d := by
  simp only [canS, cfOf_cong h]
def takM (f l : Nat) : Nat := if lsb f = l then lsb (bclr f (lsb f)) else lsb f
theorem tak_ok : ∀ f, f < 16 → ∀ l, l < 16 → canM f l = true → 0 < takM f l ∧ takM f l < 16 ∧ 0 < bclr l (takM f l) ∧ bclr l (takM f l) < 16 := by decide +kernel
theorem bclr_lt : ∀ f, f < 16 → ∀ l, l < 16 → bclr f l < 16 := by decide +kernel
theorem lsb_lt : ∀ f, f < 16 → lsb f < 16 := by decide +kernel
/-- the cube of the i-th place of a day that is shown -/
def cubeS (hn : Bool) (e : Nat) (sh : Nat → Nat) (d : Nat) (i : Int) : Int :=
  if hasTwo hn e d then
    (if i = 0 then (lowB (takM (cfOf sh (d / 10)) (cfOf sh (d % 10))) : Int) else if i = 1 then (lowB (bclr (cfOf sh (d % 10)) (takM (cfOf sh (d / 10)) (cfOf sh (d % 10)))) : Int) else -1)
  else (if i = 0 then (lowB (cfOf sh (d % 10)) : Int) else -1)
def gapTo (p : Nat → Bool) : Nat → Nat → Int
  | _, 0 => -1
  | d, n + 1 => if p d then gapTo p (d + 1) n else (d : Int)
theorem gapTo_y {p : Nat → Bool} {d e : Nat} (h : d < e) (hp : p d = true) : gapTo p d (e - d) = gapTo p (d + 1) (e - (d + 1)) := by
  have e9 : e - d = (e - (d + 1)) + 1 := by omega
  rw [e9, gapTo, if_pos hp]
theorem gapTo_n {p : Nat → Bool} {d e : Nat} (h : d < e) (hp : p d = false) : gapTo p d (e - d) = (d : Int) := by
  have e9 : e - d = (e - (d + 1)) + 1 := by omega
  rw [e9, gapTo, hp]; rfl
theorem gapTo_e {p : Nat → Bool} {d e : Nat} (h : e ≤ d) : gapTo p d (e - d) = -1 := by
  have e9 : e - d = 0 := by omega
  rw [e9, gapTo]
theorem gapTo_rng {p : Nat → Bool} : ∀ (n d : Nat), gapTo p d n = -1 ∨ ((d : Int) ≤ gapTo p d n ∧ gapTo p d n < (d + n : Nat))
  | 0, d => Or.inl rfl
  | n + 1, d => by
    simp only [gapTo]
    split
    · rcases gapTo_rng n (d + 1) with h | h
      · exact Or.inl h
      · exact Or.inr (by omega)
    · exact Or.inr (by omega)
def sgt (p : Nat → Bool) (lo d : Nat) (G : Nat → Nat) : Nat → Nat := fun k => if lo ≤ k ∧ k < d then G k + (p k).toNat else G k
theorem sgt_0 (p : Nat → Bool) (lo : Nat) (G : Nat → Nat) (k : Nat) : sgt p lo lo G k = G k := by
  simp only [sgt]; split
  · omega
  · rfl
theorem sgt_y {p : Nat → Bool} {lo d : Nat} {G : Nat → Nat} (h : lo ≤ d) (hp : p d = true) (k : Nat) : va_up (sgt p lo d G) d (sgt p lo d G d + 1) k = sgt p lo (d + 1) G k := by
  by_cases e : k = d
  · subst e; simp [va_up, sgt, h, hp]
  · have : (lo ≤ k ∧ k < d + 1) ↔ (lo ≤ k ∧ k < d) := by omega
    simp [va_up, sgt, e, this]
theorem sgt_n {p : Nat → Bool} {lo d : Nat} {G : Nat → Nat} (hp : p d = false) (k : Nat) : sgt p lo d G k = sgt p lo (d + 1) G k := by
  by_cases e : k = d
  · subst e; simp [sgt, hp]
  · have : (lo ≤ k ∧ k < d + 1) ↔ (lo ≤ k ∧ k < d) := by omega
    simp [sgt, this]
/-- what the first j cubes show, now -/
def shN (lost : Nat) (SC TV NF : Nat → Nat) (j : Nat) : Nat → Nat := fun c => if c < j then lz lost c (seen SC TV NF c (-1)) else 0
theorem shN_s {lost : Nat} {SC TV NF : Nat → Nat} {j v : Nat} (hv : v = lz lost j (seen SC TV NF j (-1))) (c : Nat) : va_up (shN lost SC TV NF j) j v c = shN lost SC TV NF (j + 1) c := by
  subst hv
  by_cases h : c = j
  · subst h; simp [va_up, shN]
  · have : (c < j + 1) ↔ (c < j) := by omega
    simp [va_up, shN, h, this]
set_option maxHeartbeats 4000000 in
set_option maxRecDepth 100000 in
theorem c_X6_canShow (l : Launch) (D : KD) (tr : Nat) (nw : Nat) (cf : Nat) (sh : Nat → Nat) (tb : Nat) (thd : Bool) (tlo : Nat) (te : Nat) (thn : Bool) (tcu : Nat) (tsc : Nat) (tfg : Nat) (ttv : Nat) (tpr : Nat) (d : Nat) (he : te ≤ 100) (hd : d < 100) : cR l yX6_canShow cX6_canShow 5 (some .boolean) rm_X6_canShow D [(tr, .inr (6, [.ref tb, .ref nw, .ref cf])), (cf, .inl (D.2.1, 10, .inl (nA (cfOf sh)))), (tb, .inr (0, [.int (nI thd.toNat), .int (nI tlo), .int (iI ((te : Int) - 1)), .int (nI thn.toNat), .int (nI tcu), .ref tsc, .ref tfg, .ref ttv, .ref tpr]))] [.ref tr, .int (nI d)] (nI (canS thn te sh d).toNat) := by
  refine cR.mk (by decide) (retZ _) (Nat.le_of_ble_eq_true rfl) ?_
  intro X hx hL hP hret ls hl
  subst hL
  have hl : lv_has ls 5 [(0, .ref tr), (1, .int (nI d))] := hl
  refine x_aload_n hx dX6_canShow_0 hl 0 rfl ?_
  refine x_get6 hx hP 0 rfl 2 (Nat.le_of_ble_eq_true rfl) wf_RX6_25 rfl dX6_canShow_1 ?_
  refine x_iload_n hx dX6_canShow_4 hl 1 rfl ?_
  refine x_bipush (v := nI 10) hx dX6_canShow_5 (by decide) ?_
  refine x_irem (v := nI (d % 10)) hx dX6_canShow_7 (by decide) (pk_rem (by omega) (by omega) (by omega)) ?_
  have hj_8 : d % 10 < 10 := by omega
  refine x_iald (v := nI ((cfOf sh) (d % 10))) hx hP 1 rfl hj_8 (by decide) rfl dX6_canShow_8 ?_
  have b_1 := (cfOf_b sh) (d % 10) hj_8
  refine x_istore_n (lv' := [(2, .int (nI ((cfOf sh) (d % 10)))), (0, .ref tr), (1, .int (nI d))]) hx dX6_canShow_9 hl (Nat.le_of_ble_eq_true rfl) rfl (fun ls hl => ?_)
  refine x_aload_n hx dX6_canShow_10 hl 1 rfl ?_
  refine x_get6 hx hP 0 rfl 0 (Nat.le_of_ble_eq_true rfl) wf_RX6_12 rfl dX6_canShow_11 ?_
  refine x_iload_n hx dX6_canShow_14 hl 2 rfl ?_
  refine x_callRV (As := [.int (nI d)]) (rest := []) hx yv_X0_hasTwoPlaces (c_X0_hasTwoPlaces _ D tb thd tlo te thn tcu tsc tfg ttv tpr d (by first | assumption | omega | (simp [*]; done)) (by first | assumption | omega | (simp [*]; done))) wm_RX6_62 hP [2] rfl 2 rfl rfl ⟨rfl, rfl⟩ ⟨Nat.le_of_ble_eq_true rfl, Nat.le_of_ble_eq_true rfl⟩ ⟨Nat.zero_le _, Nat.zero_le _⟩ hl rfl rfl (Nat.le_of_ble_eq_true rfl) dX6_canShow_15 ?_
  refine x_if_ne_B (tgt := 31) hx dX6_canShow_18 (by decide) (fun h_2 => ?_) (fun h_2 => ?_)
  · refine x_aload_n hx dX6_canShow_31 hl 1 rfl ?_
    refine x_get6 hx hP 0 rfl 2 (Nat.le_of_ble_eq_true rfl) wf_RX6_25 rfl dX6_canShow_32 ?_
    refine x_iload_n hx dX6_canShow_35 hl 2 rfl ?_
    refine x_bipush (v := nI 10) hx dX6_canShow_36 (by decide) ?_
    refine x_idiv (v := nI (d / 10)) hx dX6_canShow_38 (by decide) (pk_div (by omega) (by omega) (by omega)) ?_
    have hj_39 : d / 10 < 10 := by omega
    refine x_iald (v := nI ((cfOf sh) (d / 10))) hx hP 1 rfl hj_39 (by decide) rfl dX6_canShow_39 ?_
    have b_3 := (cfOf_b sh) (d / 10) hj_39
    refine x_istore_n (lv' := [(3, .int (nI ((cfOf sh) (d / 10)))), (2, .int (nI ((cfOf sh) (d % 10)))), (0, .ref tr), (1, .int (nI d))]) hx dX6_canShow_40 hl (Nat.le_of_ble_eq_true rfl) rfl (fun ls hl => ?_)
    refine x_iload_n hx dX6_canShow_41 hl 0 rfl ?_
    refine x_iload_n hx dX6_canShow_42 hl 1 rfl ?_
    refine x_ior (v := nI (((cfOf sh) (d / 10)) ||| ((cfOf sh) (d % 10)))) hx dX6_canShow_43 (nI_or _ _) ?_
    refine x_istore (lv' := [(4, .int (nI (((cfOf sh) (d / 10)) ||| ((cfOf sh) (d % 10))))), (3, .int (nI ((cfOf sh) (d / 10)))), (2, .int (nI ((cfOf sh) (d % 10)))), (0, .ref tr), (1, .int (nI d))]) hx dX6_canShow_44 hl (Nat.le_of_ble_eq_true rfl) rfl (fun ls hl => ?_)
    refine x_iload_n hx dX6_canShow_46 hl 1 rfl ?_
    refine x_if_eq_N (a := ((cfOf sh) (d / 10))) (tgt := 68) hx dX6_canShow_47 (by decide) (by omega) (fun h_4 => ?_) (fun h_4 => ?_)
    · refine x_iconst (v := nI 0) hx dX6_canShow_68 (by decide) ?_
      exact hret _ _ _ dX6_canShow_69 (by simp [canS, canM, *])
    · refine x_iload_n hx dX6_canShow_50 hl 2 rfl ?_
      refine x_if_eq_N (a := ((cfOf sh) (d % 10))) (tgt := 68) hx dX6_canShow_51 (by decide) (by omega) (fun h_5 => ?_) (fun h_5 => ?_)
      · refine x_iconst (v := nI 0) hx dX6_canShow_68 (by decide) ?_
        exact hret _ _ _ dX6_canShow_69 (by simp [canS, canM, *])
      · have hor : cfOf sh (d / 10) ≤ cfOf sh (d / 10) ||| cfOf sh (d % 10) := Nat.left_le_or
        have hor2 : cfOf sh (d / 10) ||| cfOf sh (d % 10) < 16 := Nat.or_lt_two_pow (n := 4) (by assumption) (by assumption)
        have hor3 : (cfOf sh (d / 10) ||| cfOf sh (d % 10)) &&& ((cfOf sh (d / 10) ||| cfOf sh (d % 10)) - 1) < 16 := Nat.lt_of_le_of_lt Nat.and_le_left hor2
        refine x_iload hx dX6_canShow_54 hl 0 rfl ?_
        refine x_iload hx dX6_canShow_56 hl 0 rfl ?_
        refine x_iconst (v := nI 1) hx dX6_canShow_58 (by decide) ?_
        refine x_isub (v := nI ((((cfOf sh) (d / 10)) ||| ((cfOf sh) (d % 10))) - 1)) hx dX6_canShow_59 (pk_sub (by omega)) ?_
        refine x_iand (v := nI ((((cfOf sh) (d / 10)) ||| ((cfOf sh) (d % 10))) &&& ((((cfOf sh) (d / 10)) ||| ((cfOf sh) (d % 10))) - 1))) hx dX6_canShow_60 (nI_and _ _) ?_
        refine x_if_eq_N (a := ((((cfOf sh) (d / 10)) ||| ((cfOf sh) (d % 10))) &&& ((((cfOf sh) (d / 10)) ||| ((cfOf sh) (d % 10))) - 1))) (tgt := 68) hx dX6_canShow_61 (by decide) (by omega) (fun h_6 => ?_) (fun h_6 => ?_)
        · refine x_iconst (v := nI 0) hx dX6_canShow_68 (by decide) ?_
          exact hret _ _ _ dX6_canShow_69 (by simp [canS, canM, *])
        · refine x_iconst (v := nI 1) hx dX6_canShow_64 (by decide) ?_
          refine x_goto (tgt := 69) hx dX6_canShow_65 (by decide) ?_
          exact hret _ _ _ dX6_canShow_69 (by simp [canS, canM, *])
  · refine x_iload_n hx dX6_canShow_21 hl 0 rfl ?_
    refine x_if_eq_N (a := ((cfOf sh) (d % 10))) (tgt := 29) hx dX6_canShow_22 (by decide) (by omega) (fun h_7 => ?_) (fun h_7 => ?_)
    · refine x_iconst (v := nI 0) hx dX6_canShow_29 (by decide) ?_
      exact hret _ _ _ dX6_canShow_30 (by simp [canS, canM, *])
    · refine x_iconst (v := nI 1) hx dX6_canShow_25 (by decide) ?_
      refine x_goto (tgt := 30) hx dX6_canShow_26 (by decide) ?_
      exact hret _ _ _ dX6_canShow_30 (by simp [canS, canM, *])
set_option maxHeartbeats 4000000 in
set_option maxRecDepth 100000 in
theorem c_X6_cubeFor (l : Launch) (D : KD) (tr : Nat) (nw : Nat) (cf : Nat) (sh : Nat → Nat) (tb : Nat) (thd : Bool) (tlo : Nat) (te : Nat) (thn : Bool) (tcu : Nat) (tsc : Nat) (tfg : Nat) (ttv : Nat) (tpr : Nat) (d : Nat) (i : Int) (he : te ≤ 100) (hd : d < 100) (hi : -2147483648 ≤ i ∧ i < 2147483648) (hcan : canS thn te sh d = true) : cR l yX6_cubeFor cX6_cubeFor 6 (some .int) rm_X6_cubeFor D [(tr, .inr (6, [.ref tb, .ref nw, .ref cf])), (cf, .inl (D.2.1, 10, .inl (nA (cfOf sh)))), (tb, .inr (0, [.int (nI thd.toNat), .int (nI tlo), .int (iI ((te : Int) - 1)), .int (nI thn.toNat), .int (nI tcu), .ref tsc, .ref tfg, .ref ttv, .ref tpr]))] [.ref tr, .int (nI d), .int (iI i)] (iI (cubeS thn te sh d i)) := by
  refine cR.mk (by decide) (retI _) (Nat.le_of_ble_eq_true rfl) ?_
  intro X hx hL hP hret ls hl
  subst hL
  have hl : lv_has ls 6 [(0, .ref tr), (1, .int (nI d)), (2, .int (iI i))] := hl
  refine x_aload_n hx dX6_cubeFor_0 hl 0 rfl ?_
  refine x_get6 hx hP 0 rfl 2 (Nat.le_of_ble_eq_true rfl) wf_RX6_25 rfl dX6_cubeFor_1 ?_
  refine x_iload_n hx dX6_cubeFor_4 hl 1 rfl ?_
  refine x_bipush (v := nI 10) hx dX6_cubeFor_5 (by decide) ?_
  refine x_irem (v := nI (d % 10)) hx dX6_cubeFor_7 (by decide) (pk_rem (by omega) (by omega) (by omega)) ?_
  have hj_8 : d % 10 < 10 := by omega
  refine x_iald (v := nI ((cfOf sh) (d % 10))) hx hP 1 rfl hj_8 (by decide) rfl dX6_cubeFor_8 ?_
  have b_1 := (cfOf_b sh) (d % 10) hj_8
  refine x_istore_n (lv' := [(3, .int (nI ((cfOf sh) (d % 10)))), (0, .ref tr), (1, .int (nI d)), (2, .int (iI i))]) hx dX6_cubeFor_9 hl (Nat.le_of_ble_eq_true rfl) rfl (fun ls hl => ?_)
  refine x_aload_n hx dX6_cubeFor_10 hl 1 rfl ?_
  refine x_get6 hx hP 0 rfl 0 (Nat.le_of_ble_eq_true rfl) wf_RX6_12 rfl dX6_cubeFor_11 ?_
  refine x_iload_n hx dX6_cubeFor_14 hl 2 rfl ?_
  refine x_callRV (As := [.int (nI d)]) (rest := []) hx yv_X0_hasTwoPlaces (c_X0_hasTwoPlaces _ D tb thd tlo te thn tcu tsc tfg ttv tpr d (by first | assumption | omega | (simp [*]; done)) (by first | assumption | omega | (simp [*]; done))) wm_RX6_62 hP [2] rfl 2 rfl rfl ⟨rfl, rfl⟩ ⟨Nat.le_of_ble_eq_true rfl, Nat.le_of_ble_eq_true rfl⟩ ⟨Nat.zero_le _, Nat.zero_le _⟩ hl rfl rfl (Nat.le_of_ble_eq_true rfl) dX6_cubeFor_15 ?_
  refine x_if_ne_B (tgt := 34) hx dX6_cubeFor_18 (by decide) (fun h_2 => ?_) (fun h_2 => ?_)
  · have htwo := h_2
    refine x_aload_n hx dX6_cubeFor_34 hl 1 rfl ?_
    refine x_get6 hx hP 0 rfl 2 (Nat.le_of_ble_eq_true rfl) wf_RX6_25 rfl dX6_cubeFor_35 ?_
    refine x_iload_n hx dX6_cubeFor_38 hl 2 rfl ?_
    refine x_bipush (v := nI 10) hx dX6_cubeFor_39 (by decide) ?_
    refine x_idiv (v := nI (d / 10)) hx dX6_cubeFor_41 (by decide) (pk_div (by omega) (by omega) (by omega)) ?_
    have hj_42 : d / 10 < 10 := by omega
    refine x_iald (v := nI ((cfOf sh) (d / 10))) hx hP 1 rfl hj_42 (by decide) rfl dX6_cubeFor_42 ?_
    have b_3 := (cfOf_b sh) (d / 10) hj_42
    refine x_istore (lv' := [(4, .int (nI ((cfOf sh) (d / 10)))), (3, .int (nI ((cfOf sh) (d % 10)))), (0, .ref tr), (1, .int (nI d)), (2, .int (iI i))]) hx dX6_cubeFor_43 hl (Nat.le_of_ble_eq_true rfl) rfl (fun ls hl => ?_)
    have htk := tak_ok _ (cfOf_b sh (d / 10) (by omega)) _ (cfOf_b sh (d % 10) (by omega)) (by simpa only [canS, htwo, if_true] using hcan)
    have hl1 := lsb_lt _ (cfOf_b sh (d / 10) (by omega))
    refine x_iload hx dX6_cubeFor_45 hl 0 rfl ?_
    refine x_iload hx dX6_cubeFor_47 hl 0 rfl ?_
    refine x_ineg hx dX6_cubeFor_49 rfl ?_
    refine x_iand (v := nI (lsb ((cfOf sh) (d / 10)))) hx dX6_cubeFor_50 (nI_lsb _ (by omega)) ?_
    refine x_istore (lv' := [(5, .int (nI (lsb ((cfOf sh) (d / 10))))), (4, .int (nI ((cfOf sh) (d / 10)))), (3, .int (nI ((cfOf sh) (d % 10)))), (0, .ref tr), (1, .int (nI d)), (2, .int (iI i))]) hx dX6_cubeFor_51 hl (Nat.le_of_ble_eq_true rfl) rfl (fun ls hl => ?_)
    refine x_iload hx dX6_cubeFor_53 hl 0 rfl ?_
    refine x_iload_n hx dX6_cubeFor_55 hl 2 rfl ?_
    have J76_4 : ∀ (f : Nat) (t : Nat), (t = takM (cfOf sh (d / 10)) (cfOf sh (d % 10))) → ∀ ls : Array Slot, lv_has ls 6 [(0, .ref tr), (1, .int (nI d)), (2, .int (iI i)), (3, .int (nI ((cfOf sh) (d % 10)))), (4, .int (nI f)), (5, .int (nI t))] → Wx X 0 0 (cxS X).heap [] 76 ls [] := by
      intro f t ht ls hl
      rw [← ht] at htk
      refine x_iload_n hx dX6_cubeFor_76 hl 2 rfl ?_
      refine x_if_ne_Z (a := i) (tgt := 86) hx dX6_cubeFor_77 (by decide) (by omega) (fun h_5 => ?_) (fun h_5 => ?_)
      · refine x_iload_n hx dX6_cubeFor_86 hl 2 rfl ?_
        refine x_iconst (v := nI 1) hx dX6_cubeFor_87 (by decide) ?_
        refine x_icmp_ne_Z (a := i) (b := 1) (tgt := 103) hx dX6_cubeFor_88 (by decide) (by omega) (by omega) (fun h_6 => ?_) (fun h_6 => ?_)
        · refine x_iconst (v := iI (-1)) hx dX6_cubeFor_103 (by decide) ?_
          exact hret _ _ _ dX6_cubeFor_104 (by first | (simp [cubeS, *]; done) | (simp [cubeS, *]; rfl))
        · refine x_iload_n hx dX6_cubeFor_91 hl 3 rfl ?_
          refine x_iload hx dX6_cubeFor_92 hl 5 rfl ?_
          refine x_iconst (v := iI (-1)) hx dX6_cubeFor_94 (by decide) ?_
          refine x_ixor (v := (nI t ^^^ iI (-1))) hx dX6_cubeFor_95 (rfl) ?_
          refine x_iand (v := nI (bclr ((cfOf sh) (d % 10)) t)) hx dX6_cubeFor_96 (nI_bclr _ _) ?_
          refine x_callRN (As := [.int (nI (bclr ((cfOf sh) (d % 10)) t))]) (rest := []) hx yv_X7_leastOf (c_X7_leastOf _ D (bclr ((cfOf sh) (d % 10)) t) (by first | assumption | omega | (simp [*]; done)) (by first | assumption | omega | (simp [*]; done))) (List.mem_of_getElem? (i := 10) rfl) hP [] rfl ⟨rfl, rfl⟩ ⟨Nat.le_of_ble_eq_true rfl, Nat.le_of_ble_eq_true rfl⟩ ⟨Nat.zero_le _, Nat.zero_le _⟩ hl rfl rfl (Nat.le_of_ble_eq_true rfl) dX6_cubeFor_97 ?_
          refine x_goto (tgt := 104) hx dX6_cubeFor_100 (by decide) ?_
          exact hret _ _ _ dX6_cubeFor_104 (by first | (simp [cubeS, *]; done) | (simp [cubeS, *]; rfl))
      · refine x_iload hx dX6_cubeFor_80 hl 5 rfl ?_
        refine x_callRN (As := [.int (nI t)]) (rest := []) hx yv_X7_leastOf (c_X7_leastOf _ D t (by first | assumption | omega | (simp [*]; done)) (by first | assumption | omega | (simp [*]; done))) (List.mem_of_getElem? (i := 10) rfl) hP [] rfl ⟨rfl, rfl⟩ ⟨Nat.le_of_ble_eq_true rfl, Nat.le_of_ble_eq_true rfl⟩ ⟨Nat.zero_le _, Nat.zero_le _⟩ hl rfl rfl (Nat.le_of_ble_eq_true rfl) dX6_cubeFor_82 ?_
        exact hret _ _ _ dX6_cubeFor_85 (by first | (simp [cubeS, *]; done) | (simp [cubeS, *]; rfl))
    refine x_icmp_ne_N (a := (lsb ((cfOf sh) (d / 10)))) (b := ((cfOf sh) (d % 10))) (tgt := 76) hx dX6_cubeFor_56 (by decide) (by omega) (by omega) (fun h_7 => ?_) (fun h_7 => ?_)
    · have e_8 : ((cfOf sh) (d / 10) : Nat) = ((cfOf sh) (d / 10)) := by
        first | rfl | omega | (simp [*]; done) | (simp [*]; omega)
      have e_9 : (lsb ((cfOf sh) (d / 10)) : Nat) = (lsb ((cfOf sh) (d / 10))) := by
        first | rfl | omega | (simp [*]; done) | (simp [*]; omega)
      exact J76_4 ((cfOf sh) (d / 10)) (lsb ((cfOf sh) (d / 10))) (by simp only [takM]; first | rw [if_pos (by assumption)] | rw [if_neg (by assumption)]) _ (lv_to (l := [(0, .ref tr), (1, .int (nI d)), (2, .int (iI i)), (3, .int (nI ((cfOf sh) (d % 10)))), (4, .int (nI ((cfOf sh) (d / 10)))), (5, .int (nI (lsb ((cfOf sh) (d / 10)))))]) (l2 := [(0, .ref tr), (1, .int (nI d)), (2, .int (iI i)), (3, .int (nI ((cfOf sh) (d % 10)))), (4, .int (nI ((cfOf sh) (d / 10)))), (5, .int (nI (lsb ((cfOf sh) (d / 10)))))]) (lv_sub hl [3, 4, 5, 2, 1, 0] rfl) (cE rfl (cE rfl (cE rfl (cE rfl (cE (congrArg (fun z => ((4, Value.int z) : Nat × Value)) (congrArg (fun z : Nat => nI z) e_8)) (cE (congrArg (fun z => ((5, Value.int z) : Nat × Value)) (congrArg (fun z : Nat => nI z) e_9)) rfl)))))))
    · have hb9 := bclr_lt _ (cfOf_b sh (d / 10) (by omega)) _ hl1
      refine x_iload hx dX6_cubeFor_59 hl 1 rfl ?_
      refine x_iload hx dX6_cubeFor_61 hl 0 rfl ?_
      refine x_iconst (v := iI (-1)) hx dX6_cubeFor_63 (by decide) ?_
      refine x_ixor (v := (nI (lsb ((cfOf sh) (d / 10))) ^^^ iI (-1))) hx dX6_cubeFor_64 (rfl) ?_
      refine x_iand (v := nI (bclr ((cfOf sh) (d / 10)) (lsb ((cfOf sh) (d / 10))))) hx dX6_cubeFor_65 (nI_bclr _ _) ?_
      refine x_istore (lv' := [(4, .int (nI (bclr ((cfOf sh) (d / 10)) (lsb ((cfOf sh) (d / 10)))))), (5, .int (nI (lsb ((cfOf sh) (d / 10))))), (3, .int (nI ((cfOf sh) (d % 10)))), (0, .ref tr), (1, .int (nI d)), (2, .int (iI i))]) hx dX6_cubeFor_66 hl (Nat.le_of_ble_eq_true rfl) rfl (fun ls hl => ?_)
      refine x_iload hx dX6_cubeFor_68 hl 0 rfl ?_
      refine x_iload hx dX6_cubeFor_70 hl 0 rfl ?_
      refine x_ineg hx dX6_cubeFor_72 rfl ?_
      refine x_iand (v := nI (lsb (bclr ((cfOf sh) (d / 10)) (lsb ((cfOf sh) (d / 10)))))) hx dX6_cubeFor_73 (nI_lsb _ (by omega)) ?_
      refine x_istore (lv' := [(5, .int (nI (lsb (bclr ((cfOf sh) (d / 10)) (lsb ((cfOf sh) (d / 10))))))), (4, .int (nI (bclr ((cfOf sh) (d / 10)) (lsb ((cfOf sh) (d / 10)))))), (3, .int (nI ((cfOf sh) (d % 10)))), (0, .ref tr), (1, .int (nI d)), (2, .int (iI i))]) hx dX6_cubeFor_74 hl (Nat.le_of_ble_eq_true rfl) rfl (fun ls hl => ?_)
      have e_10 : (bclr ((cfOf sh) (d / 10)) (lsb ((cfOf sh) (d / 10))) : Nat) = (bclr ((cfOf sh) (d / 10)) (lsb ((cfOf sh) (d / 10)))) := by
        first | rfl | omega | (simp [*]; done) | (simp [*]; omega)
      have e_11 : (lsb (bclr ((cfOf sh) (d / 10)) (lsb ((cfOf sh) (d / 10)))) : Nat) = (lsb (bclr ((cfOf sh) (d / 10)) (lsb ((cfOf sh) (d / 10))))) := by
        first | rfl | omega | (simp [*]; done) | (simp [*]; omega)
      exact J76_4 (bclr ((cfOf sh) (d / 10)) (lsb ((cfOf sh) (d / 10)))) (lsb (bclr ((cfOf sh) (d / 10)) (lsb ((cfOf sh) (d / 10))))) (by simp only [takM]; first | rw [if_pos (by assumption)] | rw [if_neg (by assumption)]) _ (lv_to (l := [(0, .ref tr), (1, .int (nI d)), (2, .int (iI i)), (3, .int (nI ((cfOf sh) (d % 10)))), (4, .int (nI (bclr ((cfOf sh) (d / 10)) (lsb ((cfOf sh) (d / 10)))))), (5, .int (nI (lsb (bclr ((cfOf sh) (d / 10)) (lsb ((cfOf sh) (d / 10)))))))]) (l2 := [(0, .ref tr), (1, .int (nI d)), (2, .int (iI i)), (3, .int (nI ((cfOf sh) (d % 10)))), (4, .int (nI (bclr ((cfOf sh) (d / 10)) (lsb ((cfOf sh) (d / 10)))))), (5, .int (nI (lsb (bclr ((cfOf sh) (d / 10)) (lsb ((cfOf sh) (d / 10)))))))]) (lv_sub hl [3, 4, 5, 2, 1, 0] rfl) (cE rfl (cE rfl (cE rfl (cE rfl (cE (congrArg (fun z => ((4, Value.int z) : Nat × Value)) (congrArg (fun z : Nat => nI z) e_10)) (cE (congrArg (fun z => ((5, Value.int z) : Nat × Value)) (congrArg (fun z : Nat => nI z) e_11)) rfl)))))))
  · have htwo := h_2
    refine x_iload_n hx dX6_cubeFor_21 hl 3 rfl ?_
    refine x_if_ne_Z (a := i) (tgt := 32) hx dX6_cubeFor_22 (by decide) (by omega) (fun h_12 => ?_) (fun h_12 => ?_)
    · refine x_iconst (v := iI (-1)) hx dX6_cubeFor_32 (by decide) ?_
      exact hret _ _ _ dX6_cubeFor_33 (by first | (simp [cubeS, *]; done) | (simp [cubeS, *]; rfl))
    · have hnz : 0 < cfOf sh (d % 10) := by
        simp only [canS, htwo] at hcan
        simp at hcan
        omega
      refine x_iload_n hx dX6_cubeFor_25 hl 0 rfl ?_
      refine x_callRN (As := [.int (nI ((cfOf sh) (d % 10)))]) (rest := []) hx yv_X7_leastOf (c_X7_leastOf _ D ((cfOf sh) (d % 10)) (by first | assumption | omega | (simp [*]; done)) (by first | assumption | omega | (simp [*]; done))) (List.mem_of_getElem? (i := 10) rfl) hP [] rfl ⟨rfl, rfl⟩ ⟨Nat.le_of_ble_eq_true rfl, Nat.le_of_ble_eq_true rfl⟩ ⟨Nat.zero_le _, Nat.zero_le _⟩ hl rfl rfl (Nat.le_of_ble_eq_true rfl) dX6_cubeFor_26 ?_
      refine x_goto (tgt := 33) hx dX6_cubeFor_29 (by decide) ?_
      exact hret _ _ _ dX6_cubeFor_33 (by first | (simp [cubeS, *]; done) | (simp [cubeS, *]; rfl))
set_option maxHeartbeats 4000000 in
set_option maxRecDepth 100000 in
theorem c_X6_countShown (l : Launch) (D : KD) (tr : Nat) (nw : Nat) (cf : Nat) (sh : Nat → Nat) (tb : Nat) (thd : Bool) (tlo : Nat) (te : Nat) (thn : Bool) (tcu : Nat) (tsc : Nat) (tfg : Nat) (ttv : Nat) (tpr : Nat) (hle : tlo ≤ te) (he : te ≤ 100) : cR l yX6_countShown cX6_countShown 3 (some .int) rm_X6_countShown D [(tr, .inr (6, [.ref tb, .ref nw, .ref cf])), (cf, .inl (D.2.1, 10, .inl (nA (cfOf sh)))), (tb, .inr (0, [.int (nI thd.toNat), .int (nI tlo), .int (iI ((te : Int) - 1)), .int (nI thn.toNat), .int (nI tcu), .ref tsc, .ref tfg, .ref ttv, .ref tpr]))] [.ref tr] (nI (cntTo (canS thn te sh) tlo te)) := by
  refine cR.mk (by decide) (retI _) (Nat.le_of_ble_eq_true rfl) ?_
  intro X hx hL hP hret ls hl
  subst hL
  have hl : lv_has ls 3 [(0, .ref tr)] := hl
  refine x_iconst (v := nI 0) hx dX6_countShown_0 (by decide) ?_
  refine x_istore_n (lv' := [(1, .int (nI 0)), (0, .ref tr)]) hx dX6_countShown_1 hl (Nat.le_of_ble_eq_true rfl) rfl (fun ls hl => ?_)
  refine x_aload_n hx dX6_countShown_2 hl 1 rfl ?_
  refine x_get6 hx hP 0 rfl 0 (Nat.le_of_ble_eq_true rfl) wf_RX6_12 rfl dX6_countShown_3 ?_
  refine x_get0 hx hP 2 rfl 1 (Nat.le_of_ble_eq_true rfl) wf_RX6_68 rfl dX6_countShown_6 ?_
  refine x_istore_n (lv' := [(2, .int (nI tlo)), (1, .int (nI 0)), (0, .ref tr)]) hx dX6_countShown_9 hl (Nat.le_of_ble_eq_true rfl) rfl (fun ls hl => ?_)
  have L10_1 : ∀ (L10_1n : Nat) (d : Nat), (tlo ≤ d) → (d ≤ te) → te - d < L10_1n → ∀ ls : Array Slot, lv_has ls 3 [(0, .ref tr), (1, .int (nI (cntTo (canS thn te sh) tlo d))), (2, .int (nI d))] → Wx X 0 0 (cxS X).heap [] 10 ls [] := by
    intro L10_1n
    induction L10_1n with
    | zero =>
      intro d h1 h2 hm
      exact absurd hm (Nat.not_lt_zero _)
    | succ L10_1n ihL10_1 =>
      intro d h1 h2 hm ls hl
      refine x_iload_n hx dX6_countShown_10 hl 2 rfl ?_
      refine x_aload_n hx dX6_countShown_11 hl 0 rfl ?_
      refine x_get6 hx hP 0 rfl 0 (Nat.le_of_ble_eq_true rfl) wf_RX6_12 rfl dX6_countShown_12 ?_
      refine x_get0 hx hP 2 rfl 2 (Nat.le_of_ble_eq_true rfl) wf_RX6_71 rfl dX6_countShown_15 ?_
      refine x_icmp_gt_Z (a := (d : Int)) (b := ((te : Int) - 1)) (tgt := 38) hx dX6_countShown_18 (by decide) (by omega) (by omega) (fun h_2 => ?_) (fun h_2 => ?_)
      · refine x_iload_n hx dX6_countShown_38 hl 1 rfl ?_
        exact hret _ _ _ dX6_countShown_39 (by congr 2; omega)
      · refine x_aload_n hx dX6_countShown_21 hl 0 rfl ?_
        refine x_iload_n hx dX6_countShown_22 hl 2 rfl ?_
        refine x_callRV (As := [.int (nI d)]) (rest := []) hx yv_X6_canShow (c_X6_canShow _ D tr nw cf sh tb thd tlo te thn tcu tsc tfg ttv tpr d (by first | assumption | omega | (simp [*]; done)) (by first | assumption | omega | (simp [*]; done))) wm_RX6_74 hP [0, 1, 2] rfl 0 rfl rfl ⟨rfl, rfl⟩ ⟨Nat.le_of_ble_eq_true rfl, Nat.le_of_ble_eq_true rfl⟩ ⟨Nat.zero_le _, Nat.zero_le _⟩ hl rfl rfl (Nat.le_of_ble_eq_true rfl) dX6_countShown_23 ?_
        refine x_if_eq_B (tgt := 32) hx dX6_countShown_26 (by decide) (fun h_3 => ?_) (fun h_3 => ?_)
        · refine x_iinc (v := nI (d + 1)) (lv' := [(2, .int (nI (d + 1))), (0, .ref tr), (1, .int (nI (cntTo (canS thn te sh) tlo d)))]) hx dX6_countShown_32 hl 2 rfl (nI_addc d 1) (Nat.le_of_ble_eq_true rfl) rfl (fun ls hl => ?_)
          refine x_goto (tgt := 10) hx dX6_countShown_35 (by decide) ?_
          have e_4 : (cntTo (canS thn te sh) tlo d : Nat) = cntTo (canS thn te sh) tlo (d + 1) := by
            first | rw [cntTo_0] | (rw [cntTo_s _ h1]; simp [*])
          have e_5 : (d + 1 : Nat) = (d + 1) := by
            first | rfl | omega | (simp [*]; done) | (simp [*]; omega)
          exact ihL10_1 (d + 1) (by first | assumption | omega | (simp [*]; done)) (by first | assumption | omega | (simp [*]; done)) (by omega) _ (lv_to (l := [(0, .ref tr), (1, .int (nI (cntTo (canS thn te sh) tlo d))), (2, .int (nI (d + 1)))]) (l2 := [(0, .ref tr), (1, .int (nI (cntTo (canS thn te sh) tlo (d + 1)))), (2, .int (nI (d + 1)))]) (lv_sub hl [1, 2, 0] rfl) (cE rfl (cE (congrArg (fun z => ((1, Value.int z) : Nat × Value)) (congrArg (fun z : Nat => nI z) e_4)) (cE (congrArg (fun z => ((2, Value.int z) : Nat × Value)) (congrArg (fun z : Nat => nI z) e_5)) rfl))))
        · refine x_iinc (v := nI (cntTo (canS thn te sh) tlo d + 1)) (lv' := [(1, .int (nI (cntTo (canS thn te sh) tlo d + 1))), (0, .ref tr), (2, .int (nI d))]) hx dX6_countShown_29 hl 1 rfl (nI_addc (cntTo (canS thn te sh) tlo d) 1) (Nat.le_of_ble_eq_true rfl) rfl (fun ls hl => ?_)
          refine x_iinc (v := nI (d + 1)) (lv' := [(2, .int (nI (d + 1))), (1, .int (nI (cntTo (canS thn te sh) tlo d + 1))), (0, .ref tr)]) hx dX6_countShown_32 hl 2 rfl (nI_addc d 1) (Nat.le_of_ble_eq_true rfl) rfl (fun ls hl => ?_)
          refine x_goto (tgt := 10) hx dX6_countShown_35 (by decide) ?_
          have e_6 : (cntTo (canS thn te sh) tlo d + 1 : Nat) = cntTo (canS thn te sh) tlo (d + 1) := by
            first | rw [cntTo_0] | (rw [cntTo_s _ h1]; simp [*])
          have e_7 : (d + 1 : Nat) = (d + 1) := by
            first | rfl | omega | (simp [*]; done) | (simp [*]; omega)
          exact ihL10_1 (d + 1) (by first | assumption | omega | (simp [*]; done)) (by first | assumption | omega | (simp [*]; done)) (by omega) _ (lv_to (l := [(0, .ref tr), (1, .int (nI (cntTo (canS thn te sh) tlo d + 1))), (2, .int (nI (d + 1)))]) (l2 := [(0, .ref tr), (1, .int (nI (cntTo (canS thn te sh) tlo (d + 1)))), (2, .int (nI (d + 1)))]) (lv_sub hl [2, 1, 0] rfl) (cE rfl (cE (congrArg (fun z => ((1, Value.int z) : Nat × Value)) (congrArg (fun z : Nat => nI z) e_6)) (cE (congrArg (fun z => ((2, Value.int z) : Nat × Value)) (congrArg (fun z : Nat => nI z) e_7)) rfl))))
  have e_8 : (0 : Nat) = cntTo (canS thn te sh) tlo tlo := by
    first | rw [cntTo_0] | (rw [cntTo_s _ h1]; simp [*])
  exact L10_1 (te - tlo + 1) tlo (by first | assumption | omega | (simp [*]; done)) (by first | assumption | omega | (simp [*]; done)) (Nat.lt_succ_self _) _ (lv_to (l := [(0, .ref tr), (1, .int (nI 0)), (2, .int (nI tlo))]) (l2 := [(0, .ref tr), (1, .int (nI (cntTo (canS thn te sh) tlo tlo))), (2, .int (nI tlo))]) (lv_sub hl [2, 1, 0] rfl) (cE rfl (cE (congrArg (fun z => ((1, Value.int z) : Nat × Value)) (congrArg (fun z : Nat => nI z) e_8)) (cE rfl rfl))))
set_option maxHeartbeats 4000000 in
set_option maxRecDepth 100000 in
theorem c_X6_firstGap (l : Launch) (D : KD) (tr : Nat) (nw : Nat) (cf : Nat) (sh : Nat → Nat) (tb : Nat) (thd : Bool) (tlo : Nat) (te : Nat) (thn : Bool) (tcu : Nat) (tsc : Nat) (tfg : Nat) (ttv : Nat) (tpr : Nat) (hle : tlo ≤ te) (he : te ≤ 100) : cR l yX6_firstGap cX6_firstGap 2 (some .int) rm_X6_firstGap D [(tr, .inr (6, [.ref tb, .ref nw, .ref cf])), (cf, .inl (D.2.1, 10, .inl (nA (cfOf sh)))), (tb, .inr (0, [.int (nI thd.toNat), .int (nI tlo), .int (iI ((te : Int) - 1)), .int (nI thn.toNat), .int (nI tcu), .ref tsc, .ref tfg, .ref ttv, .ref tpr]))] [.ref tr] (iI (gapTo (canS thn te sh) tlo (te - tlo))) := by
  refine cR.mk (by decide) (retI _) (Nat.le_of_ble_eq_true rfl) ?_
  intro X hx hL hP hret ls hl
  subst hL
  have hl : lv_has ls 2 [(0, .ref tr)] := hl
  refine x_aload_n hx dX6_firstGap_0 hl 0 rfl ?_
  refine x_get6 hx hP 0 rfl 0 (Nat.le_of_ble_eq_true rfl) wf_RX6_12 rfl dX6_firstGap_1 ?_
  refine x_get0 hx hP 2 rfl 1 (Nat.le_of_ble_eq_true rfl) wf_RX6_68 rfl dX6_firstGap_4 ?_
  refine x_istore_n (lv' := [(1, .int (nI tlo)), (0, .ref tr)]) hx dX6_firstGap_7 hl (Nat.le_of_ble_eq_true rfl) rfl (fun ls hl => ?_)
  have L8_1 : ∀ (L8_1n : Nat) (d : Nat), (tlo ≤ d) → (d ≤ te) → (gapTo (canS thn te sh) tlo (te - tlo) = gapTo (canS thn te sh) d (te - d)) → te - d < L8_1n → ∀ ls : Array Slot, lv_has ls 2 [(0, .ref tr), (1, .int (nI d))] → Wx X 0 0 (cxS X).heap [] 8 ls [] := by
    intro L8_1n
    induction L8_1n with
    | zero =>
      intro d h1 h2 h3 hm
      exact absurd hm (Nat.not_lt_zero _)
    | succ L8_1n ihL8_1 =>
      intro d h1 h2 h3 hm ls hl
      refine x_iload_n hx dX6_firstGap_8 hl 1 rfl ?_
      refine x_aload_n hx dX6_firstGap_9 hl 0 rfl ?_
      refine x_get6 hx hP 0 rfl 0 (Nat.le_of_ble_eq_true rfl) wf_RX6_12 rfl dX6_firstGap_10 ?_
      refine x_get0 hx hP 2 rfl 2 (Nat.le_of_ble_eq_true rfl) wf_RX6_71 rfl dX6_firstGap_13 ?_
      refine x_icmp_gt_Z (a := (d : Int)) (b := ((te : Int) - 1)) (tgt := 35) hx dX6_firstGap_16 (by decide) (by omega) (by omega) (fun h_2 => ?_) (fun h_2 => ?_)
      · refine x_iconst (v := iI (-1)) hx dX6_firstGap_35 (by decide) ?_
        exact hret _ _ _ dX6_firstGap_36 (by rw [h3, gapTo_e (by omega)])
      · refine x_aload_n hx dX6_firstGap_19 hl 0 rfl ?_
        refine x_iload_n hx dX6_firstGap_20 hl 1 rfl ?_
        refine x_callRV (As := [.int (nI d)]) (rest := []) hx yv_X6_canShow (c_X6_canShow _ D tr nw cf sh tb thd tlo te thn tcu tsc tfg ttv tpr d (by first | assumption | omega | (simp [*]; done)) (by first | assumption | omega | (simp [*]; done))) wm_RX6_74 hP [0, 1, 2] rfl 0 rfl rfl ⟨rfl, rfl⟩ ⟨Nat.le_of_ble_eq_true rfl, Nat.le_of_ble_eq_true rfl⟩ ⟨Nat.zero_le _, Nat.zero_le _⟩ hl rfl rfl (Nat.le_of_ble_eq_true rfl) dX6_firstGap_21 ?_
        refine x_if_ne_B (tgt := 29) hx dX6_firstGap_24 (by decide) (fun h_3 => ?_) (fun h_3 => ?_)
        · refine x_iinc (v := nI (d + 1)) (lv' := [(1, .int (nI (d + 1))), (0, .ref tr)]) hx dX6_firstGap_29 hl 1 rfl (nI_addc d 1) (Nat.le_of_ble_eq_true rfl) rfl (fun ls hl => ?_)
          refine x_goto (tgt := 8) hx dX6_firstGap_32 (by decide) ?_
          have e_4 : (d + 1 : Nat) = (d + 1) := by
            first | rfl | omega | (simp [*]; done) | (simp [*]; omega)
          exact ihL8_1 (d + 1) (by first | assumption | omega | (simp [*]; done)) (by first | assumption | omega | (simp [*]; done)) (by first | rfl | exact h3.trans (gapTo_y (by omega) (by assumption))) (by omega) _ (lv_to (l := [(0, .ref tr), (1, .int (nI (d + 1)))]) (l2 := [(0, .ref tr), (1, .int (nI (d + 1)))]) (lv_sub hl [1, 0] rfl) (cE rfl (cE (congrArg (fun z => ((1, Value.int z) : Nat × Value)) (congrArg (fun z : Nat => nI z) e_4)) rfl)))
        · refine x_iload_n hx dX6_firstGap_27 hl 1 rfl ?_
          exact hret _ _ _ dX6_firstGap_28 (by rw [h3, gapTo_n (by omega) (by assumption)]; rfl)
  exact L8_1 (te - tlo + 1) tlo (by first | assumption | omega | (simp [*]; done)) (by first | assumption | omega | (simp [*]; done)) (by first | rfl | exact h3.trans (gapTo_y (by omega) (by assumption))) (Nat.lt_succ_self _) _ (lv_sub hl [1, 0] rfl)
set_option maxHeartbeats 4000000 in
set_option maxRecDepth 100000 in
theorem c_X6_addSightings (l : Launch) (D : KD) (tr : Nat) (nw : Nat) (cf : Nat) (sh : Nat → Nat) (tb : Nat) (thd : Bool) (tlo : Nat) (te : Nat) (thn : Bool) (tcu : Nat) (tsc : Nat) (tfg : Nat) (ttv : Nat) (tpr : Nat) (sg : Nat) (SG : Nat → Nat) (hle : tlo ≤ te) (he : te ≤ 100) : cV l yX6_addSightings cX6_addSightings 3 rm_X6_addSightings D [(tr, .inr (6, [.ref tb, .ref nw, .ref cf])), (cf, .inl (D.2.1, 10, .inl (nA (cfOf sh)))), (tb, .inr (0, [.int (nI thd.toNat), .int (nI tlo), .int (iI ((te : Int) - 1)), .int (nI thn.toNat), .int (nI tcu), .ref tsc, .ref tfg, .ref ttv, .ref tpr])), (sg, .inl (D.2.1, 100, .inl (nA SG)))] [.ref tr, .ref sg] [(tr, .inr (6, [.ref tb, .ref nw, .ref cf])), (cf, .inl (D.2.1, 10, .inl (nA (cfOf sh)))), (tb, .inr (0, [.int (nI thd.toNat), .int (nI tlo), .int (iI ((te : Int) - 1)), .int (nI thn.toNat), .int (nI tcu), .ref tsc, .ref tfg, .ref ttv, .ref tpr])), (sg, .inl (D.2.1, 100, .inl (nA (sgt (canS thn te sh) tlo te SG))))] := by
  refine cV.mk (by decide) (Nat.le_of_ble_eq_true rfl) ?_
  intro X A hx hL hA hW hret ls hl
  subst hL
  have hl : lv_has ls 3 [(0, .ref tr), (1, .ref sg)] := hl
  refine x_aload_n hx dX6_addSightings_0 hl 0 rfl ?_
  refine x_get6 hx hW.1 0 rfl 0 (Nat.le_of_ble_eq_true rfl) wf_RX6_12 rfl dX6_addSightings_1 ?_
  refine x_get0 hx hW.1 2 rfl 1 (Nat.le_of_ble_eq_true rfl) wf_RX6_68 rfl dX6_addSightings_4 ?_
  refine x_istore_n (lv' := [(2, .int (nI tlo)), (0, .ref tr), (1, .ref sg)]) hx dX6_addSightings_7 hl (Nat.le_of_ble_eq_true rfl) rfl (fun ls hl => ?_)
  have L8_1 : ∀ (L8_1n : Nat) (d : Nat), (tlo ≤ d) → (d ≤ te) → te - d < L8_1n → ∀ (H : Heap) (locs : List Loc), Wd X D A [(tr, .inr (6, [.ref tb, .ref nw, .ref cf])), (cf, .inl (D.2.1, 10, .inl (nA (cfOf sh)))), (tb, .inr (0, [.int (nI thd.toNat), .int (nI tlo), .int (iI ((te : Int) - 1)), .int (nI thn.toNat), .int (nI tcu), .ref tsc, .ref tfg, .ref ttv, .ref tpr])), (sg, .inl (D.2.1, 100, .inl (nA (sgt (canS thn te sh) tlo d SG))))] H locs → ∀ ls : Array Slot, lv_has ls 3 [(0, .ref tr), (1, .ref sg), (2, .int (nI d))] → Wx X 0 0 H locs 8 ls [] := by
    intro L8_1n
    induction L8_1n with
    | zero =>
      intro d h1 h2 hm
      exact absurd hm (Nat.not_lt_zero _)
    | succ L8_1n ihL8_1 =>
      intro d h1 h2 hm H locs hW ls hl
      refine x_iload_n hx dX6_addSightings_8 hl 2 rfl ?_
      refine x_aload_n hx dX6_addSightings_9 hl 0 rfl ?_
      refine x_get6 hx hW.1 0 rfl 0 (Nat.le_of_ble_eq_true rfl) wf_RX6_12 rfl dX6_addSightings_10 ?_
      refine x_get0 hx hW.1 2 rfl 2 (Nat.le_of_ble_eq_true rfl) wf_RX6_71 rfl dX6_addSightings_13 ?_
      refine x_icmp_gt_Z (a := (d : Int)) (b := ((te : Int) - 1)) (tgt := 46) hx dX6_addSightings_16 (by decide) (by omega) (by omega) (fun h_2 => ?_) (fun h_2 => ?_)
      · have e_3 : ∀ k, k < 100 → (sgt (canS thn te sh) tlo d SG) k = (sgt (canS thn te sh) tlo te SG) k := by
          intro k hk
          have e9 : d = te := by omega
          rw [e9]
        have hW : Wd X D A [(tr, .inr (6, [.ref tb, .ref nw, .ref cf])), (cf, .inl (D.2.1, 10, .inl (nA (cfOf sh)))), (tb, .inr (0, [.int (nI thd.toNat), .int (nI tlo), .int (iI ((te : Int) - 1)), .int (nI thn.toNat), .int (nI tcu), .ref tsc, .ref tfg, .ref ttv, .ref tpr])), (sg, .inl (D.2.1, 100, .inl (nA (sgt (canS thn te sh) tlo te SG))))] _ _ := hW.row 3 rfl (fun j hj => congrArg (nI) (e_3 j hj)) rfl
        exact hret _ _ _ _ dX6_addSightings_46 hW
      · refine x_iload_n hx dX6_addSightings_19 hl 2 rfl ?_
        refine x_aload_n hx dX6_addSightings_20 hl 1 rfl ?_
        refine x_alen hx hW.1 3 rfl dX6_addSightings_21 ?_
        refine x_icmp_ge_N (a := d) (b := 100) (tgt := 46) hx dX6_addSightings_22 (by decide) (by omega) (by omega) (fun h_4 => ?_) (fun h_4 => ?_)
        · omega
        · refine x_aload_n hx dX6_addSightings_25 hl 0 rfl ?_
          refine x_iload_n hx dX6_addSightings_26 hl 2 rfl ?_
          refine x_callRV (As := [.int (nI d)]) (rest := []) hx yv_X6_canShow (c_X6_canShow _ D tr nw cf sh tb thd tlo te thn tcu tsc tfg ttv tpr d (by first | assumption | omega | (simp [*]; done)) (by first | assumption | omega | (simp [*]; done))) wm_RX6_74 hW.1 [0, 1, 2] rfl 0 rfl rfl ⟨rfl, rfl⟩ ⟨Nat.le_of_ble_eq_true rfl, Nat.le_of_ble_eq_true rfl⟩ ⟨Nat.zero_le _, Nat.zero_le _⟩ hl rfl rfl (Nat.le_of_ble_eq_true rfl) dX6_addSightings_27 ?_
          refine x_if_eq_B (tgt := 40) hx dX6_addSightings_30 (by decide) (fun h_5 => ?_) (fun h_5 => ?_)
          · refine x_iinc (v := nI (d + 1)) (lv' := [(2, .int (nI (d + 1))), (0, .ref tr), (1, .ref sg)]) hx dX6_addSightings_40 hl 2 rfl (nI_addc d 1) (Nat.le_of_ble_eq_true rfl) rfl (fun ls hl => ?_)
            refine x_goto (tgt := 8) hx dX6_addSightings_43 (by decide) ?_
            have e_6 : (d + 1 : Nat) = (d + 1) := by
              first | rfl | omega | (simp [*]; done) | (simp [*]; omega)
            have e_7 : ∀ k, k < 100 → (sgt (canS thn te sh) tlo d SG) k = (sgt (canS thn te sh) tlo (d + 1) SG) k := by
              intro k hk
              first | exact (sgt_0 _ _ _ k).symm | exact sgt_y h1 (by assumption) k | exact sgt_n (by assumption) k
            have hW : Wd X D A [(tr, .inr (6, [.ref tb, .ref nw, .ref cf])), (cf, .inl (D.2.1, 10, .inl (nA (cfOf sh)))), (tb, .inr (0, [.int (nI thd.toNat), .int (nI tlo), .int (iI ((te : Int) - 1)), .int (nI thn.toNat), .int (nI tcu), .ref tsc, .ref tfg, .ref ttv, .ref tpr])), (sg, .inl (D.2.1, 100, .inl (nA (sgt (canS thn te sh) tlo (d + 1) SG))))] _ _ := hW.row 3 rfl (fun j hj => congrArg (nI) (e_7 j hj)) rfl
            exact ihL8_1 (d + 1) (by first | assumption | omega | (simp [*]; done)) (by first | assumption | omega | (simp [*]; done)) (by omega) _ _ hW _ (lv_to (l := [(0, .ref tr), (1, .ref sg), (2, .int (nI (d + 1)))]) (l2 := [(0, .ref tr), (1, .ref sg), (2, .int (nI (d + 1)))]) (lv_sub hl [1, 2, 0] rfl) (cE rfl (cE rfl (cE (congrArg (fun z => ((2, Value.int z) : Nat × Value)) (congrArg (fun z : Nat => nI z) e_6)) rfl))))
          · refine x_aload_n hx dX6_addSightings_33 hl 1 rfl ?_
            refine x_iload_n hx dX6_addSightings_34 hl 2 rfl ?_
            refine x_dup2 hx dX6_addSightings_35 rfl rfl ?_
            have hj_36 : d < 100 := by omega
            refine x_iald (v := nI ((sgt (canS thn te sh) tlo d SG) d)) hx hW.1 3 rfl hj_36 (by decide) rfl dX6_addSightings_36 ?_
            refine x_iconst (v := nI 1) hx dX6_addSightings_37 (by decide) ?_
            refine x_iadd (v := nI ((sgt (canS thn te sh) tlo d SG) d + 1)) hx dX6_addSightings_38 (nI_add _ _) ?_
            have hj_39 : d < 100 := by omega
            refine x_iast hx hW 3 rfl hj_39 (by decide) (upd_nA _ _ _) dX6_addSightings_39 [(tr, .inr (6, [.ref tb, .ref nw, .ref cf])), (cf, .inl (D.2.1, 10, .inl (nA (cfOf sh)))), (tb, .inr (0, [.int (nI thd.toNat), .int (nI tlo), .int (iI ((te : Int) - 1)), .int (nI thn.toNat), .int (nI tcu), .ref tsc, .ref tfg, .ref ttv, .ref tpr])), (sg, .inl (D.2.1, 100, .inl (nA (va_up (sgt (canS thn te sh) tlo d SG) d ((sgt (canS thn te sh) tlo d SG) d + 1)))))] rfl (fun H locs hW => ?_)
            refine x_iinc (v := nI (d + 1)) (lv' := [(2, .int (nI (d + 1))), (0, .ref tr), (1, .ref sg)]) hx dX6_addSightings_40 hl 2 rfl (nI_addc d 1) (Nat.le_of_ble_eq_true rfl) rfl (fun ls hl => ?_)
            refine x_goto (tgt := 8) hx dX6_addSightings_43 (by decide) ?_
            have e_8 : (d + 1 : Nat) = (d + 1) := by
              first | rfl | omega | (simp [*]; done) | (simp [*]; omega)
            have e_9 : ∀ k, k < 100 → (va_up (sgt (canS thn te sh) tlo d SG) d ((sgt (canS thn te sh) tlo d SG) d + 1)) k = (sgt (canS thn te sh) tlo (d + 1) SG) k := by
              intro k hk
              first | exact (sgt_0 _ _ _ k).symm | exact sgt_y h1 (by assumption) k | exact sgt_n (by assumption) k
            have hW : Wd X D A [(tr, .inr (6, [.ref tb, .ref nw, .ref cf])), (cf, .inl (D.2.1, 10, .inl (nA (cfOf sh)))), (tb, .inr (0, [.int (nI thd.toNat), .int (nI tlo), .int (iI ((te : Int) - 1)), .int (nI thn.toNat), .int (nI tcu), .ref tsc, .ref tfg, .ref ttv, .ref tpr])), (sg, .inl (D.2.1, 100, .inl (nA (sgt (canS thn te sh) tlo (d + 1) SG))))] _ _ := hW.row 3 rfl (fun j hj => congrArg (nI) (e_9 j hj)) rfl
            exact ihL8_1 (d + 1) (by first | assumption | omega | (simp [*]; done)) (by first | assumption | omega | (simp [*]; done)) (by omega) _ _ hW _ (lv_to (l := [(0, .ref tr), (1, .ref sg), (2, .int (nI (d + 1)))]) (l2 := [(0, .ref tr), (1, .ref sg), (2, .int (nI (d + 1)))]) (lv_sub hl [1, 2, 0] rfl) (cE rfl (cE rfl (cE (congrArg (fun z => ((2, Value.int z) : Nat × Value)) (congrArg (fun z : Nat => nI z) e_8)) rfl))))
  have e_10 : ∀ k, k < 100 → (SG) k = (sgt (canS thn te sh) tlo tlo SG) k := by
    intro k hk
    first | exact (sgt_0 _ _ _ k).symm | exact sgt_y h1 (by assumption) k | exact sgt_n (by assumption) k
  have hW : Wd X D A [(tr, .inr (6, [.ref tb, .ref nw, .ref cf])), (cf, .inl (D.2.1, 10, .inl (nA (cfOf sh)))), (tb, .inr (0, [.int (nI thd.toNat), .int (nI tlo), .int (iI ((te : Int) - 1)), .int (nI thn.toNat), .int (nI tcu), .ref tsc, .ref tfg, .ref ttv, .ref tpr])), (sg, .inl (D.2.1, 100, .inl (nA (sgt (canS thn te sh) tlo tlo SG))))] _ _ := hW.row 3 rfl (fun j hj => congrArg (nI) (e_10 j hj)) rfl
  exact L8_1 (te - tlo + 1) tlo (by first | assumption | omega | (simp [*]; done)) (by first | assumption | omega | (simp [*]; done)) (Nat.lt_succ_self _) _ _ hW _ (lv_sub hl [1, 2, 0] rfl)
set_option maxHeartbeats 4000000 in
set_option maxRecDepth 100000 in
theorem c_X6_see (l : Launch) (D : KD) (tr : Nat) (nw : Nat) (cf : Nat) (sh : Nat → Nat) (tb : Nat) (nnf : Nat) (nlost : Nat) (ncost : Nat) (ndr : Nat) (c : Nat) (m : Nat) (hlo : nlost < 16) (hc : c < 4) (hm : m < 1024) : cV l yX6_see cX6_see 5 rm_X6_see D [(tr, .inr (6, [.ref tb, .ref nw, .ref cf])), (cf, .inl (D.2.1, 10, .inl (nA (cfOf sh)))), (nw, .inr (4, [.ref nnf, .int (nI nlost), .int (nI ncost), .int (nI ndr)]))] [.ref tr, .int (nI c), .int (nI m)] [(tr, .inr (6, [.ref tb, .ref nw, .ref cf])), (cf, .inl (D.2.1, 10, .inl (nA (cfOf (va_up sh c (lz nlost c m)))))), (nw, .inr (4, [.ref nnf, .int (nI nlost), .int (nI ncost), .int (nI ndr)]))] := by
  refine cV.mk (by decide) (Nat.le_of_ble_eq_true rfl) ?_
  intro X A hx hL hA hW hret ls hl
  subst hL
  have hl : lv_has ls 5 [(0, .ref tr), (1, .int (nI c)), (2, .int (nI m))] := hl
  refine x_aload_n hx dX6_see_0 hl 0 rfl ?_
  refine x_get6 hx hW.1 0 rfl 1 (Nat.le_of_ble_eq_true rfl) wf_RX6_21 rfl dX6_see_1 ?_
  refine x_iload_n hx dX6_see_4 hl 1 rfl ?_
  refine x_callRV (As := [.int (nI c)]) (rest := []) hx yv_X4_isLost (c_X4_isLost _ D nw nnf nlost ncost ndr c (by first | assumption | omega | (simp [*]; done)) (by first | assumption | omega | (simp [*]; done))) wm_RX6_43 hW.1 [2] rfl 2 rfl rfl ⟨rfl, rfl⟩ ⟨Nat.le_of_ble_eq_true rfl, Nat.le_of_ble_eq_true rfl⟩ ⟨Nat.zero_le _, Nat.zero_le _⟩ hl rfl rfl (Nat.le_of_ble_eq_true rfl) dX6_see_5 ?_
  have J16_1 : ∀ (v : Nat), (v = lz nlost c m) → (v < 1024) → ∀ (H : Heap) (locs : List Loc), Wd X D A [(tr, .inr (6, [.ref tb, .ref nw, .ref cf])), (cf, .inl (D.2.1, 10, .inl (nA (cfOf sh)))), (nw, .inr (4, [.ref nnf, .int (nI nlost), .int (nI ncost), .int (nI ndr)]))] H locs → ∀ ls : Array Slot, lv_has ls 5 [(0, .ref tr), (1, .int (nI c)), (2, .int (nI m))] → Wx X 0 0 H locs 16 ls [.int (nI v)] := by
    intro v hv hv2 H locs hW ls hl
    refine x_istore_n (lv' := [(3, .int (nI v)), (0, .ref tr), (1, .int (nI c)), (2, .int (nI m))]) hx dX6_see_16 hl (Nat.le_of_ble_eq_true rfl) rfl (fun ls hl => ?_)
    refine x_iconst (v := nI 0) hx dX6_see_17 (by decide) ?_
    refine x_istore (lv' := [(4, .int (nI 0)), (3, .int (nI v)), (0, .ref tr), (1, .int (nI c)), (2, .int (nI m))]) hx dX6_see_18 hl (Nat.le_of_ble_eq_true rfl) rfl (fun ls hl => ?_)
    have L20_2 : ∀ (L20_2n : Nat) (j : Nat), (j ≤ 10) → 10 - j < L20_2n → ∀ (H : Heap) (locs : List Loc), Wd X D A [(tr, .inr (6, [.ref tb, .ref nw, .ref cf])), (cf, .inl (D.2.1, 10, .inl (nA (filN (cfOf (va_up sh c v)) (cfOf sh) j)))), (nw, .inr (4, [.ref nnf, .int (nI nlost), .int (nI ncost), .int (nI ndr)]))] H locs → ∀ ls : Array Slot, lv_has ls 5 [(0, .ref tr), (1, .int (nI c)), (2, .int (nI m)), (3, .int (nI v)), (4, .int (nI j))] → Wx X 0 0 H locs 20 ls [] := by
      intro L20_2n
      induction L20_2n with
      | zero =>
        intro j h1 hm
        exact absurd hm (Nat.not_lt_zero _)
      | succ L20_2n ihL20_2 =>
        intro j h1 hm H locs hW ls hl
        refine x_iload hx dX6_see_20 hl 4 rfl ?_
        refine x_bipush (v := nI 10) hx dX6_see_22 (by decide) ?_
        refine x_icmp_ge_N (a := j) (b := 10) (tgt := 62) hx dX6_see_24 (by decide) (by omega) (by omega) (fun h_3 => ?_) (fun h_3 => ?_)
        · have e_4 : ∀ k, k < 10 → (filN (cfOf (va_up sh c v)) (cfOf sh) j) k = (cfOf (va_up sh c (lz nlost c m))) k := by
            intro k hk
            rw [filN_in (by omega), hv]
          have hW : Wd X D A [(tr, .inr (6, [.ref tb, .ref nw, .ref cf])), (cf, .inl (D.2.1, 10, .inl (nA (cfOf (va_up sh c (lz nlost c m)))))), (nw, .inr (4, [.ref nnf, .int (nI nlost), .int (nI ncost), .int (nI ndr)]))] _ _ := hW.row 1 rfl (fun j hj => congrArg (nI) (e_4 j hj)) rfl
          exact hret _ _ _ _ dX6_see_62 hW
        · refine x_aload_n hx dX6_see_27 hl 0 rfl ?_
          refine x_get6 hx hW.1 0 rfl 2 (Nat.le_of_ble_eq_true rfl) wf_RX6_25 rfl dX6_see_28 ?_
          refine x_iload hx dX6_see_31 hl 4 rfl ?_
          refine x_aload_n hx dX6_see_33 hl 0 rfl ?_
          refine x_get6 hx hW.1 0 rfl 2 (Nat.le_of_ble_eq_true rfl) wf_RX6_25 rfl dX6_see_34 ?_
          refine x_iload hx dX6_see_37 hl 4 rfl ?_
          have hj_39 : j < 10 := by omega
          refine x_iald (v := nI ((filN (cfOf (va_up sh c v)) (cfOf sh) j) j)) hx hW.1 1 rfl hj_39 (by decide) rfl dX6_see_39 ?_
          refine x_iconst (v := nI 1) hx dX6_see_40 (by decide) ?_
          refine x_iload_n hx dX6_see_41 hl 1 rfl ?_
          refine x_ishl (v := nI (2 ^ c)) hx dX6_see_42 (nI_shl1 (by omega)) ?_
          refine x_iconst (v := iI (-1)) hx dX6_see_43 (by decide) ?_
          refine x_ixor (v := (nI (2 ^ c) ^^^ iI (-1))) hx dX6_see_44 (rfl) ?_
          refine x_iand (v := nI (bclr ((filN (cfOf (va_up sh c v)) (cfOf sh) j) j) (2 ^ c))) hx dX6_see_45 (nI_bclr _ _) ?_
          refine x_iload_n hx dX6_see_46 hl 3 rfl ?_
          refine x_iload hx dX6_see_47 hl 4 rfl ?_
          refine x_ishr (v := nI (v >>> j)) hx dX6_see_49 (nI_shr (by omega) (by omega)) ?_
          refine x_iconst (v := nI 1) hx dX6_see_50 (by decide) ?_
          refine x_iand (v := nI (v.testBit j).toNat) hx dX6_see_51 (nI_tb _ _) ?_
          refine x_iload_n hx dX6_see_52 hl 1 rfl ?_
          refine x_ishl (v := nI (((v.testBit j).toNat) * 2 ^ c)) hx dX6_see_53 (nI_shl (by omega) (shlb _ hc)) ?_
          refine x_ior (v := nI ((bclr ((filN (cfOf (va_up sh c v)) (cfOf sh) j) j) (2 ^ c)) ||| (((v.testBit j).toNat) * 2 ^ c))) hx dX6_see_54 (nI_or _ _) ?_
          have hj_55 : j < 10 := by omega
          refine x_iast hx hW 1 rfl hj_55 (by decide) (upd_nA _ _ _) dX6_see_55 [(tr, .inr (6, [.ref tb, .ref nw, .ref cf])), (cf, .inl (D.2.1, 10, .inl (nA (va_up (filN (cfOf (va_up sh c v)) (cfOf sh) j) j ((bclr ((filN (cfOf (va_up sh c v)) (cfOf sh) j) j) (2 ^ c)) ||| (((v.testBit j).toNat) * 2 ^ c)))))), (nw, .inr (4, [.ref nnf, .int (nI nlost), .int (nI ncost), .int (nI ndr)]))] rfl (fun H locs hW => ?_)
          refine x_iinc (v := nI (j + 1)) (lv' := [(4, .int (nI (j + 1))), (0, .ref tr), (1, .int (nI c)), (2, .int (nI m)), (3, .int (nI v))]) hx dX6_see_56 hl 4 rfl (nI_addc j 1) (Nat.le_of_ble_eq_true rfl) rfl (fun ls hl => ?_)
          refine x_goto (tgt := 20) hx dX6_see_59 (by decide) ?_
          have e_5 : (j + 1 : Nat) = (j + 1) := by
            first | rfl | omega | (simp [*]; done) | (simp [*]; omega)
          have e_6 : ∀ k, k < 10 → (va_up (filN (cfOf (va_up sh c v)) (cfOf sh) j) j ((bclr ((filN (cfOf (va_up sh c v)) (cfOf sh) j) j) (2 ^ c)) ||| (((v.testBit j).toNat) * 2 ^ c))) k = (filN (cfOf (va_up sh c v)) (cfOf sh) (j + 1)) k := by
            intro k hk
            first | (rw [filN_0]; done) | exact filN_up (by rw [filN_at]; exact cfOf_see sh hc v j) k
          have hW : Wd X D A [(tr, .inr (6, [.ref tb, .ref nw, .ref cf])), (cf, .inl (D.2.1, 10, .inl (nA (filN (cfOf (va_up sh c v)) (cfOf sh) (j + 1))))), (nw, .inr (4, [.ref nnf, .int (nI nlost), .int (nI ncost), .int (nI ndr)]))] _ _ := hW.row 1 rfl (fun j hj => congrArg (nI) (e_6 j hj)) rfl
          exact ihL20_2 (j + 1) (by first | assumption | omega | (simp [*]; done)) (by omega) _ _ hW _ (lv_to (l := [(0, .ref tr), (1, .int (nI c)), (2, .int (nI m)), (3, .int (nI v)), (4, .int (nI (j + 1)))]) (l2 := [(0, .ref tr), (1, .int (nI c)), (2, .int (nI m)), (3, .int (nI v)), (4, .int (nI (j + 1)))]) (lv_sub hl [1, 2, 3, 4, 0] rfl) (cE rfl (cE rfl (cE rfl (cE rfl (cE (congrArg (fun z => ((4, Value.int z) : Nat × Value)) (congrArg (fun z : Nat => nI z) e_5)) rfl))))))
    have e_7 : ∀ k, k < 10 → (cfOf sh) k = (filN (cfOf (va_up sh c v)) (cfOf sh) 0) k := by
      intro k hk
      first | (rw [filN_0]; done) | exact filN_up (by rw [filN_at]; exact cfOf_see sh hc v j) k
    have hW : Wd X D A [(tr, .inr (6, [.ref tb, .ref nw, .ref cf])), (cf, .inl (D.2.1, 10, .inl (nA (filN (cfOf (va_up sh c v)) (cfOf sh) 0)))), (nw, .inr (4, [.ref nnf, .int (nI nlost), .int (nI ncost), .int (nI ndr)]))] _ _ := hW.row 1 rfl (fun j hj => congrArg (nI) (e_7 j hj)) rfl
    exact L20_2 (10 - 0 + 1) 0 (by first | assumption | omega | (simp [*]; done)) (Nat.lt_succ_self _) _ _ hW _ (lv_sub hl [2, 3, 4, 1, 0] rfl)
  refine x_if_eq_B (tgt := 15) hx dX6_see_8 (by decide) (fun h_8 => ?_) (fun h_8 => ?_)
  · refine x_iload_n hx dX6_see_15 hl 2 rfl ?_
    exact J16_1 m (by simp [lz, *]) (by first | assumption | omega | (simp [*]; done)) _ _ hW _ (lv_sub hl [0, 1, 2] rfl)
  · refine x_iconst (v := nI 0) hx dX6_see_11 (by decide) ?_
    refine x_goto (tgt := 16) hx dX6_see_12 (by decide) ?_
    exact J16_1 0 (by simp [lz, *]) (by first | assumption | omega | (simp [*]; done)) _ _ hW _ (lv_sub hl [0, 1, 2] rfl)
set_option maxHeartbeats 4000000 in
set_option maxRecDepth 100000 in
theorem c_X6_restore (l : Launch) (D : KD) (tr : Nat) (nw : Nat) (cf : Nat) (sh : Nat → Nat) (tb : Nat) (thd : Bool) (tlo : Nat) (te : Nat) (thn : Bool) (tcu : Nat) (tsc : Nat) (tfg : Nat) (ttv : Nat) (tpr : Nat) (tSC : Nat → Nat) (tTV : Nat → Nat) (nnf : Nat) (nlost : Nat) (ncost : Nat) (ndr : Nat) (nNF : Nat → Nat) (c : Nat) (hnNF : ∀ k, k < 24 → nNF k < 10) (htSC : ∀ k, k < 4 → tSC k < 7) (htTV : ∀ k, k < 10 → tTV k < 10) (hlo : nlost < 16) (hcu : tcu ≤ 4) (hc : c < tcu) : cV l yX6_restore cX6_restore 2 rm_X6_restore D [(tr, .inr (6, [.ref tb, .ref nw, .ref cf])), (cf, .inl (D.2.1, 10, .inl (nA (cfOf sh)))), (tb, .inr (0, [.int (nI thd.toNat), .int (nI tlo), .int (iI ((te : Int) - 1)), .int (nI thn.toNat), .int (nI tcu), .ref tsc, .ref tfg, .ref ttv, .ref tpr])), (tsc, .inl (D.2.1, 4, .inl (nA tSC))), (ttv, .inl (D.2.1, 10, .inl (nA tTV))), (nw, .inr (4, [.ref nnf, .int (nI nlost), .int (nI ncost), .int (nI ndr)])), (nnf, .inl (D.2.1, 24, .inl (nA nNF)))] [.ref tr, .int (nI c)] [(tr, .inr (6, [.ref tb, .ref nw, .ref cf])), (cf, .inl (D.2.1, 10, .inl (nA (cfOf (va_up sh c (lz nlost c (seen tSC tTV nNF c (-1)))))))), (tb, .inr (0, [.int (nI thd.toNat), .int (nI tlo), .int (iI ((te : Int) - 1)), .int (nI thn.toNat), .int (nI tcu), .ref tsc, .ref tfg, .ref ttv, .ref tpr])), (tsc, .inl (D.2.1, 4, .inl (nA tSC))), (ttv, .inl (D.2.1, 10, .inl (nA tTV))), (nw, .inr (4, [.ref nnf, .int (nI nlost), .int (nI ncost), .int (nI ndr)])), (nnf, .inl (D.2.1, 24, .inl (nA nNF)))] := by
  refine cV.mk (by decide) (Nat.le_of_ble_eq_true rfl) ?_
  intro X A hx hL hA hW hret ls hl
  subst hL
  have hl : lv_has ls 2 [(0, .ref tr), (1, .int (nI c))] := hl
  have hsl := seen_lt htSC htTV hnNF (show c < 4 by omega) (-1)
  refine x_aload_n hx dX6_restore_0 hl 0 rfl ?_
  refine x_get6 hx hW.1 0 rfl 0 (Nat.le_of_ble_eq_true rfl) wf_RX6_12 rfl dX6_restore_1 ?_
  refine x_iload_n hx dX6_restore_4 hl 1 rfl ?_
  refine x_callRV (As := [.int (nI c)]) (rest := []) hx yv_X0_hasCube (c_X0_hasCube _ D tb thd tlo te thn tcu tsc tfg ttv tpr (c : Int) (by first | assumption | omega | (simp [*]; done)) (by first | assumption | omega | (simp [*]; done))) wm_RX6_47 hW.1 [2] rfl 2 rfl rfl ⟨rfl, rfl⟩ ⟨Nat.le_of_ble_eq_true rfl, Nat.le_of_ble_eq_true rfl⟩ ⟨Nat.zero_le _, Nat.zero_le _⟩ hl rfl rfl (Nat.le_of_ble_eq_true rfl) dX6_restore_5 ?_
  refine x_if_eq_B (tgt := 29) hx dX6_restore_8 (by decide) (fun h_1 => ?_) (fun h_1 => ?_)
  · have h9 := of_decide_eq_false h_1
    omega
  · have hd_2 := of_decide_eq_true h_1
    refine x_aload_n hx dX6_restore_11 hl 0 rfl ?_
    refine x_iload_n hx dX6_restore_12 hl 1 rfl ?_
    refine x_aload_n hx dX6_restore_13 hl 0 rfl ?_
    refine x_get6 hx hW.1 0 rfl 1 (Nat.le_of_ble_eq_true rfl) wf_RX6_21 rfl dX6_restore_14 ?_
    refine x_aload_n hx dX6_restore_17 hl 0 rfl ?_
    refine x_get6 hx hW.1 0 rfl 0 (Nat.le_of_ble_eq_true rfl) wf_RX6_12 rfl dX6_restore_18 ?_
    refine x_iload_n hx dX6_restore_21 hl 1 rfl ?_
    refine x_iconst (v := iI (-1)) hx dX6_restore_22 (by decide) ?_
    refine x_callRV (As := [.ref tb, .int (nI c), .int (iI (-1))]) (rest := [.int (nI c), .ref tr]) hx yv_X4_figuresSeen (c_X4_figuresSeen _ D nw nnf nlost ncost ndr nNF tb thd tlo te thn tcu tsc tfg ttv tpr tSC tTV c (-1) (by first | assumption | omega | (simp [*]; done)) (by first | assumption | omega | (simp [*]; done)) (by first | assumption | omega | (simp [*]; done)) (by first | assumption | omega | (simp [*]; done)) (by first | assumption | omega | (simp [*]; done))) wm_RX6_50 hW.1 [5, 6, 2, 3, 4] rfl 5 rfl rfl ⟨rfl, rfl⟩ ⟨Nat.le_of_ble_eq_true rfl, Nat.le_of_ble_eq_true rfl⟩ ⟨Nat.zero_le _, Nat.zero_le _⟩ hl rfl rfl (Nat.le_of_ble_eq_true rfl) dX6_restore_23 ?_
    refine x_callVV (As := [.int (nI c), .int (nI (seen tSC tTV nNF c (-1)))]) (rest := []) (wr := [(tb, .inr (0, [.int (nI thd.toNat), .int (nI tlo), .int (iI ((te : Int) - 1)), .int (nI thn.toNat), .int (nI tcu), .ref tsc, .ref tfg, .ref ttv, .ref tpr])), (tsc, .inl (D.2.1, 4, .inl (nA tSC))), (ttv, .inl (D.2.1, 10, .inl (nA tTV))), (nnf, .inl (D.2.1, 24, .inl (nA nNF)))]) hx yv_X6_see (c_X6_see _ D tr nw cf sh tb nnf nlost ncost ndr c (seen tSC tTV nNF c (-1)) (by first | assumption | omega | (simp [*]; done)) (by first | assumption | omega | (simp [*]; done)) (by first | assumption | omega | (simp [*]; done))) wm_RX6_54 hA hW [0, 1, 5] [2, 3, 4, 6] rfl rfl rfl rfl rfl 0 rfl rfl ⟨rfl, rfl⟩ ⟨Nat.le_of_ble_eq_true rfl, Nat.le_of_ble_eq_true rfl⟩ ⟨Nat.zero_le _, Nat.zero_le _⟩ hl rfl rfl (Nat.le_of_ble_eq_true rfl) dX6_restore_26 [(tb, .inr (0, [.int (nI thd.toNat), .int (nI tlo), .int (iI ((te : Int) - 1)), .int (nI thn.toNat), .int (nI tcu), .ref tsc, .ref tfg, .ref ttv, .ref tpr])), (tsc, .inl (D.2.1, 4, .inl (nA tSC))), (ttv, .inl (D.2.1, 10, .inl (nA tTV))), (nnf, .inl (D.2.1, 24, .inl (nA nNF))), (tr, .inr (6, [.ref tb, .ref nw, .ref cf])), (cf, .inl (D.2.1, 10, .inl (nA (cfOf (va_up sh c (lz nlost c (seen tSC tTV nNF c (-1)))))))), (nw, .inr (4, [.ref nnf, .int (nI nlost), .int (nI ncost), .int (nI ndr)]))] rfl (fun H locs hW => ?_)
    exact hret _ _ _ _ dX6_restore_29 (hW.conv [4, 5, 0, 1, 2, 6, 3] (w1 := [(tr, .inr (6, [.ref tb, .ref nw, .ref cf])), (cf, .inl (D.2.1, 10, .inl (nA (cfOf (va_up sh c (lz nlost c (seen tSC tTV nNF c (-1)))))))), (tb, .inr (0, [.int (nI thd.toNat), .int (nI tlo), .int (iI ((te : Int) - 1)), .int (nI thn.toNat), .int (nI tcu), .ref tsc, .ref tfg, .ref ttv, .ref tpr])), (tsc, .inl (D.2.1, 4, .inl (nA tSC))), (ttv, .inl (D.2.1, 10, .inl (nA tTV))), (nw, .inr (4, [.ref nnf, .int (nI nlost), .int (nI ncost), .int (nI ndr)])), (nnf, .inl (D.2.1, 24, .inl (nA nNF)))]) (w2 := [(tr, .inr (6, [.ref tb, .ref nw, .ref cf])), (cf, .inl (D.2.1, 10, .inl (nA (cfOf (va_up sh c (lz nlost c (seen tSC tTV nNF c (-1)))))))), (tb, .inr (0, [.int (nI thd.toNat), .int (nI tlo), .int (iI ((te : Int) - 1)), .int (nI thn.toNat), .int (nI tcu), .ref tsc, .ref tfg, .ref ttv, .ref tpr])), (tsc, .inl (D.2.1, 4, .inl (nA tSC))), (ttv, .inl (D.2.1, 10, .inl (nA tTV))), (nw, .inr (4, [.ref nnf, .int (nI nlost), .int (nI ncost), .int (nI ndr)])), (nnf, .inl (D.2.1, 24, .inl (nA nNF)))]) rfl rfl rfl)
set_option maxHeartbeats 4000000 in
set_option maxRecDepth 100000 in
theorem c_X6_repaint (l : Launch) (D : KD) (tr : Nat) (nw : Nat) (cf : Nat) (sh : Nat → Nat) (tb : Nat) (thd : Bool) (tlo : Nat) (te : Nat) (thn : Bool) (tcu : Nat) (tsc : Nat) (tfg : Nat) (ttv : Nat) (tpr : Nat) (tSC : Nat → Nat) (tTV : Nat → Nat) (nnf : Nat) (nlost : Nat) (ncost : Nat) (ndr : Nat) (nNF : Nat → Nat) (c : Nat) (f : Nat) (g : Nat) (hnNF : ∀ k, k < 24 → nNF k < 10) (htSC : ∀ k, k < 4 → tSC k < 7) (htTV : ∀ k, k < 10 → tTV k < 10) (hlo : nlost < 16) (hcu : tcu ≤ 4) (hc : c < tcu) (hf : f < 1000) (hg : g < 10) : cV l yX6_repaint cX6_repaint 4 rm_X6_repaint D [(tr, .inr (6, [.ref tb, .ref nw, .ref cf])), (cf, .inl (D.2.1, 10, .inl (nA (cfOf sh)))), (tb, .inr (0, [.int (nI thd.toNat), .int (nI tlo), .int (iI ((te : Int) - 1)), .int (nI thn.toNat), .int (nI tcu), .ref tsc, .ref tfg, .ref ttv, .ref tpr])), (tsc, .inl (D.2.1, 4, .inl (nA tSC))), (ttv, .inl (D.2.1, 10, .inl (nA tTV))), (nw, .inr (4, [.ref nnf, .int (nI nlost), .int (nI ncost), .int (nI ndr)])), (nnf, .inl (D.2.1, 24, .inl (nA nNF)))] [.ref tr, .int (nI c), .int (nI f), .int (nI g)] [(tr, .inr (6, [.ref tb, .ref nw, .ref cf])), (cf, .inl (D.2.1, 10, .inl (nA (cfOf (va_up sh c (lz nlost c (seen tSC tTV nNF c (f : Int) ||| both tTV g))))))), (tb, .inr (0, [.int (nI thd.toNat), .int (nI tlo), .int (iI ((te : Int) - 1)), .int (nI thn.toNat), .int (nI tcu), .ref tsc, .ref tfg, .ref ttv, .ref tpr])), (tsc, .inl (D.2.1, 4, .inl (nA tSC))), (ttv, .inl (D.2.1, 10, .inl (nA tTV))), (nw, .inr (4, [.ref nnf, .int (nI nlost), .int (nI ncost), .int (nI ndr)])), (nnf, .inl (D.2.1, 24, .inl (nA nNF)))] := by
  refine cV.mk (by decide) (Nat.le_of_ble_eq_true rfl) ?_
  intro X A hx hL hA hW hret ls hl
  subst hL
  have hl : lv_has ls 4 [(0, .ref tr), (1, .int (nI c)), (2, .int (nI f)), (3, .int (nI g))] := hl
  have hsl := seen_lt htSC htTV hnNF (show c < 4 by omega) (f : Int)
  have hbo := both_lt hg (htTV g hg)
  have hor : seen tSC tTV nNF c (f : Int) ||| both tTV g < 1024 := Nat.or_lt_two_pow (n := 10) hsl hbo
  refine x_aload_n hx dX6_repaint_0 hl 0 rfl ?_
  refine x_iload_n hx dX6_repaint_1 hl 1 rfl ?_
  refine x_aload_n hx dX6_repaint_2 hl 0 rfl ?_
  refine x_get6 hx hW.1 0 rfl 1 (Nat.le_of_ble_eq_true rfl) wf_RX6_21 rfl dX6_repaint_3 ?_
  refine x_aload_n hx dX6_repaint_6 hl 0 rfl ?_
  refine x_get6 hx hW.1 0 rfl 0 (Nat.le_of_ble_eq_true rfl) wf_RX6_12 rfl dX6_repaint_7 ?_
  refine x_iload_n hx dX6_repaint_10 hl 1 rfl ?_
  refine x_iload_n hx dX6_repaint_11 hl 2 rfl ?_
  refine x_callRV (As := [.ref tb, .int (nI c), .int (nI f)]) (rest := [.int (nI c), .ref tr]) hx yv_X4_figuresSeen (c_X4_figuresSeen _ D nw nnf nlost ncost ndr nNF tb thd tlo te thn tcu tsc tfg ttv tpr tSC tTV c (f : Int) (by first | assumption | omega | (simp [*]; done)) (by first | assumption | omega | (simp [*]; done)) (by first | assumption | omega | (simp [*]; done)) (by first | assumption | omega | (simp [*]; done)) (by first | assumption | omega | (simp [*]; done))) wm_RX6_50 hW.1 [5, 6, 2, 3, 4] rfl 5 rfl rfl ⟨rfl, rfl⟩ ⟨Nat.le_of_ble_eq_true rfl, Nat.le_of_ble_eq_true rfl⟩ ⟨Nat.zero_le _, Nat.zero_le _⟩ hl rfl rfl (Nat.le_of_ble_eq_true rfl) dX6_repaint_12 ?_
  refine x_aload_n hx dX6_repaint_15 hl 0 rfl ?_
  refine x_get6 hx hW.1 0 rfl 0 (Nat.le_of_ble_eq_true rfl) wf_RX6_12 rfl dX6_repaint_16 ?_
  refine x_iload_n hx dX6_repaint_19 hl 3 rfl ?_
  refine x_callRV (As := [.int (nI g)]) (rest := [.int (nI (seen tSC tTV nNF c (f : Int))), .int (nI c), .ref tr]) hx yv_X0_bothWays (c_X0_bothWays _ D tb thd tlo te thn tcu tsc tfg ttv tpr tTV g (by first | assumption | omega | (simp [*]; done)) (by first | assumption | omega | (simp [*]; done))) wm_RX6_58 hW.1 [2, 4] rfl 2 rfl rfl ⟨rfl, rfl⟩ ⟨Nat.le_of_ble_eq_true rfl, Nat.le_of_ble_eq_true rfl⟩ ⟨Nat.zero_le _, Nat.zero_le _⟩ hl rfl rfl (Nat.le_of_ble_eq_true rfl) dX6_repaint_20 ?_
  refine x_ior (v := nI ((seen tSC tTV nNF c (f : Int)) ||| (both tTV g))) hx dX6_repaint_23 (nI_or _ _) ?_
  refine x_callVV (As := [.int (nI c), .int (nI ((seen tSC tTV nNF c (f : Int)) ||| (both tTV g)))]) (rest := []) (wr := [(tb, .inr (0, [.int (nI thd.toNat), .int (nI tlo), .int (iI ((te : Int) - 1)), .int (nI thn.toNat), .int (nI tcu), .ref tsc, .ref tfg, .ref ttv, .ref tpr])), (tsc, .inl (D.2.1, 4, .inl (nA tSC))), (ttv, .inl (D.2.1, 10, .inl (nA tTV))), (nnf, .inl (D.2.1, 24, .inl (nA nNF)))]) hx yv_X6_see (c_X6_see _ D tr nw cf sh tb nnf nlost ncost ndr c ((seen tSC tTV nNF c (f : Int)) ||| (both tTV g)) (by first | assumption | omega | (simp [*]; done)) (by first | assumption | omega | (simp [*]; done)) (by first | assumption | omega | (simp [*]; done))) wm_RX6_54 hA hW [0, 1, 5] [2, 3, 4, 6] rfl rfl rfl rfl rfl 0 rfl rfl ⟨rfl, rfl⟩ ⟨Nat.le_of_ble_eq_true rfl, Nat.le_of_ble_eq_true rfl⟩ ⟨Nat.zero_le _, Nat.zero_le _⟩ hl rfl rfl (Nat.le_of_ble_eq_true rfl) dX6_repaint_24 [(tb, .inr (0, [.int (nI thd.toNat), .int (nI tlo), .int (iI ((te : Int) - 1)), .int (nI thn.toNat), .int (nI tcu), .ref tsc, .ref tfg, .ref ttv, .ref tpr])), (tsc, .inl (D.2.1, 4, .inl (nA tSC))), (ttv, .inl (D.2.1, 10, .inl (nA tTV))), (nnf, .inl (D.2.1, 24, .inl (nA nNF))), (tr, .inr (6, [.ref tb, .ref nw, .ref cf])), (cf, .inl (D.2.1, 10, .inl (nA (cfOf (va_up sh c (lz nlost c ((seen tSC tTV nNF c (f : Int)) ||| (both tTV g)))))))), (nw, .inr (4, [.ref nnf, .int (nI nlost), .int (nI ncost), .int (nI ndr)]))] rfl (fun H locs hW => ?_)
  have e_1 : ∀ k, k < 10 → (cfOf (va_up sh c (lz nlost c ((seen tSC tTV nNF c (f : Int)) ||| (both tTV g))))) k = (cfOf (va_up sh c (lz nlost c (seen tSC tTV nNF c (f : Int) ||| both tTV g)))) k := by
    intro k hk
    first | rfl | (simp [*]; done)
  have hW : Wd X D A [(tb, .inr (0, [.int (nI thd.toNat), .int (nI tlo), .int (iI ((te : Int) - 1)), .int (nI thn.toNat), .int (nI tcu), .ref tsc, .ref tfg, .ref ttv, .ref tpr])), (tsc, .inl (D.2.1, 4, .inl (nA tSC))), (ttv, .inl (D.2.1, 10, .inl (nA tTV))), (nnf, .inl (D.2.1, 24, .inl (nA nNF))), (tr, .inr (6, [.ref tb, .ref nw, .ref cf])), (cf, .inl (D.2.1, 10, .inl (nA (cfOf (va_up sh c (lz nlost c (seen tSC tTV nNF c (f : Int) ||| both tTV g))))))), (nw, .inr (4, [.ref nnf, .int (nI nlost), .int (nI ncost), .int (nI ndr)]))] _ _ := hW.row 5 rfl (fun j hj => congrArg (nI) (e_1 j hj)) rfl
  exact hret _ _ _ _ dX6_repaint_27 (hW.conv [4, 5, 0, 1, 2, 6, 3] (w1 := [(tr, .inr (6, [.ref tb, .ref nw, .ref cf])), (cf, .inl (D.2.1, 10, .inl (nA (cfOf (va_up sh c (lz nlost c (seen tSC tTV nNF c (f : Int) ||| both tTV g))))))), (tb, .inr (0, [.int (nI thd.toNat), .int (nI tlo), .int (iI ((te : Int) - 1)), .int (nI thn.toNat), .int (nI tcu), .ref tsc, .ref tfg, .ref ttv, .ref tpr])), (tsc, .inl (D.2.1, 4, .inl (nA tSC))), (ttv, .inl (D.2.1, 10, .inl (nA tTV))), (nw, .inr (4, [.ref nnf, .int (nI nlost), .int (nI ncost), .int (nI ndr)])), (nnf, .inl (D.2.1, 24, .inl (nA nNF)))]) (w2 := [(tr, .inr (6, [.ref tb, .ref nw, .ref cf])), (cf, .inl (D.2.1, 10, .inl (nA (cfOf (va_up sh c (lz nlost c (seen tSC tTV nNF c (f : Int) ||| both tTV g))))))), (tb, .inr (0, [.int (nI thd.toNat), .int (nI tlo), .int (iI ((te : Int) - 1)), .int (nI thn.toNat), .int (nI tcu), .ref tsc, .ref tfg, .ref ttv, .ref tpr])), (tsc, .inl (D.2.1, 4, .inl (nA tSC))), (ttv, .inl (D.2.1, 10, .inl (nA tTV))), (nw, .inr (4, [.ref nnf, .int (nI nlost), .int (nI ncost), .int (nI ndr)])), (nnf, .inl (D.2.1, 24, .inl (nA nNF)))]) rfl rfl rfl)
set_option maxHeartbeats 4000000 in
set_option maxRecDepth 100000 in
theorem c_X6_countShownWithout (l : Launch) (D : KD) (tr : Nat) (nw : Nat) (cf : Nat) (sh : Nat → Nat) (tb : Nat) (thd : Bool) (tlo : Nat) (te : Nat) (thn : Bool) (tcu : Nat) (tsc : Nat) (tfg : Nat) (ttv : Nat) (tpr : Nat) (tSC : Nat → Nat) (tTV : Nat → Nat) (nnf : Nat) (nlost : Nat) (ncost : Nat) (ndr : Nat) (nNF : Nat → Nat) (c : Nat) (f : Nat) (hnNF : ∀ k, k < 24 → nNF k < 10) (htSC : ∀ k, k < 4 → tSC k < 7) (htTV : ∀ k, k < 10 → tTV k < 10) (hlo : nlost < 16) (hcu : tcu ≤ 4) (hc : c < tcu) (hf : f < 1000) (hle : tlo ≤ te) (he : te ≤ 100) : cM l yX6_countShownWithout cX6_countShownWithout 4 (some .int) rm_X6_countShownWithout D [(tr, .inr (6, [.ref tb, .ref nw, .ref cf])), (cf, .inl (D.2.1, 10, .inl (nA (cfOf sh)))), (tb, .inr (0, [.int (nI thd.toNat), .int (nI tlo), .int (iI ((te : Int) - 1)), .int (nI thn.toNat), .int (nI tcu), .ref tsc, .ref tfg, .ref ttv, .ref tpr])), (tsc, .inl (D.2.1, 4, .inl (nA tSC))), (ttv, .inl (D.2.1, 10, .inl (nA tTV))), (nw, .inr (4, [.ref nnf, .int (nI nlost), .int (nI ncost), .int (nI ndr)])), (nnf, .inl (D.2.1, 24, .inl (nA nNF)))] [.ref tr, .int (nI c), .int (nI f)] (nI (cntTo (canS thn te (va_up sh c (lz nlost c (seen tSC tTV nNF c (f : Int))))) tlo te)) [(tr, .inr (6, [.ref tb, .ref nw, .ref cf])), (cf, .inl (D.2.1, 10, .inl (nA (cfOf (va_up (va_up sh c (lz nlost c (seen tSC tTV nNF c (f : Int)))) c (lz nlost c (seen tSC tTV nNF c (-1)))))))), (tb, .inr (0, [.int (nI thd.toNat), .int (nI tlo), .int (iI ((te : Int) - 1)), .int (nI thn.toNat), .int (nI tcu), .ref tsc, .ref tfg, .ref ttv, .ref tpr])), (tsc, .inl (D.2.1, 4, .inl (nA tSC))), (ttv, .inl (D.2.1, 10, .inl (nA tTV))), (nw, .inr (4, [.ref nnf, .int (nI nlost), .int (nI ncost), .int (nI ndr)])), (nnf, .inl (D.2.1, 24, .inl (nA nNF)))] := by
  refine cM.mk (by decide) (retI _) (Nat.le_of_ble_eq_true rfl) ?_
  intro X A hx hL hA hW hret ls hl
  subst hL
  have hl : lv_has ls 4 [(0, .ref tr), (1, .int (nI c)), (2, .int (nI f))] := hl
  have hsl := seen_lt htSC htTV hnNF (show c < 4 by omega) (f : Int)
  refine x_aload_n hx dX6_countShownWithout_0 hl 0 rfl ?_
  refine x_iload_n hx dX6_countShownWithout_1 hl 1 rfl ?_
  refine x_aload_n hx dX6_countShownWithout_2 hl 0 rfl ?_
  refine x_get6 hx hW.1 0 rfl 1 (Nat.le_of_ble_eq_true rfl) wf_RX6_21 rfl dX6_countShownWithout_3 ?_
  refine x_aload_n hx dX6_countShownWithout_6 hl 0 rfl ?_
  refine x_get6 hx hW.1 0 rfl 0 (Nat.le_of_ble_eq_true rfl) wf_RX6_12 rfl dX6_countShownWithout_7 ?_
  refine x_iload_n hx dX6_countShownWithout_10 hl 1 rfl ?_
  refine x_iload_n hx dX6_countShownWithout_11 hl 2 rfl ?_
  refine x_callRV (As := [.ref tb, .int (nI c), .int (nI f)]) (rest := [.int (nI c), .ref tr]) hx yv_X4_figuresSeen (c_X4_figuresSeen _ D nw nnf nlost ncost ndr nNF tb thd tlo te thn tcu tsc tfg ttv tpr tSC tTV c (f : Int) (by first | assumption | omega | (simp [*]; done)) (by first | assumption | omega | (simp [*]; done)) (by first | assumption | omega | (simp [*]; done)) (by first | assumption | omega | (simp [*]; done)) (by first | assumption | omega | (simp [*]; done))) wm_RX6_50 hW.1 [5, 6, 2, 3, 4] rfl 5 rfl rfl ⟨rfl, rfl⟩ ⟨Nat.le_of_ble_eq_true rfl, Nat.le_of_ble_eq_true rfl⟩ ⟨Nat.zero_le _, Nat.zero_le _⟩ hl rfl rfl (Nat.le_of_ble_eq_true rfl) dX6_countShownWithout_12 ?_
  refine x_callVV (As := [.int (nI c), .int (nI (seen tSC tTV nNF c (f : Int)))]) (rest := []) (wr := [(tb, .inr (0, [.int (nI thd.toNat), .int (nI tlo), .int (iI ((te : Int) - 1)), .int (nI thn.toNat), .int (nI tcu), .ref tsc, .ref tfg, .ref ttv, .ref tpr])), (tsc, .inl (D.2.1, 4, .inl (nA tSC))), (ttv, .inl (D.2.1, 10, .inl (nA tTV))), (nnf, .inl (D.2.1, 24, .inl (nA nNF)))]) hx yv_X6_see (c_X6_see _ D tr nw cf sh tb nnf nlost ncost ndr c (seen tSC tTV nNF c (f : Int)) (by first | assumption | omega | (simp [*]; done)) (by first | assumption | omega | (simp [*]; done)) (by first | assumption | omega | (simp [*]; done))) wm_RX6_54 hA hW [0, 1, 5] [2, 3, 4, 6] rfl rfl rfl rfl rfl 0 rfl rfl ⟨rfl, rfl⟩ ⟨Nat.le_of_ble_eq_true rfl, Nat.le_of_ble_eq_true rfl⟩ ⟨Nat.zero_le _, Nat.zero_le _⟩ hl rfl rfl (Nat.le_of_ble_eq_true rfl) dX6_countShownWithout_15 [(tb, .inr (0, [.int (nI thd.toNat), .int (nI tlo), .int (iI ((te : Int) - 1)), .int (nI thn.toNat), .int (nI tcu), .ref tsc, .ref tfg, .ref ttv, .ref tpr])), (tsc, .inl (D.2.1, 4, .inl (nA tSC))), (ttv, .inl (D.2.1, 10, .inl (nA tTV))), (nnf, .inl (D.2.1, 24, .inl (nA nNF))), (tr, .inr (6, [.ref tb, .ref nw, .ref cf])), (cf, .inl (D.2.1, 10, .inl (nA (cfOf (va_up sh c (lz nlost c (seen tSC tTV nNF c (f : Int)))))))), (nw, .inr (4, [.ref nnf, .int (nI nlost), .int (nI ncost), .int (nI ndr)]))] rfl (fun H locs hW => ?_)
  refine x_aload_n hx dX6_countShownWithout_18 hl 0 rfl ?_
  refine x_callRV (As := []) (rest := []) hx yv_X6_countShown (c_X6_countShown _ D tr nw cf (va_up sh c (lz nlost c (seen tSC tTV nNF c (f : Int)))) tb thd tlo te thn tcu tsc tfg ttv tpr (by first | assumption | omega | (simp [*]; done)) (by first | assumption | omega | (simp [*]; done))) wm_RX6_77 hW.1 [4, 5, 0] rfl 4 rfl rfl ⟨rfl, rfl⟩ ⟨Nat.le_of_ble_eq_true rfl, Nat.le_of_ble_eq_true rfl⟩ ⟨Nat.zero_le _, Nat.zero_le _⟩ hl rfl rfl (Nat.le_of_ble_eq_true rfl) dX6_countShownWithout_19 ?_
  refine x_istore_n (lv' := [(3, .int (nI (cntTo (canS thn te (va_up sh c (lz nlost c (seen tSC tTV nNF c (f : Int))))) tlo te))), (0, .ref tr), (1, .int (nI c)), (2, .int (nI f))]) hx dX6_countShownWithout_22 hl (Nat.le_of_ble_eq_true rfl) rfl (fun ls hl => ?_)
  refine x_aload_n hx dX6_countShownWithout_23 hl 1 rfl ?_
  refine x_iload_n hx dX6_countShownWithout_24 hl 2 rfl ?_
  refine x_callVV (As := [.int (nI c)]) (rest := []) (wr := []) hx yv_X6_restore (c_X6_restore _ D tr nw cf (va_up sh c (lz nlost c (seen tSC tTV nNF c (f : Int)))) tb thd tlo te thn tcu tsc tfg ttv tpr tSC tTV nnf nlost ncost ndr nNF c (by first | assumption | omega | (simp [*]; done)) (by first | assumption | omega | (simp [*]; done)) (by first | assumption | omega | (simp [*]; done)) (by first | assumption | omega | (simp [*]; done)) (by first | assumption | omega | (simp [*]; done)) (by first | assumption | omega | (simp [*]; done))) wm_RX6_39 hA hW [4, 5, 0, 1, 2, 6, 3] [] rfl rfl rfl rfl rfl 4 rfl rfl ⟨rfl, rfl⟩ ⟨Nat.le_of_ble_eq_true rfl, Nat.le_of_ble_eq_true rfl⟩ ⟨Nat.zero_le _, Nat.zero_le _⟩ hl rfl rfl (Nat.le_of_ble_eq_true rfl) dX6_countShownWithout_25 [(tr, .inr (6, [.ref tb, .ref nw, .ref cf])), (cf, .inl (D.2.1, 10, .inl (nA (cfOf (va_up (va_up sh c (lz nlost c (seen tSC tTV nNF c (f : Int)))) c (lz nlost c (seen tSC tTV nNF c (-1)))))))), (tb, .inr (0, [.int (nI thd.toNat), .int (nI tlo), .int (iI ((te : Int) - 1)), .int (nI thn.toNat), .int (nI tcu), .ref tsc, .ref tfg, .ref ttv, .ref tpr])), (tsc, .inl (D.2.1, 4, .inl (nA tSC))), (ttv, .inl (D.2.1, 10, .inl (nA tTV))), (nw, .inr (4, [.ref nnf, .int (nI nlost), .int (nI ncost), .int (nI ndr)])), (nnf, .inl (D.2.1, 24, .inl (nA nNF)))] rfl (fun H locs hW => ?_)
  refine x_iload_n hx dX6_countShownWithout_28 hl 0 rfl ?_
  exact hret _ _ _ _ _ dX6_countShownWithout_29 (rfl) hW
set_option maxHeartbeats 4000000 in
set_option maxRecDepth 100000 in
theorem c_X6_begin (l : Launch) (D : KD) (tr : Nat) (nw : Nat) (cf : Nat) (CF : Nat → Nat) (tb : Nat) (thd : Bool) (tlo : Nat) (te : Nat) (thn : Bool) (tcu : Nat) (tsc : Nat) (tfg : Nat) (ttv : Nat) (tpr : Nat) (tSC : Nat → Nat) (tTV : Nat → Nat) (nnf : Nat) (nlost : Nat) (ncost : Nat) (ndr : Nat) (nNF : Nat → Nat) (hnNF : ∀ k, k < 24 → nNF k < 10) (htSC : ∀ k, k < 4 → tSC k < 7) (htTV : ∀ k, k < 10 → tTV k < 10) (hlo : nlost < 16) (hcu : tcu ≤ 4) : cV l yX6_begin cX6_begin 2 rm_X6_begin D [(tr, .inr (6, [.ref tb, .ref nw, .ref cf])), (cf, .inl (D.2.1, 10, .inl (nA CF))), (tb, .inr (0, [.int (nI thd.toNat), .int (nI tlo), .int (iI ((te : Int) - 1)), .int (nI thn.toNat), .int (nI tcu), .ref tsc, .ref tfg, .ref ttv, .ref tpr])), (tsc, .inl (D.2.1, 4, .inl (nA tSC))), (ttv, .inl (D.2.1, 10, .inl (nA tTV))), (nw, .inr (4, [.ref nnf, .int (nI nlost), .int (nI ncost), .int (nI ndr)])), (nnf, .inl (D.2.1, 24, .inl (nA nNF)))] [.ref tr] [(tr, .inr (6, [.ref tb, .ref nw, .ref cf])), (cf, .inl (D.2.1, 10, .inl (nA (cfOf (shN nlost tSC tTV nNF tcu))))), (tb, .inr (0, [.int (nI thd.toNat), .int (nI tlo), .int (iI ((te : Int) - 1)), .int (nI thn.toNat), .int (nI tcu), .ref tsc, .ref tfg, .ref ttv, .ref tpr])), (tsc, .inl (D.2.1, 4, .inl (nA tSC))), (ttv, .inl (D.2.1, 10, .inl (nA tTV))), (nw, .inr (4, [.ref nnf, .int (nI nlost), .int (nI ncost), .int (nI ndr)])), (nnf, .inl (D.2.1, 24, .inl (nA nNF)))] := by
  refine cV.mk (by decide) (Nat.le_of_ble_eq_true rfl) ?_
  intro X A hx hL hA hW hret ls hl
  subst hL
  have hl : lv_has ls 2 [(0, .ref tr)] := hl
  refine x_aload_n hx dX6_begin_0 hl 0 rfl ?_
  refine x_get6 hx hW.1 0 rfl 2 (Nat.le_of_ble_eq_true rfl) wf_RX6_25 rfl dX6_begin_1 ?_
  refine x_iconst (v := nI 0) hx dX6_begin_4 (by decide) ?_
  refine x_callVS (As := [.ref cf, .int (nI 0)]) (rest := []) (wr := [(tr, .inr (6, [.ref tb, .ref nw, .ref cf])), (tb, .inr (0, [.int (nI thd.toNat), .int (nI tlo), .int (iI ((te : Int) - 1)), .int (nI thn.toNat), .int (nI tcu), .ref tsc, .ref tfg, .ref ttv, .ref tpr])), (tsc, .inl (D.2.1, 4, .inl (nA tSC))), (ttv, .inl (D.2.1, 10, .inl (nA tTV))), (nw, .inr (4, [.ref nnf, .int (nI nlost), .int (nI ncost), .int (nI ndr)])), (nnf, .inl (D.2.1, 24, .inl (nA nNF)))]) hx yv_J7_fill_53178 (c_J7_fill_53178 _ D cf 10 CF 0 (by first | assumption | omega | (simp [*]; done))) wm_RX6_29 hA hW [1] [0, 2, 3, 4, 5, 6] rfl rfl rfl rfl rfl ⟨rfl, rfl⟩ ⟨Nat.le_of_ble_eq_true rfl, Nat.le_of_ble_eq_true rfl⟩ ⟨Nat.zero_le _, Nat.zero_le _⟩ hl rfl rfl (Nat.le_of_ble_eq_true rfl) dX6_begin_5 [(tr, .inr (6, [.ref tb, .ref nw, .ref cf])), (tb, .inr (0, [.int (nI thd.toNat), .int (nI tlo), .int (iI ((te : Int) - 1)), .int (nI thn.toNat), .int (nI tcu), .ref tsc, .ref tfg, .ref ttv, .ref tpr])), (tsc, .inl (D.2.1, 4, .inl (nA tSC))), (ttv, .inl (D.2.1, 10, .inl (nA tTV))), (nw, .inr (4, [.ref nnf, .int (nI nlost), .int (nI ncost), .int (nI ndr)])), (nnf, .inl (D.2.1, 24, .inl (nA nNF))), (cf, .inl (D.2.1, 10, .inl (nA (fun _ => 0))))] rfl (fun H locs hW => ?_)
  refine x_iconst (v := nI 0) hx dX6_begin_8 (by decide) ?_
  refine x_istore_n (lv' := [(1, .int (nI 0)), (0, .ref tr)]) hx dX6_begin_9 hl (Nat.le_of_ble_eq_true rfl) rfl (fun ls hl => ?_)
  have L10_1 : ∀ (L10_1n : Nat) (j : Nat), (j ≤ tcu) → tcu - j < L10_1n → ∀ (H : Heap) (locs : List Loc), Wd X D A [(tr, .inr (6, [.ref tb, .ref nw, .ref cf])), (tb, .inr (0, [.int (nI thd.toNat), .int (nI tlo), .int (iI ((te : Int) - 1)), .int (nI thn.toNat), .int (nI tcu), .ref tsc, .ref tfg, .ref ttv, .ref tpr])), (tsc, .inl (D.2.1, 4, .inl (nA tSC))), (ttv, .inl (D.2.1, 10, .inl (nA tTV))), (nw, .inr (4, [.ref nnf, .int (nI nlost), .int (nI ncost), .int (nI ndr)])), (nnf, .inl (D.2.1, 24, .inl (nA nNF))), (cf, .inl (D.2.1, 10, .inl (nA (cfOf (shN nlost tSC tTV nNF j)))))] H locs → ∀ ls : Array Slot, lv_has ls 2 [(0, .ref tr), (1, .int (nI j))] → Wx X 0 0 H locs 10 ls [] := by
    intro L10_1n
    induction L10_1n with
    | zero =>
      intro j h1 hm
      exact absurd hm (Nat.not_lt_zero _)
    | succ L10_1n ihL10_1 =>
      intro j h1 hm H locs hW ls hl
      refine x_iload_n hx dX6_begin_10 hl 1 rfl ?_
      refine x_aload_n hx dX6_begin_11 hl 0 rfl ?_
      refine x_get6 hx hW.1 0 rfl 0 (Nat.le_of_ble_eq_true rfl) wf_RX6_12 rfl dX6_begin_12 ?_
      refine x_get0 hx hW.1 1 rfl 4 (Nat.le_of_ble_eq_true rfl) wf_RX6_35 rfl dX6_begin_15 ?_
      refine x_icmp_ge_N (a := j) (b := tcu) (tgt := 32) hx dX6_begin_18 (by decide) (by omega) (by omega) (fun h_2 => ?_) (fun h_2 => ?_)
      · have e_3 : ∀ k, k < 10 → (cfOf (shN nlost tSC tTV nNF j)) k = (cfOf (shN nlost tSC tTV nNF tcu)) k := by
          intro k hk
          have e9 : j = tcu := by omega
          rw [e9]
        have hW : Wd X D A [(tr, .inr (6, [.ref tb, .ref nw, .ref cf])), (tb, .inr (0, [.int (nI thd.toNat), .int (nI tlo), .int (iI ((te : Int) - 1)), .int (nI thn.toNat), .int (nI tcu), .ref tsc, .ref tfg, .ref ttv, .ref tpr])), (tsc, .inl (D.2.1, 4, .inl (nA tSC))), (ttv, .inl (D.2.1, 10, .inl (nA tTV))), (nw, .inr (4, [.ref nnf, .int (nI nlost), .int (nI ncost), .int (nI ndr)])), (nnf, .inl (D.2.1, 24, .inl (nA nNF))), (cf, .inl (D.2.1, 10, .inl (nA (cfOf (shN nlost tSC tTV nNF tcu)))))] _ _ := hW.row 6 rfl (fun j hj => congrArg (nI) (e_3 j hj)) rfl
        exact hret _ _ _ _ dX6_begin_32 (hW.conv [0, 6, 1, 2, 3, 4, 5] (w1 := [(tr, .inr (6, [.ref tb, .ref nw, .ref cf])), (cf, .inl (D.2.1, 10, .inl (nA (cfOf (shN nlost tSC tTV nNF tcu))))), (tb, .inr (0, [.int (nI thd.toNat), .int (nI tlo), .int (iI ((te : Int) - 1)), .int (nI thn.toNat), .int (nI tcu), .ref tsc, .ref tfg, .ref ttv, .ref tpr])), (tsc, .inl (D.2.1, 4, .inl (nA tSC))), (ttv, .inl (D.2.1, 10, .inl (nA tTV))), (nw, .inr (4, [.ref nnf, .int (nI nlost), .int (nI ncost), .int (nI ndr)])), (nnf, .inl (D.2.1, 24, .inl (nA nNF)))]) (w2 := [(tr, .inr (6, [.ref tb, .ref nw, .ref cf])), (cf, .inl (D.2.1, 10, .inl (nA (cfOf (shN nlost tSC tTV nNF tcu))))), (tb, .inr (0, [.int (nI thd.toNat), .int (nI tlo), .int (iI ((te : Int) - 1)), .int (nI thn.toNat), .int (nI tcu), .ref tsc, .ref tfg, .ref ttv, .ref tpr])), (tsc, .inl (D.2.1, 4, .inl (nA tSC))), (ttv, .inl (D.2.1, 10, .inl (nA tTV))), (nw, .inr (4, [.ref nnf, .int (nI nlost), .int (nI ncost), .int (nI ndr)])), (nnf, .inl (D.2.1, 24, .inl (nA nNF)))]) rfl rfl rfl)
      · refine x_aload_n hx dX6_begin_21 hl 0 rfl ?_
        refine x_iload_n hx dX6_begin_22 hl 1 rfl ?_
        refine x_callVV (As := [.int (nI j)]) (rest := []) (wr := []) hx yv_X6_restore (c_X6_restore _ D tr nw cf (shN nlost tSC tTV nNF j) tb thd tlo te thn tcu tsc tfg ttv tpr tSC tTV nnf nlost ncost ndr nNF j (by first | assumption | omega | (simp [*]; done)) (by first | assumption | omega | (simp [*]; done)) (by first | assumption | omega | (simp [*]; done)) (by first | assumption | omega | (simp [*]; done)) (by first | assumption | omega | (simp [*]; done)) (by first | assumption | omega | (simp [*]; done))) wm_RX6_39 hA hW [0, 6, 1, 2, 3, 4, 5] [] rfl rfl rfl rfl rfl 0 rfl rfl ⟨rfl, rfl⟩ ⟨Nat.le_of_ble_eq_true rfl, Nat.le_of_ble_eq_true rfl⟩ ⟨Nat.zero_le _, Nat.zero_le _⟩ hl rfl rfl (Nat.le_of_ble_eq_true rfl) dX6_begin_23 [(tr, .inr (6, [.ref tb, .ref nw, .ref cf])), (cf, .inl (D.2.1, 10, .inl (nA (cfOf (va_up (shN nlost tSC tTV nNF j) j (lz nlost j (seen tSC tTV nNF j (-1)))))))), (tb, .inr (0, [.int (nI thd.toNat), .int (nI tlo), .int (iI ((te : Int) - 1)), .int (nI thn.toNat), .int (nI tcu), .ref tsc, .ref tfg, .ref ttv, .ref tpr])), (tsc, .inl (D.2.1, 4, .inl (nA tSC))), (ttv, .inl (D.2.1, 10, .inl (nA tTV))), (nw, .inr (4, [.ref nnf, .int (nI nlost), .int (nI ncost), .int (nI ndr)])), (nnf, .inl (D.2.1, 24, .inl (nA nNF)))] rfl (fun H locs hW => ?_)
        refine x_iinc (v := nI (j + 1)) (lv' := [(1, .int (nI (j + 1))), (0, .ref tr)]) hx dX6_begin_26 hl 1 rfl (nI_addc j 1) (Nat.le_of_ble_eq_true rfl) rfl (fun ls hl => ?_)
        refine x_goto (tgt := 10) hx dX6_begin_29 (by decide) ?_
        have e_4 : (j + 1 : Nat) = (j + 1) := by
          first | rfl | omega | (simp [*]; done) | (simp [*]; omega)
        have e_5 : ∀ k, k < 10 → (cfOf (va_up (shN nlost tSC tTV nNF j) j (lz nlost j (seen tSC tTV nNF j (-1))))) k = (cfOf (shN nlost tSC tTV nNF (j + 1))) k := by
          intro k hk
          first | (exact cfOf_cong (fun c _ => shN_s rfl c) k) | (simp [shN, cfOf]; done)
        have hW : Wd X D A [(tr, .inr (6, [.ref tb, .ref nw, .ref cf])), (cf, .inl (D.2.1, 10, .inl (nA (cfOf (shN nlost tSC tTV nNF (j + 1)))))), (tb, .inr (0, [.int (nI thd.toNat), .int (nI tlo), .int (iI ((te : Int) - 1)), .int (nI thn.toNat), .int (nI tcu), .ref tsc, .ref tfg, .ref ttv, .ref tpr])), (tsc, .inl (D.2.1, 4, .inl (nA tSC))), (ttv, .inl (D.2.1, 10, .inl (nA tTV))), (nw, .inr (4, [.ref nnf, .int (nI nlost), .int (nI ncost), .int (nI ndr)])), (nnf, .inl (D.2.1, 24, .inl (nA nNF)))] _ _ := hW.row 1 rfl (fun j hj => congrArg (nI) (e_5 j hj)) rfl
        exact ihL10_1 (j + 1) (by first | assumption | omega | (simp [*]; done)) (by omega) _ _ (hW.conv [0, 2, 3, 4, 5, 6, 1] (w1 := [(tr, .inr (6, [.ref tb, .ref nw, .ref cf])), (tb, .inr (0, [.int (nI thd.toNat), .int (nI tlo), .int (iI ((te : Int) - 1)), .int (nI thn.toNat), .int (nI tcu), .ref tsc, .ref tfg, .ref ttv, .ref tpr])), (tsc, .inl (D.2.1, 4, .inl (nA tSC))), (ttv, .inl (D.2.1, 10, .inl (nA tTV))), (nw, .inr (4, [.ref nnf, .int (nI nlost), .int (nI ncost), .int (nI ndr)])), (nnf, .inl (D.2.1, 24, .inl (nA nNF))), (cf, .inl (D.2.1, 10, .inl (nA (cfOf (shN nlost tSC tTV nNF (j + 1))))))]) (w2 := [(tr, .inr (6, [.ref tb, .ref nw, .ref cf])), (tb, .inr (0, [.int (nI thd.toNat), .int (nI tlo), .int (iI ((te : Int) - 1)), .int (nI thn.toNat), .int (nI tcu), .ref tsc, .ref tfg, .ref ttv, .ref tpr])), (tsc, .inl (D.2.1, 4, .inl (nA tSC))), (ttv, .inl (D.2.1, 10, .inl (nA tTV))), (nw, .inr (4, [.ref nnf, .int (nI nlost), .int (nI ncost), .int (nI ndr)])), (nnf, .inl (D.2.1, 24, .inl (nA nNF))), (cf, .inl (D.2.1, 10, .inl (nA (cfOf (shN nlost tSC tTV nNF (j + 1))))))]) rfl rfl rfl) _ (lv_to (l := [(0, .ref tr), (1, .int (nI (j + 1)))]) (l2 := [(0, .ref tr), (1, .int (nI (j + 1)))]) (lv_sub hl [1, 0] rfl) (cE rfl (cE (congrArg (fun z => ((1, Value.int z) : Nat × Value)) (congrArg (fun z : Nat => nI z) e_4)) rfl)))
  have e_6 : ∀ k, k < 10 → (fun _ => 0) k = (cfOf (shN nlost tSC tTV nNF 0)) k := by
    intro k hk
    first | (exact cfOf_cong (fun c _ => shN_s rfl c) k) | (simp [shN, cfOf]; done)
  have hW : Wd X D A [(tr, .inr (6, [.ref tb, .ref nw, .ref cf])), (tb, .inr (0, [.int (nI thd.toNat), .int (nI tlo), .int (iI ((te : Int) - 1)), .int (nI thn.toNat), .int (nI tcu), .ref tsc, .ref tfg, .ref ttv, .ref tpr])), (tsc, .inl (D.2.1, 4, .inl (nA tSC))), (ttv, .inl (D.2.1, 10, .inl (nA tTV))), (nw, .inr (4, [.ref nnf, .int (nI nlost), .int (nI ncost), .int (nI ndr)])), (nnf, .inl (D.2.1, 24, .inl (nA nNF))), (cf, .inl (D.2.1, 10, .inl (nA (cfOf (shN nlost tSC tTV nNF 0)))))] _ _ := hW.row 6 rfl (fun j hj => congrArg (nI) (e_6 j hj)) rfl
  exact L10_1 (tcu - 0 + 1) 0 (by first | assumption | omega | (simp [*]; done)) (Nat.lt_succ_self _) _ _ hW _ (lv_sub hl [1, 0] rfl)
