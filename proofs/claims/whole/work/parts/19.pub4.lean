def chS (fs : Nat → Int) (PR : Nat → Nat) : Nat → Int × Int
  | 0 => (-1, -1)
  | g + 1 => if ((chS fs PR g).1 = -1 ∨ PR g < PR (chS fs PR g).1.toNat) ∧ ¬ fs g = -1 then ((g : Int), fs g) else chS fs PR g
theorem chS_y {fs : Nat → Int} {PR : Nat → Nat} {g : Nat} {fo wh v : Int} (e : (fo, wh) = chS fs PR g) (ev : v = fs g) (h1 : fo = -1 ∨ PR g < PR fo.toNat) (h2 : ¬ v = -1) : ((g : Int), v) = chS fs PR (g + 1) := by
  subst ev
  rw [chS, ← e, if_pos ⟨h1, h2⟩]
theorem chS_n {fs : Nat → Int} {PR : Nat → Nat} {g : Nat} {fo wh : Int} (e : (fo, wh) = chS fs PR g) (h1 : ¬ (fo = -1 ∨ PR g < PR fo.toNat)) : (fo, wh) = chS fs PR (g + 1) := by
  rw [chS, ← e, if_neg (fun h => h1 h.1)]
theorem chS_m {fs : Nat → Int} {PR : Nat → Nat} {g : Nat} {fo wh v : Int} (e : (fo, wh) = chS fs PR g) (ev : v = fs g) (h2 : v = -1) : (fo, wh) = chS fs PR (g + 1) := by
  subst ev
  rw [chS, ← e, if_neg (fun h => h.2 h2)]
def cheapF (fs : Nat → Int) (PR : Nat → Nat) (gap w : Int) : Int := if gap = -1 then -1 else if w = 0 then (chS fs PR 10).1 else (chS fs PR 10).2
set_option maxHeartbeats 4000000 in
set_option maxRecDepth 100000 in
theorem c_X7_cheapest_no (l : Launch) (D : KD) (x : Nat) (tx : Nat) (tr : Nat) (tb : Nat) (nw : Nat) (sp : Nat) (pa : Nat) (im : Nat) (ik : Nat) (no : Nat) (pr : Nat) (sg : Nat) (xfa : Int) (w : Int) (hw : -2147483648 ≤ w ∧ w < 2147483648) (hno : ¬ (0 ≤ w ∧ w ≤ 1)) : cR l yX7_cheapest cX7_cheapest 7 (some .int) rm_X7_cheapest D [(x, .inr (7, [.ref tx, .ref tr, .ref tb, .ref nw, .ref sp, .ref pa, .ref im, .ref ik, .ref no, .ref pr, .ref sg, .int (iI xfa)]))] [.ref x, .int (iI w)] (iI (-1000000002)) := by
  refine cR.mk (by decide) (retI _) (Nat.le_of_ble_eq_true rfl) ?_
  intro X hx hL hP hret ls hl
  subst hL
  have hl : lv_has ls 7 [(0, .ref x), (1, .int (iI w))] := hl
  refine x_iload_n hx dX7_cheapest_0 hl 1 rfl ?_
  refine x_if_lt_Z (a := w) (tgt := 9) hx dX7_cheapest_1 (by decide) (by omega) (fun h_1 => ?_) (fun h_1 => ?_)
  · refine x_ldc (u := iI (-1000000002)) hx wk_RX7_83 (by decide) dX7_cheapest_9 ?_
    exact hret _ _ _ dX7_cheapest_11 (rfl)
  · refine x_iload_n hx dX7_cheapest_4 hl 1 rfl ?_
    refine x_iconst (v := nI 1) hx dX7_cheapest_5 (by decide) ?_
    refine x_icmp_le_Z (a := w) (b := 1) (tgt := 12) hx dX7_cheapest_6 (by decide) (by omega) (by omega) (fun h_2 => ?_) (fun h_2 => ?_)
    · omega
    · refine x_ldc (u := iI (-1000000002)) hx wk_RX7_83 (by decide) dX7_cheapest_9 ?_
      exact hret _ _ _ dX7_cheapest_11 (rfl)
/-- what a suspect tells: the side is there, the figure another one, all that is told is so -/
def agr (hn : Bool) (e : Nat) (sh : Nat → Nat) (WD : Nat → Nat) (WS : Nat → Bool) : Nat → Bool
  | 0 => true
  | i + 1 => agr hn e sh WD WS i && decide (canS hn e sh (WD i) = WS i)
def susp (cu : Nat) (SC NF : Nat → Nat) (k : Nat) : Bool := decide (k / 60 < cu) && (decide (k / 10 % 6 < SC (k / 60)) && decide (¬ NF (k / 60 * 6 + k / 10 % 6) = k % 10))
def trS (lost cu : Nat) (SC TV NF : Nat → Nat) (sh : Nat → Nat) (k : Nat) : Nat → Nat := if susp cu SC NF k then va_up sh (k / 60) (lz lost (k / 60) (seen SC TV NF (k / 60) ((k / 10 % 6 : Nat) : Int) ||| both TV (k % 10))) else sh
def fitS (hn : Bool) (e lost cu : Nat) (SC TV NF : Nat → Nat) (sh WD : Nat → Nat) (WS : Nat → Bool) (wn k : Nat) : Bool := susp cu SC NF k && agr hn e (trS lost cu SC TV NF sh k) WD WS wn
theorem agr_no {hn : Bool} {e : Nat} {sh WD : Nat → Nat} {WS : Nat → Bool} {i : Nat} (h : ¬ canS hn e sh (WD i) = WS i) : ∀ n, i < n → agr hn e sh WD WS n = false
  | 0, hn => absurd hn (Nat.not_lt_zero _)
  | n + 1, hi => by
    simp only [agr]
    by_cases e1 : i = n
    · subst e1; simp [h]
    · rw [agr_no h n (by omega)]; rfl
set_option maxHeartbeats 4000000 in
set_option maxRecDepth 100000 in
theorem c_X7_fitsWhatIsTold (l : Launch) (D : KD) (x : Nat) (tx : Nat) (tr : Nat) (tb : Nat) (nw : Nat) (sp : Nat) (pa : Nat) (im : Nat) (ik : Nat) (no : Nat) (pr : Nat) (sg : Nat) (xfa : Int) (cf : Nat) (thd : Bool) (tlo : Nat) (te : Nat) (thn : Bool) (tcu : Nat) (tsc : Nat) (tfg : Nat) (ttv : Nat) (tpr : Nat) (tSC : Nat → Nat) (tTV : Nat → Nat) (nnf : Nat) (nlost : Nat) (ncost : Nat) (ndr : Nat) (nNF : Nat → Nat) (sh : Nat → Nat) (wn : Nat) (bn : Nat) (nwd : Nat) (nws : Nat) (nbk : Nat) (WD : Nat → Nat) (WS : Nat → Bool) (su : Nat) (htSC : ∀ k, k < 4 → tSC k < 7) (htTV : ∀ k, k < 10 → tTV k < 10) (hnNF : ∀ k, k < 24 → nNF k < 10) (hlo : nlost < 16) (hcu : tcu ≤ 4) (hle : tlo ≤ te) (he : te ≤ 100) (hwn : wn ≤ 6) (hWD : ∀ i, i < wn → WD i < 100) (hk : su < 240) : cM l yX7_fitsWhatIsTold cX7_fitsWhatIsTold 6 (some .boolean) rm_X7_fitsWhatIsTold D [(x, .inr (7, [.ref tx, .ref tr, .ref tb, .ref nw, .ref sp, .ref pa, .ref im, .ref ik, .ref no, .ref pr, .ref sg, .int (iI xfa)])), (tr, .inr (6, [.ref tb, .ref nw, .ref cf])), (cf, .inl (D.2.1, 10, .inl (nA (cfOf sh)))), (tb, .inr (0, [.int (nI thd.toNat), .int (nI tlo), .int (iI ((te : Int) - 1)), .int (nI thn.toNat), .int (nI tcu), .ref tsc, .ref tfg, .ref ttv, .ref tpr])), (tsc, .inl (D.2.1, 4, .inl (nA tSC))), (ttv, .inl (D.2.1, 10, .inl (nA tTV))), (nw, .inr (4, [.ref nnf, .int (nI nlost), .int (nI ncost), .int (nI ndr)])), (nnf, .inl (D.2.1, 24, .inl (nA nNF))), (no, .inr (1, [.int (nI wn), .int (nI bn), .ref nwd, .ref nws, .ref nbk])), (nwd, .inl (D.2.1, 6, .inl (nA WD))), (nws, .inl (D.2.2.1, 6, .inl (bA WS)))] [.ref x, .int (nI su)] (nI (fitS thn te nlost tcu tSC tTV nNF sh WD WS wn su).toNat) [(x, .inr (7, [.ref tx, .ref tr, .ref tb, .ref nw, .ref sp, .ref pa, .ref im, .ref ik, .ref no, .ref pr, .ref sg, .int (iI xfa)])), (tr, .inr (6, [.ref tb, .ref nw, .ref cf])), (cf, .inl (D.2.1, 10, .inl (nA (cfOf (trS nlost tcu tSC tTV nNF sh su))))), (tb, .inr (0, [.int (nI thd.toNat), .int (nI tlo), .int (iI ((te : Int) - 1)), .int (nI thn.toNat), .int (nI tcu), .ref tsc, .ref tfg, .ref ttv, .ref tpr])), (tsc, .inl (D.2.1, 4, .inl (nA tSC))), (ttv, .inl (D.2.1, 10, .inl (nA tTV))), (nw, .inr (4, [.ref nnf, .int (nI nlost), .int (nI ncost), .int (nI ndr)])), (nnf, .inl (D.2.1, 24, .inl (nA nNF))), (no, .inr (1, [.int (nI wn), .int (nI bn), .ref nwd, .ref nws, .ref nbk])), (nwd, .inl (D.2.1, 6, .inl (nA WD))), (nws, .inl (D.2.2.1, 6, .inl (bA WS)))] := by
  refine cM.mk (by decide) (retZ _) (Nat.le_of_ble_eq_true rfl) ?_
  intro X A hx hL hA hW hret ls hl
  subst hL
  have hl : lv_has ls 6 [(0, .ref x), (1, .int (nI su))] := hl
  have hk1 : su / 60 < 4 := by omega
  have hk2 : su / 10 % 6 < 6 := by omega
  have hk3 : su % 10 < 10 := by omega
  have hsc := htSC (su / 60) hk1
  refine x_iload_n hx dX7_fitsWhatIsTold_0 hl 1 rfl ?_
  refine x_callRS (As := [.int (nI su)]) (rest := []) hx yv_X7_cubeOf (c_X7_cubeOf _ D su (by first | assumption | omega | (simp [*]; done))) wm_RX7_253 hW.1 [] rfl ⟨rfl, rfl⟩ ⟨Nat.le_of_ble_eq_true rfl, Nat.le_of_ble_eq_true rfl⟩ ⟨Nat.zero_le _, Nat.zero_le _⟩ hl rfl rfl (Nat.le_of_ble_eq_true rfl) dX7_fitsWhatIsTold_1 ?_
  refine x_istore_n (lv' := [(2, .int (nI (su / 60))), (0, .ref x), (1, .int (nI su))]) hx dX7_fitsWhatIsTold_4 hl (Nat.le_of_ble_eq_true rfl) rfl (fun ls hl => ?_)
  refine x_iload_n hx dX7_fitsWhatIsTold_5 hl 2 rfl ?_
  refine x_callRS (As := [.int (nI su)]) (rest := []) hx yv_X7_sideOf (c_X7_sideOf _ D su (by first | assumption | omega | (simp [*]; done))) wm_RX7_256 hW.1 [] rfl ⟨rfl, rfl⟩ ⟨Nat.le_of_ble_eq_true rfl, Nat.le_of_ble_eq_true rfl⟩ ⟨Nat.zero_le _, Nat.zero_le _⟩ hl rfl rfl (Nat.le_of_ble_eq_true rfl) dX7_fitsWhatIsTold_6 ?_
  refine x_istore_n (lv' := [(3, .int (nI (su / 10 % 6))), (2, .int (nI (su / 60))), (0, .ref x), (1, .int (nI su))]) hx dX7_fitsWhatIsTold_9 hl (Nat.le_of_ble_eq_true rfl) rfl (fun ls hl => ?_)
  refine x_iload_n hx dX7_fitsWhatIsTold_10 hl 3 rfl ?_
  refine x_callRS (As := [.int (nI su)]) (rest := []) hx yv_X7_figureOf (c_X7_figureOf _ D su (by first | assumption | omega | (simp [*]; done))) wm_RX7_259 hW.1 [] rfl ⟨rfl, rfl⟩ ⟨Nat.le_of_ble_eq_true rfl, Nat.le_of_ble_eq_true rfl⟩ ⟨Nat.zero_le _, Nat.zero_le _⟩ hl rfl rfl (Nat.le_of_ble_eq_true rfl) dX7_fitsWhatIsTold_11 ?_
  refine x_istore (lv' := [(4, .int (nI (su % 10))), (3, .int (nI (su / 10 % 6))), (2, .int (nI (su / 60))), (0, .ref x), (1, .int (nI su))]) hx dX7_fitsWhatIsTold_14 hl (Nat.le_of_ble_eq_true rfl) rfl (fun ls hl => ?_)
  refine x_aload_n hx dX7_fitsWhatIsTold_16 hl 3 rfl ?_
  refine x_get7 hx hW.1 0 rfl 2 (Nat.le_of_ble_eq_true rfl) wf_RX7_27 rfl dX7_fitsWhatIsTold_17 ?_
  refine x_iload_n hx dX7_fitsWhatIsTold_20 hl 2 rfl ?_
  refine x_iload_n hx dX7_fitsWhatIsTold_21 hl 1 rfl ?_
  refine x_callRV (As := [.int (nI (su / 60)), .int (nI (su / 10 % 6))]) (rest := []) hx yv_X0_hasSide (c_X0_hasSide _ D tb thd tlo te thn tcu tsc tfg ttv tpr tSC ((su / 60 : Nat) : Int) ((su / 10 % 6 : Nat) : Int) (by first | assumption | omega | (simp [*]; done)) (by first | assumption | omega | (simp [*]; done)) (by first | assumption | omega | (simp [*]; done)) (by first | assumption | omega | (simp [*]; done))) wm_RX7_154 hW.1 [3, 4] rfl 3 rfl rfl ⟨rfl, rfl⟩ ⟨Nat.le_of_ble_eq_true rfl, Nat.le_of_ble_eq_true rfl⟩ ⟨Nat.zero_le _, Nat.zero_le _⟩ hl rfl rfl (Nat.le_of_ble_eq_true rfl) dX7_fitsWhatIsTold_22 ?_
  refine x_if_eq_B (tgt := 46) hx dX7_fitsWhatIsTold_25 (by decide) (fun h_1 => ?_) (fun h_1 => ?_)
  · simp only [sideB, decide_eq_true_eq, decide_eq_false_iff_not, Int.toNat_natCast] at h_1
    have hsu : susp tcu tSC nNF su = false := by
      simp only [susp, Bool.and_eq_false_iff, decide_eq_false_iff_not]
      omega
    refine x_iconst (v := nI 0) hx dX7_fitsWhatIsTold_46 (by decide) ?_
    have e_2 : ∀ k, k < 10 → (cfOf sh) k = (cfOf (trS nlost tcu tSC tTV nNF sh su)) k := by
      intro k hk
      first | rfl | (rw [trS, hsu]; rfl)
    have hW : Wd X D A [(x, .inr (7, [.ref tx, .ref tr, .ref tb, .ref nw, .ref sp, .ref pa, .ref im, .ref ik, .ref no, .ref pr, .ref sg, .int (iI xfa)])), (tr, .inr (6, [.ref tb, .ref nw, .ref cf])), (cf, .inl (D.2.1, 10, .inl (nA (cfOf (trS nlost tcu tSC tTV nNF sh su))))), (tb, .inr (0, [.int (nI thd.toNat), .int (nI tlo), .int (iI ((te : Int) - 1)), .int (nI thn.toNat), .int (nI tcu), .ref tsc, .ref tfg, .ref ttv, .ref tpr])), (tsc, .inl (D.2.1, 4, .inl (nA tSC))), (ttv, .inl (D.2.1, 10, .inl (nA tTV))), (nw, .inr (4, [.ref nnf, .int (nI nlost), .int (nI ncost), .int (nI ndr)])), (nnf, .inl (D.2.1, 24, .inl (nA nNF))), (no, .inr (1, [.int (nI wn), .int (nI bn), .ref nwd, .ref nws, .ref nbk])), (nwd, .inl (D.2.1, 6, .inl (nA WD))), (nws, .inl (D.2.2.1, 6, .inl (bA WS)))] _ _ := hW.row 2 rfl (fun j hj => congrArg (nI) (e_2 j hj)) rfl
    exact hret _ _ _ _ _ dX7_fitsWhatIsTold_47 (by simp [fitS, hsu]) hW
  · simp only [sideB, decide_eq_true_eq, decide_eq_false_iff_not, Int.toNat_natCast] at h_1
    refine x_aload_n hx dX7_fitsWhatIsTold_28 hl 3 rfl ?_
    refine x_get7 hx hW.1 0 rfl 3 (Nat.le_of_ble_eq_true rfl) wf_RX7_34 rfl dX7_fitsWhatIsTold_29 ?_
    refine x_get4 hx hW.1 6 rfl 0 (Nat.le_of_ble_eq_true rfl) wf_RX7_158 rfl dX7_fitsWhatIsTold_32 ?_
    refine x_iload_n hx dX7_fitsWhatIsTold_35 hl 2 rfl ?_
    refine x_iload_n hx dX7_fitsWhatIsTold_36 hl 1 rfl ?_
    refine x_callRS (As := [.int (nI (su / 60)), .int (nI (su / 10 % 6))]) (rest := [.ref nnf]) hx yv_X7_place (c_X7_place _ D (su / 60) (su / 10 % 6) (by first | assumption | omega | (simp [*]; done)) (by first | assumption | omega | (simp [*]; done))) wm_RX7_161 hW.1 [] rfl ⟨rfl, rfl⟩ ⟨Nat.le_of_ble_eq_true rfl, Nat.le_of_ble_eq_true rfl⟩ ⟨Nat.zero_le _, Nat.zero_le _⟩ hl rfl rfl (Nat.le_of_ble_eq_true rfl) dX7_fitsWhatIsTold_37 ?_
    have hj_40 : (su / 60) * 6 + (su / 10 % 6) < 24 := by omega
    refine x_iald (v := nI (nNF ((su / 60) * 6 + (su / 10 % 6)))) hx hW.1 7 rfl hj_40 (by decide) (rfl) dX7_fitsWhatIsTold_40 ?_
    have b_3 := hnNF ((su / 60) * 6 + (su / 10 % 6)) hj_40
    refine x_iload hx dX7_fitsWhatIsTold_41 hl 0 rfl ?_
    refine x_icmp_ne_N (a := (nNF ((su / 60) * 6 + (su / 10 % 6)))) (b := (su % 10)) (tgt := 48) hx dX7_fitsWhatIsTold_43 (by decide) (by omega) (by omega) (fun h_4 => ?_) (fun h_4 => ?_)
    · have hsu : susp tcu tSC nNF su = true := by
        simp only [susp, Bool.and_eq_true, decide_eq_true_eq]
        omega
      have hts : trS nlost tcu tSC tTV nNF sh su = va_up sh (su / 60) (lz nlost (su / 60) (seen tSC tTV nNF (su / 60) ((su / 10 % 6 : Nat) : Int) ||| both tTV (su % 10))) := by
        rw [trS, hsu]; rfl
      refine x_aload_n hx dX7_fitsWhatIsTold_48 hl 3 rfl ?_
      refine x_get7 hx hW.1 0 rfl 1 (Nat.le_of_ble_eq_true rfl) wf_RX7_19 rfl dX7_fitsWhatIsTold_49 ?_
      refine x_iload_n hx dX7_fitsWhatIsTold_52 hl 2 rfl ?_
      refine x_iload_n hx dX7_fitsWhatIsTold_53 hl 1 rfl ?_
      refine x_iload hx dX7_fitsWhatIsTold_54 hl 0 rfl ?_
      refine x_callVV (As := [.int (nI (su / 60)), .int (nI (su / 10 % 6)), .int (nI (su % 10))]) (rest := []) (wr := [(x, .inr (7, [.ref tx, .ref tr, .ref tb, .ref nw, .ref sp, .ref pa, .ref im, .ref ik, .ref no, .ref pr, .ref sg, .int (iI xfa)])), (no, .inr (1, [.int (nI wn), .int (nI bn), .ref nwd, .ref nws, .ref nbk])), (nwd, .inl (D.2.1, 6, .inl (nA WD))), (nws, .inl (D.2.2.1, 6, .inl (bA WS)))]) hx yv_X6_repaint (c_X6_repaint _ D tr nw cf sh tb thd tlo te thn tcu tsc tfg ttv tpr tSC tTV nnf nlost ncost ndr nNF (su / 60) (su / 10 % 6) (su % 10) (by first | assumption | omega | (simp [*]; done)) (by first | assumption | omega | (simp [*]; done)) (by first | assumption | omega | (simp [*]; done)) (by first | assumption | omega | (simp [*]; done)) (by first | assumption | omega | (simp [*]; done)) (by first | assumption | omega | (simp [*]; done)) (by first | assumption | omega | (simp [*]; done)) (by first | assumption | omega | (simp [*]; done))) wm_RX7_232 hA hW [1, 2, 3, 4, 5, 6, 7] [0, 8, 9, 10] rfl rfl rfl rfl rfl 1 rfl rfl ⟨rfl, rfl⟩ ⟨Nat.le_of_ble_eq_true rfl, Nat.le_of_ble_eq_true rfl⟩ ⟨Nat.zero_le _, Nat.zero_le _⟩ hl rfl rfl (Nat.le_of_ble_eq_true rfl) dX7_fitsWhatIsTold_56 [(x, .inr (7, [.ref tx, .ref tr, .ref tb, .ref nw, .ref sp, .ref pa, .ref im, .ref ik, .ref no, .ref pr, .ref sg, .int (iI xfa)])), (no, .inr (1, [.int (nI wn), .int (nI bn), .ref nwd, .ref nws, .ref nbk])), (nwd, .inl (D.2.1, 6, .inl (nA WD))), (nws, .inl (D.2.2.1, 6, .inl (bA WS))), (tr, .inr (6, [.ref tb, .ref nw, .ref cf])), (cf, .inl (D.2.1, 10, .inl (nA (cfOf (va_up sh (su / 60) (lz nlost (su / 60) (seen tSC tTV nNF (su / 60) ((su / 10 % 6) : Int) ||| both tTV (su % 10)))))))), (tb, .inr (0, [.int (nI thd.toNat), .int (nI tlo), .int (iI ((te : Int) - 1)), .int (nI thn.toNat), .int (nI tcu), .ref tsc, .ref tfg, .ref ttv, .ref tpr])), (tsc, .inl (D.2.1, 4, .inl (nA tSC))), (ttv, .inl (D.2.1, 10, .inl (nA tTV))), (nw, .inr (4, [.ref nnf, .int (nI nlost), .int (nI ncost), .int (nI ndr)])), (nnf, .inl (D.2.1, 24, .inl (nA nNF)))] rfl (fun H locs hW => ?_)
      refine x_iconst (v := nI 0) hx dX7_fitsWhatIsTold_59 (by decide) ?_
      refine x_istore (lv' := [(5, .int (nI 0)), (4, .int (nI (su % 10))), (3, .int (nI (su / 10 % 6))), (2, .int (nI (su / 60))), (0, .ref x), (1, .int (nI su))]) hx dX7_fitsWhatIsTold_60 hl (Nat.le_of_ble_eq_true rfl) rfl (fun ls hl => ?_)
      have L62_5 : ∀ (L62_5n : Nat) (i : Nat), (i ≤ wn) → (agr thn te (trS nlost tcu tSC tTV nNF sh su) WD WS i = true) → wn - i < L62_5n → ∀ (H : Heap) (locs : List Loc), Wd X D A [(x, .inr (7, [.ref tx, .ref tr, .ref tb, .ref nw, .ref sp, .ref pa, .ref im, .ref ik, .ref no, .ref pr, .ref sg, .int (iI xfa)])), (no, .inr (1, [.int (nI wn), .int (nI bn), .ref nwd, .ref nws, .ref nbk])), (nwd, .inl (D.2.1, 6, .inl (nA WD))), (nws, .inl (D.2.2.1, 6, .inl (bA WS))), (tr, .inr (6, [.ref tb, .ref nw, .ref cf])), (cf, .inl (D.2.1, 10, .inl (nA (cfOf (trS nlost tcu tSC tTV nNF sh su))))), (tb, .inr (0, [.int (nI thd.toNat), .int (nI tlo), .int (iI ((te : Int) - 1)), .int (nI thn.toNat), .int (nI tcu), .ref tsc, .ref tfg, .ref ttv, .ref tpr])), (tsc, .inl (D.2.1, 4, .inl (nA tSC))), (ttv, .inl (D.2.1, 10, .inl (nA tTV))), (nw, .inr (4, [.ref nnf, .int (nI nlost), .int (nI ncost), .int (nI ndr)])), (nnf, .inl (D.2.1, 24, .inl (nA nNF)))] H locs → ∀ ls : Array Slot, lv_has ls 6 [(0, .ref x), (1, .int (nI su)), (2, .int (nI (su / 60))), (3, .int (nI (su / 10 % 6))), (4, .int (nI (su % 10))), (5, .int (nI i))] → Wx X 0 0 H locs 62 ls [] := by
        intro L62_5n
        induction L62_5n with
        | zero =>
          intro i h1 h2 hm
          exact absurd hm (Nat.not_lt_zero _)
        | succ L62_5n ihL62_5 =>
          intro i h1 h2 hm H locs hW ls hl
          refine x_iload hx dX7_fitsWhatIsTold_62 hl 5 rfl ?_
          refine x_aload_n hx dX7_fitsWhatIsTold_64 hl 0 rfl ?_
          refine x_get7 hx hW.1 0 rfl 8 (Nat.le_of_ble_eq_true rfl) wf_RX7_63 rfl dX7_fitsWhatIsTold_65 ?_
          refine x_get1 hx hW.1 1 rfl 0 (Nat.le_of_ble_eq_true rfl) wf_RX7_137 rfl dX7_fitsWhatIsTold_68 ?_
          refine x_icmp_ge_N (a := i) (b := wn) (tgt := 112) hx dX7_fitsWhatIsTold_71 (by decide) (by omega) (by omega) (fun h_6 => ?_) (fun h_6 => ?_)
          · refine x_iconst (v := nI 1) hx dX7_fitsWhatIsTold_112 (by decide) ?_
            exact hret _ _ _ _ _ dX7_fitsWhatIsTold_113 (by simp only [fitS, hsu, Bool.true_and]; rw [show wn = i by omega, h2]; rfl) (hW.conv [0, 4, 5, 6, 7, 8, 9, 10, 1, 2, 3] (w1 := [(x, .inr (7, [.ref tx, .ref tr, .ref tb, .ref nw, .ref sp, .ref pa, .ref im, .ref ik, .ref no, .ref pr, .ref sg, .int (iI xfa)])), (tr, .inr (6, [.ref tb, .ref nw, .ref cf])), (cf, .inl (D.2.1, 10, .inl (nA (cfOf (trS nlost tcu tSC tTV nNF sh su))))), (tb, .inr (0, [.int (nI thd.toNat), .int (nI tlo), .int (iI ((te : Int) - 1)), .int (nI thn.toNat), .int (nI tcu), .ref tsc, .ref tfg, .ref ttv, .ref tpr])), (tsc, .inl (D.2.1, 4, .inl (nA tSC))), (ttv, .inl (D.2.1, 10, .inl (nA tTV))), (nw, .inr (4, [.ref nnf, .int (nI nlost), .int (nI ncost), .int (nI ndr)])), (nnf, .inl (D.2.1, 24, .inl (nA nNF))), (no, .inr (1, [.int (nI wn), .int (nI bn), .ref nwd, .ref nws, .ref nbk])), (nwd, .inl (D.2.1, 6, .inl (nA WD))), (nws, .inl (D.2.2.1, 6, .inl (bA WS)))]) (w2 := [(x, .inr (7, [.ref tx, .ref tr, .ref tb, .ref nw, .ref sp, .ref pa, .ref im, .ref ik, .ref no, .ref pr, .ref sg, .int (iI xfa)])), (tr, .inr (6, [.ref tb, .ref nw, .ref cf])), (cf, .inl (D.2.1, 10, .inl (nA (cfOf (trS nlost tcu tSC tTV nNF sh su))))), (tb, .inr (0, [.int (nI thd.toNat), .int (nI tlo), .int (iI ((te : Int) - 1)), .int (nI thn.toNat), .int (nI tcu), .ref tsc, .ref tfg, .ref ttv, .ref tpr])), (tsc, .inl (D.2.1, 4, .inl (nA tSC))), (ttv, .inl (D.2.1, 10, .inl (nA tTV))), (nw, .inr (4, [.ref nnf, .int (nI nlost), .int (nI ncost), .int (nI ndr)])), (nnf, .inl (D.2.1, 24, .inl (nA nNF))), (no, .inr (1, [.int (nI wn), .int (nI bn), .ref nwd, .ref nws, .ref nbk])), (nwd, .inl (D.2.1, 6, .inl (nA WD))), (nws, .inl (D.2.2.1, 6, .inl (bA WS)))]) rfl rfl rfl)
          · refine x_aload_n hx dX7_fitsWhatIsTold_74 hl 0 rfl ?_
            refine x_get7 hx hW.1 0 rfl 1 (Nat.le_of_ble_eq_true rfl) wf_RX7_19 rfl dX7_fitsWhatIsTold_75 ?_
            refine x_aload_n hx dX7_fitsWhatIsTold_78 hl 0 rfl ?_
            refine x_get7 hx hW.1 0 rfl 8 (Nat.le_of_ble_eq_true rfl) wf_RX7_63 rfl dX7_fitsWhatIsTold_79 ?_
            refine x_get1 hx hW.1 1 rfl 2 (Nat.le_of_ble_eq_true rfl) wf_RX7_298 rfl dX7_fitsWhatIsTold_82 ?_
            refine x_iload hx dX7_fitsWhatIsTold_85 hl 5 rfl ?_
            have hwd := hWD i (by omega)
            have hj_87 : i < 6 := by omega
            refine x_iald (v := nI (WD i)) hx hW.1 2 rfl hj_87 (by decide) (rfl) dX7_fitsWhatIsTold_87 ?_
            refine x_callRV (As := [.int (nI (WD i))]) (rest := []) hx yv_X6_canShow (c_X6_canShow _ D tr nw cf (trS nlost tcu tSC tTV nNF sh su) tb thd tlo te thn tcu tsc tfg ttv tpr (WD i) (by first | assumption | omega | (simp [*]; done)) (by first | assumption | omega | (simp [*]; done))) wm_RX7_200 hW.1 [4, 5, 6] rfl 4 rfl rfl ⟨rfl, rfl⟩ ⟨Nat.le_of_ble_eq_true rfl, Nat.le_of_ble_eq_true rfl⟩ ⟨Nat.zero_le _, Nat.zero_le _⟩ hl rfl rfl (Nat.le_of_ble_eq_true rfl) dX7_fitsWhatIsTold_88 ?_
            refine x_aload_n hx dX7_fitsWhatIsTold_91 hl 0 rfl ?_
            refine x_get7 hx hW.1 0 rfl 8 (Nat.le_of_ble_eq_true rfl) wf_RX7_63 rfl dX7_fitsWhatIsTold_92 ?_
            refine x_get1 hx hW.1 1 rfl 3 (Nat.le_of_ble_eq_true rfl) wf_RX7_301 rfl dX7_fitsWhatIsTold_95 ?_
            refine x_iload hx dX7_fitsWhatIsTold_98 hl 5 rfl ?_
            have hj_100 : i < 6 := by omega
            refine x_zald (v := nI (WS i).toNat) hx hW.1 3 rfl hj_100 (by decide) (rfl) dX7_fitsWhatIsTold_100 ?_
            refine x_icmp_eq_BB (tgt := 106) hx dX7_fitsWhatIsTold_101 (by decide) (fun h_7 => ?_) (fun h_7 => ?_)
            · refine x_iinc (v := nI (i + 1)) (lv' := [(5, .int (nI (i + 1))), (0, .ref x), (1, .int (nI su)), (2, .int (nI (su / 60))), (3, .int (nI (su / 10 % 6))), (4, .int (nI (su % 10)))]) hx dX7_fitsWhatIsTold_106 hl 5 rfl (nI_addc i 1) (Nat.le_of_ble_eq_true rfl) rfl (fun ls hl => ?_)
              refine x_goto (tgt := 62) hx dX7_fitsWhatIsTold_109 (by decide) ?_
              have e_8 : (i + 1 : Nat) = (i + 1) := by
                first | rfl | omega | (simp [*]; done) | (simp [*]; omega)
              exact ihL62_5 (i + 1) (by first | assumption | omega | (simp [*]; done)) (by first | rfl | (simp only [agr, h2, Bool.true_and]; exact decide_eq_true (by assumption))) (by omega) _ _ hW _ (lv_to (l := [(0, .ref x), (1, .int (nI su)), (2, .int (nI (su / 60))), (3, .int (nI (su / 10 % 6))), (4, .int (nI (su % 10))), (5, .int (nI (i + 1)))]) (l2 := [(0, .ref x), (1, .int (nI su)), (2, .int (nI (su / 60))), (3, .int (nI (su / 10 % 6))), (4, .int (nI (su % 10))), (5, .int (nI (i + 1)))]) (lv_sub hl [1, 2, 3, 4, 5, 0] rfl) (cE rfl (cE rfl (cE rfl (cE rfl (cE rfl (cE (congrArg (fun z => ((5, Value.int z) : Nat × Value)) (congrArg (fun z : Nat => nI z) e_8)) rfl)))))))
            · refine x_iconst (v := nI 0) hx dX7_fitsWhatIsTold_104 (by decide) ?_
              exact hret _ _ _ _ _ dX7_fitsWhatIsTold_105 (by simp only [fitS, hsu, Bool.true_and]; rw [agr_no (by assumption) wn (by omega)]; rfl) (hW.conv [0, 4, 5, 6, 7, 8, 9, 10, 1, 2, 3] (w1 := [(x, .inr (7, [.ref tx, .ref tr, .ref tb, .ref nw, .ref sp, .ref pa, .ref im, .ref ik, .ref no, .ref pr, .ref sg, .int (iI xfa)])), (tr, .inr (6, [.ref tb, .ref nw, .ref cf])), (cf, .inl (D.2.1, 10, .inl (nA (cfOf (trS nlost tcu tSC tTV nNF sh su))))), (tb, .inr (0, [.int (nI thd.toNat), .int (nI tlo), .int (iI ((te : Int) - 1)), .int (nI thn.toNat), .int (nI tcu), .ref tsc, .ref tfg, .ref ttv, .ref tpr])), (tsc, .inl (D.2.1, 4, .inl (nA tSC))), (ttv, .inl (D.2.1, 10, .inl (nA tTV))), (nw, .inr (4, [.ref nnf, .int (nI nlost), .int (nI ncost), .int (nI ndr)])), (nnf, .inl (D.2.1, 24, .inl (nA nNF))), (no, .inr (1, [.int (nI wn), .int (nI bn), .ref nwd, .ref nws, .ref nbk])), (nwd, .inl (D.2.1, 6, .inl (nA WD))), (nws, .inl (D.2.2.1, 6, .inl (bA WS)))]) (w2 := [(x, .inr (7, [.ref tx, .ref tr, .ref tb, .ref nw, .ref sp, .ref pa, .ref im, .ref ik, .ref no, .ref pr, .ref sg, .int (iI xfa)])), (tr, .inr (6, [.ref tb, .ref nw, .ref cf])), (cf, .inl (D.2.1, 10, .inl (nA (cfOf (trS nlost tcu tSC tTV nNF sh su))))), (tb, .inr (0, [.int (nI thd.toNat), .int (nI tlo), .int (iI ((te : Int) - 1)), .int (nI thn.toNat), .int (nI tcu), .ref tsc, .ref tfg, .ref ttv, .ref tpr])), (tsc, .inl (D.2.1, 4, .inl (nA tSC))), (ttv, .inl (D.2.1, 10, .inl (nA tTV))), (nw, .inr (4, [.ref nnf, .int (nI nlost), .int (nI ncost), .int (nI ndr)])), (nnf, .inl (D.2.1, 24, .inl (nA nNF))), (no, .inr (1, [.int (nI wn), .int (nI bn), .ref nwd, .ref nws, .ref nbk])), (nwd, .inl (D.2.1, 6, .inl (nA WD))), (nws, .inl (D.2.2.1, 6, .inl (bA WS)))]) rfl rfl rfl)
      have e_9 : ∀ k, k < 10 → (cfOf (va_up sh (su / 60) (lz nlost (su / 60) (seen tSC tTV nNF (su / 60) ((su / 10 % 6) : Int) ||| both tTV (su % 10))))) k = (cfOf (trS nlost tcu tSC tTV nNF sh su)) k := by
        intro k hk
        first | (rw [hts]; rfl) | rw [hts]
      have hW : Wd X D A [(x, .inr (7, [.ref tx, .ref tr, .ref tb, .ref nw, .ref sp, .ref pa, .ref im, .ref ik, .ref no, .ref pr, .ref sg, .int (iI xfa)])), (no, .inr (1, [.int (nI wn), .int (nI bn), .ref nwd, .ref nws, .ref nbk])), (nwd, .inl (D.2.1, 6, .inl (nA WD))), (nws, .inl (D.2.2.1, 6, .inl (bA WS))), (tr, .inr (6, [.ref tb, .ref nw, .ref cf])), (cf, .inl (D.2.1, 10, .inl (nA (cfOf (trS nlost tcu tSC tTV nNF sh su))))), (tb, .inr (0, [.int (nI thd.toNat), .int (nI tlo), .int (iI ((te : Int) - 1)), .int (nI thn.toNat), .int (nI tcu), .ref tsc, .ref tfg, .ref ttv, .ref tpr])), (tsc, .inl (D.2.1, 4, .inl (nA tSC))), (ttv, .inl (D.2.1, 10, .inl (nA tTV))), (nw, .inr (4, [.ref nnf, .int (nI nlost), .int (nI ncost), .int (nI ndr)])), (nnf, .inl (D.2.1, 24, .inl (nA nNF)))] _ _ := hW.row 5 rfl (fun j hj => congrArg (nI) (e_9 j hj)) rfl
      exact L62_5 (wn - 0 + 1) 0 (by first | assumption | omega | (simp [*]; done)) (by first | rfl | (simp only [agr, h2, Bool.true_and]; exact decide_eq_true (by assumption))) (Nat.lt_succ_self _) _ _ hW _ (lv_sub hl [4, 5, 3, 2, 1, 0] rfl)
    · have hsu : susp tcu tSC nNF su = false := by
        simp only [susp, Bool.and_eq_false_iff, decide_eq_false_iff_not]
        omega
      refine x_iconst (v := nI 0) hx dX7_fitsWhatIsTold_46 (by decide) ?_
      have e_10 : ∀ k, k < 10 → (cfOf sh) k = (cfOf (trS nlost tcu tSC tTV nNF sh su)) k := by
        intro k hk
        first | rfl | (rw [trS, hsu]; rfl)
      have hW : Wd X D A [(x, .inr (7, [.ref tx, .ref tr, .ref tb, .ref nw, .ref sp, .ref pa, .ref im, .ref ik, .ref no, .ref pr, .ref sg, .int (iI xfa)])), (tr, .inr (6, [.ref tb, .ref nw, .ref cf])), (cf, .inl (D.2.1, 10, .inl (nA (cfOf (trS nlost tcu tSC tTV nNF sh su))))), (tb, .inr (0, [.int (nI thd.toNat), .int (nI tlo), .int (iI ((te : Int) - 1)), .int (nI thn.toNat), .int (nI tcu), .ref tsc, .ref tfg, .ref ttv, .ref tpr])), (tsc, .inl (D.2.1, 4, .inl (nA tSC))), (ttv, .inl (D.2.1, 10, .inl (nA tTV))), (nw, .inr (4, [.ref nnf, .int (nI nlost), .int (nI ncost), .int (nI ndr)])), (nnf, .inl (D.2.1, 24, .inl (nA nNF))), (no, .inr (1, [.int (nI wn), .int (nI bn), .ref nwd, .ref nws, .ref nbk])), (nwd, .inl (D.2.1, 6, .inl (nA WD))), (nws, .inl (D.2.2.1, 6, .inl (bA WS)))] _ _ := hW.row 2 rfl (fun j hj => congrArg (nI) (e_10 j hj)) rfl
      exact hret _ _ _ _ _ dX7_fitsWhatIsTold_47 (by simp [fitS, hsu]) hW
