/-! over sides, in their order -/
def okS (lost cu : Nat) (SC : Nat → Nat) (c f : Nat) : Bool := decide (c < cu) && (!lost.testBit c && decide (f < SC c))
def wfold (q : Nat → Nat → Nat) (ok : Nat → Nat → Bool) : Nat → Nat × Int
  | 0 => (101, -1)
  | k + 1 => if ok (k / 6) (k % 6) = true ∧ q (k / 6) (k % 6) < (wfold q ok k).1 then (q (k / 6) (k % 6), ((10 * (k / 6) + k % 6 : Nat) : Int)) else wfold q ok k
theorem wfold_le (q : Nat → Nat → Nat) (ok : Nat → Nat → Bool) : ∀ k, (wfold q ok k).1 ≤ 101
  | 0 => Nat.le_refl _
  | k + 1 => by
    simp only [wfold]
    have := wfold_le q ok k
    split
    · next h => have := h.2; simp only; omega
    · exact this
theorem wfold_skip {q : Nat → Nat → Nat} {ok : Nat → Nat → Bool} {k : Nat} : ∀ m, (∀ i, k ≤ i → i < k + m → ok (i / 6) (i % 6) = false) → wfold q ok (k + m) = wfold q ok k
  | 0, _ => rfl
  | m + 1, h => by
    show wfold q ok (k + m + 1) = _
    simp only [wfold]
    rw [h (k + m) (by omega) (by omega)]
    simp only [Bool.false_eq_true, false_and, if_false]
    exact wfold_skip m (fun i h1 h2 => h i h1 (by omega))
theorem wfold_next {q : Nat → Nat → Nat} {lost cu : Nat} {SC : Nat → Nat} {c f : Nat} (hf : f ≤ 6) (h : SC c ≤ f ∨ lost.testBit c = true) : wfold q (okS lost cu SC) (6 * c + f) = wfold q (okS lost cu SC) (6 * (c + 1)) := by
  rw [show 6 * (c + 1) = 6 * c + f + (6 - f) by omega]
  refine (wfold_skip (6 - f) (fun i h1 h2 => ?_)).symm
  have e1 : i / 6 = c := by omega
  have e2 : f ≤ i % 6 := by omega
  rw [e1]
  rcases h with h | h
  · have : ¬ i % 6 < SC c := by omega
    simp [okS, this]
  · simp [okS, h]
theorem wfold_end {q : Nat → Nat → Nat} {lost cu : Nat} {SC : Nat → Nat} (hcu : cu ≤ 4) : wfold q (okS lost cu SC) (6 * cu) = wfold q (okS lost cu SC) 24 := by
  rw [show 24 = 6 * cu + (24 - 6 * cu) by omega]
  refine (wfold_skip _ (fun i h1 h2 => ?_)).symm
  have : ¬ i / 6 < cu := by omega
  simp [okS, this]
theorem wfold_s {q : Nat → Nat → Nat} {lost cu : Nat} {SC : Nat → Nat} {c f : Nat} (hc : c < cu) (hf : f < SC c) (hf6 : f < 6) (hl : lost.testBit c = false) : wfold q (okS lost cu SC) (6 * c + (f + 1)) = if q c f < (wfold q (okS lost cu SC) (6 * c + f)).1 then (q c f, ((10 * c + f : Nat) : Int)) else wfold q (okS lost cu SC) (6 * c + f) := by
  show wfold q (okS lost cu SC) (6 * c + f + 1) = _
  have e1 : (6 * c + f) / 6 = c := by omega
  have e2 : (6 * c + f) % 6 = f := by omega
  have e3 : okS lost cu SC c f = true := by simp [okS, hc, hf, hl]
  simp only [wfold, e1, e2, e3, true_and]
theorem wfold_y {q : Nat → Nat → Nat} {lost cu : Nat} {SC : Nat → Nat} {c f : Nat} (hc : c < cu) (hf : f < SC c) (hf6 : f < 6) (hl : lost.testBit c = false) (h : q c f < (wfold q (okS lost cu SC) (6 * c + f)).1) : (q c f, ((10 * c + f : Nat) : Int)) = wfold q (okS lost cu SC) (6 * c + (f + 1)) := by
  rw [wfold_s hc hf hf6 hl, if_pos h]
theorem wfold_n {q : Nat → Nat → Nat} {lost cu : Nat} {SC : Nat → Nat} {c f : Nat} (hc : c < cu) (hf : f < SC c) (hf6 : f < 6) (hl : lost.testBit c = false) (h : (wfold q (okS lost cu SC) (6 * c + f)).1 ≤ q c f) : wfold q (okS lost cu SC) (6 * c + f) = wfold q (okS lost cu SC) (6 * c + (f + 1)) := by
  rw [wfold_s hc hf hf6 hl, if_neg (Nat.not_lt.mpr h)]
def fsTo (p : Nat → Nat → Bool) (ok : Nat → Nat → Bool) : Nat → Nat → Int
  | _, 0 => -1
  | k, n + 1 => if ok (k / 6) (k % 6) = true ∧ p (k / 6) (k % 6) = true then ((10 * (k / 6) + k % 6 : Nat) : Int) else fsTo p ok (k + 1) n
theorem fsTo_skip {p : Nat → Nat → Bool} {ok : Nat → Nat → Bool} : ∀ (m k n : Nat), m ≤ n → (∀ i, k ≤ i → i < k + m → ok (i / 6) (i % 6) = false) → fsTo p ok k n = fsTo p ok (k + m) (n - m)
  | 0, _, _, _, _ => rfl
  | m + 1, k, n, hn, h => by
    obtain ⟨n', rfl⟩ : ∃ n', n = n' + 1 := ⟨n - 1, by omega⟩
    have h0 : ¬ (ok (k / 6) (k % 6) = true ∧ p (k / 6) (k % 6) = true) := by rw [h k (by omega) (by omega)]; simp
    rw [fsTo, if_neg h0, fsTo_skip m (k + 1) n' (by omega) (fun i h1 h2 => h i (by omega) (by omega))]
    rw [show k + 1 + m = k + (m + 1) by omega, show n' + 1 - (m + 1) = n' - m by omega]
theorem fsTo_next {p : Nat → Nat → Bool} {lost cu : Nat} {SC : Nat → Nat} {c f : Nat} (hc : c < 4) (hf : f ≤ 6) (h : SC c ≤ f ∨ lost.testBit c = true) : fsTo p (okS lost cu SC) (6 * c + f) (24 - (6 * c + f)) = fsTo p (okS lost cu SC) (6 * (c + 1)) (24 - 6 * (c + 1)) := by
  rw [fsTo_skip (6 - f) (6 * c + f) (24 - (6 * c + f)) (by omega) (fun i h1 h2 => ?_)]
  · rw [show 6 * c + f + (6 - f) = 6 * (c + 1) by omega, show 24 - (6 * c + f) - (6 - f) = 24 - 6 * (c + 1) by omega]
  · have e1 : i / 6 = c := by omega
    have e2 : f ≤ i % 6 := by omega
    rw [e1]
    rcases h with h | h
    · have : ¬ i % 6 < SC c := by omega
      simp [okS, this]
    · simp [okS, h]
theorem fsTo_end {p : Nat → Nat → Bool} {lost cu : Nat} {SC : Nat → Nat} {c : Nat} (hc : cu ≤ c) (hcu : cu ≤ 4) (h4 : c ≤ 4) : fsTo p (okS lost cu SC) (6 * c) (24 - 6 * c) = -1 := by
  rw [fsTo_skip (24 - 6 * c) (6 * c) (24 - 6 * c) (by omega) (fun i h1 h2 => ?_)]
  · rw [Nat.sub_self]; rfl
  · have : ¬ i / 6 < cu := by omega
    simp [okS, this]
theorem fsTo_s {p : Nat → Nat → Bool} {lost cu : Nat} {SC : Nat → Nat} {c f : Nat} (hc : c < cu) (hc4 : c < 4) (hf : f < SC c) (hf6 : f < 6) (hl : lost.testBit c = false) : fsTo p (okS lost cu SC) (6 * c + f) (24 - (6 * c + f)) = if p c f = true then ((10 * c + f : Nat) : Int) else fsTo p (okS lost cu SC) (6 * c + (f + 1)) (24 - (6 * c + (f + 1))) := by
  have e0 : 24 - (6 * c + f) = (24 - (6 * c + (f + 1))) + 1 := by omega
  have e1 : (6 * c + f) / 6 = c := by omega
  have e2 : (6 * c + f) % 6 = f := by omega
  have e3 : okS lost cu SC c f = true := by simp [okS, hc, hf, hl]
  rw [e0, fsTo, e1, e2, e3]
  simp only [true_and]
  rfl
theorem fsTo_rng {p : Nat → Nat → Bool} {ok : Nat → Nat → Bool} : ∀ (n k : Nat), k + n ≤ 24 → -1 ≤ fsTo p ok k n ∧ fsTo p ok k n < 100
  | 0, _, _ => by simp [fsTo]
  | n + 1, k, h => by
    simp only [fsTo]
    split
    · omega
    · exact fsTo_rng n (k + 1) (by omega)
set_option maxHeartbeats 4000000 in
set_option maxRecDepth 100000 in
theorem c_X7_worst (l : Launch) (D : KD) (x : Nat) (tx : Nat) (tr : Nat) (tb : Nat) (nw : Nat) (sp : Nat) (pa : Nat) (im : Nat) (ik : Nat) (no : Nat) (pr : Nat) (sg : Nat) (xfa : Int) (cf : Nat) (CF : Nat → Nat) (thd : Bool) (tlo : Nat) (te : Nat) (thn : Bool) (tcu : Nat) (tsc : Nat) (tfg : Nat) (ttv : Nat) (tpr : Nat) (tSC : Nat → Nat) (tTV : Nat → Nat) (nnf : Nat) (nlost : Nat) (ncost : Nat) (ndr : Nat) (nNF : Nat → Nat) (htSC : ∀ k, k < 4 → tSC k < 7) (htTV : ∀ k, k < 10 → tTV k < 10) (hnNF : ∀ k, k < 24 → nNF k < 10) (hlo : nlost < 16) (hcu : tcu ≤ 4) (hle : tlo ≤ te) (he : te ≤ 100) : cM l yX7_worst cX7_worst 6 (some .int) rm_X7_worst D [(x, .inr (7, [.ref tx, .ref tr, .ref tb, .ref nw, .ref sp, .ref pa, .ref im, .ref ik, .ref no, .ref pr, .ref sg, .int (iI xfa)])), (tr, .inr (6, [.ref tb, .ref nw, .ref cf])), (cf, .inl (D.2.1, 10, .inl (nA CF))), (tb, .inr (0, [.int (nI thd.toNat), .int (nI tlo), .int (iI ((te : Int) - 1)), .int (nI thn.toNat), .int (nI tcu), .ref tsc, .ref tfg, .ref ttv, .ref tpr])), (tsc, .inl (D.2.1, 4, .inl (nA tSC))), (ttv, .inl (D.2.1, 10, .inl (nA tTV))), (nw, .inr (4, [.ref nnf, .int (nI nlost), .int (nI ncost), .int (nI ndr)])), (nnf, .inl (D.2.1, 24, .inl (nA nNF)))] [.ref x] (iI ((wfold (fun c9 f9 => cntTo (canS thn te (va_up (shN nlost tSC tTV nNF tcu) c9 (lz nlost c9 (seen tSC tTV nNF c9 (f9 : Int))))) tlo te) (okS nlost tcu tSC) (24)).2)) [(x, .inr (7, [.ref tx, .ref tr, .ref tb, .ref nw, .ref sp, .ref pa, .ref im, .ref ik, .ref no, .ref pr, .ref sg, .int (iI xfa)])), (tr, .inr (6, [.ref tb, .ref nw, .ref cf])), (cf, .inl (D.2.1, 10, .inl (nA (cfOf (shN nlost tSC tTV nNF tcu))))), (tb, .inr (0, [.int (nI thd.toNat), .int (nI tlo), .int (iI ((te : Int) - 1)), .int (nI thn.toNat), .int (nI tcu), .ref tsc, .ref tfg, .ref ttv, .ref tpr])), (tsc, .inl (D.2.1, 4, .inl (nA tSC))), (ttv, .inl (D.2.1, 10, .inl (nA tTV))), (nw, .inr (4, [.ref nnf, .int (nI nlost), .int (nI ncost), .int (nI ndr)])), (nnf, .inl (D.2.1, 24, .inl (nA nNF)))] := by
  refine cM.mk (by decide) (retI _) (Nat.le_of_ble_eq_true rfl) ?_
  intro X A hx hL hA hW hret ls hl
  subst hL
  have hl : lv_has ls 6 [(0, .ref x)] := hl
  refine x_aload_n hx dX7_worst_0 hl 0 rfl ?_
  refine x_get7 hx hW.1 0 rfl 1 (Nat.le_of_ble_eq_true rfl) wf_RX7_19 rfl dX7_worst_1 ?_
  refine x_callVV (As := []) (rest := []) (wr := [(x, .inr (7, [.ref tx, .ref tr, .ref tb, .ref nw, .ref sp, .ref pa, .ref im, .ref ik, .ref no, .ref pr, .ref sg, .int (iI xfa)]))]) hx yv_X6_begin (c_X6_begin _ D tr nw cf CF tb thd tlo te thn tcu tsc tfg ttv tpr tSC tTV nnf nlost ncost ndr nNF (by first | assumption | omega | (simp [*]; done)) (by first | assumption | omega | (simp [*]; done)) (by first | assumption | omega | (simp [*]; done)) (by first | assumption | omega | (simp [*]; done)) (by first | assumption | omega | (simp [*]; done))) wm_RX7_198 hA hW [1, 2, 3, 4, 5, 6, 7] [0] rfl rfl rfl rfl rfl 1 rfl rfl ⟨rfl, rfl⟩ ⟨Nat.le_of_ble_eq_true rfl, Nat.le_of_ble_eq_true rfl⟩ ⟨Nat.zero_le _, Nat.zero_le _⟩ hl rfl rfl (Nat.le_of_ble_eq_true rfl) dX7_worst_4 [(x, .inr (7, [.ref tx, .ref tr, .ref tb, .ref nw, .ref sp, .ref pa, .ref im, .ref ik, .ref no, .ref pr, .ref sg, .int (iI xfa)])), (tr, .inr (6, [.ref tb, .ref nw, .ref cf])), (cf, .inl (D.2.1, 10, .inl (nA (cfOf (shN nlost tSC tTV nNF tcu))))), (tb, .inr (0, [.int (nI thd.toNat), .int (nI tlo), .int (iI ((te : Int) - 1)), .int (nI thn.toNat), .int (nI tcu), .ref tsc, .ref tfg, .ref ttv, .ref tpr])), (tsc, .inl (D.2.1, 4, .inl (nA tSC))), (ttv, .inl (D.2.1, 10, .inl (nA tTV))), (nw, .inr (4, [.ref nnf, .int (nI nlost), .int (nI ncost), .int (nI ndr)])), (nnf, .inl (D.2.1, 24, .inl (nA nNF)))] rfl (fun H locs hW => ?_)
  refine x_bipush (v := nI 101) hx dX7_worst_7 (by decide) ?_
  refine x_istore_n (lv' := [(1, .int (nI 101)), (0, .ref x)]) hx dX7_worst_9 hl (Nat.le_of_ble_eq_true rfl) rfl (fun ls hl => ?_)
  refine x_iconst (v := iI (-1)) hx dX7_worst_10 (by decide) ?_
  refine x_istore_n (lv' := [(2, .int (iI (-1))), (1, .int (nI 101)), (0, .ref x)]) hx dX7_worst_11 hl (Nat.le_of_ble_eq_true rfl) rfl (fun ls hl => ?_)
  refine x_iconst (v := nI 0) hx dX7_worst_12 (by decide) ?_
  refine x_istore_n (lv' := [(3, .int (nI 0)), (2, .int (iI (-1))), (1, .int (nI 101)), (0, .ref x)]) hx dX7_worst_13 hl (Nat.le_of_ble_eq_true rfl) rfl (fun ls hl => ?_)
  have L14_1 : ∀ (L14_1n : Nat) (c : Nat), (c ≤ tcu) → tcu - c < L14_1n → ∀ (H : Heap) (locs : List Loc), Wd X D A [(x, .inr (7, [.ref tx, .ref tr, .ref tb, .ref nw, .ref sp, .ref pa, .ref im, .ref ik, .ref no, .ref pr, .ref sg, .int (iI xfa)])), (tr, .inr (6, [.ref tb, .ref nw, .ref cf])), (cf, .inl (D.2.1, 10, .inl (nA (cfOf (shN nlost tSC tTV nNF tcu))))), (tb, .inr (0, [.int (nI thd.toNat), .int (nI tlo), .int (iI ((te : Int) - 1)), .int (nI thn.toNat), .int (nI tcu), .ref tsc, .ref tfg, .ref ttv, .ref tpr])), (tsc, .inl (D.2.1, 4, .inl (nA tSC))), (ttv, .inl (D.2.1, 10, .inl (nA tTV))), (nw, .inr (4, [.ref nnf, .int (nI nlost), .int (nI ncost), .int (nI ndr)])), (nnf, .inl (D.2.1, 24, .inl (nA nNF)))] H locs → ∀ ls : Array Slot, lv_has ls 6 [(0, .ref x), (1, .int (nI ((wfold (fun c9 f9 => cntTo (canS thn te (va_up (shN nlost tSC tTV nNF tcu) c9 (lz nlost c9 (seen tSC tTV nNF c9 (f9 : Int))))) tlo te) (okS nlost tcu tSC) (6 * c)).1))), (2, .int (iI ((wfold (fun c9 f9 => cntTo (canS thn te (va_up (shN nlost tSC tTV nNF tcu) c9 (lz nlost c9 (seen tSC tTV nNF c9 (f9 : Int))))) tlo te) (okS nlost tcu tSC) (6 * c)).2))), (3, .int (nI c))] → Wx X 0 0 H locs 14 ls [] := by
    intro L14_1n
    induction L14_1n with
    | zero =>
      intro c h1 hm
      exact absurd hm (Nat.not_lt_zero _)
    | succ L14_1n ihL14_1 =>
      intro c h1 hm H locs hW ls hl
      refine x_iload_n hx dX7_worst_14 hl 3 rfl ?_
      refine x_aload_n hx dX7_worst_15 hl 0 rfl ?_
      refine x_get7 hx hW.1 0 rfl 2 (Nat.le_of_ble_eq_true rfl) wf_RX7_27 rfl dX7_worst_16 ?_
      refine x_get0 hx hW.1 3 rfl 4 (Nat.le_of_ble_eq_true rfl) wf_RX7_115 rfl dX7_worst_19 ?_
      refine x_icmp_ge_N (a := c) (b := tcu) (tgt := 94) hx dX7_worst_22 (by decide) (by omega) (by omega) (fun h_2 => ?_) (fun h_2 => ?_)
      · refine x_iload_n hx dX7_worst_94 hl 2 rfl ?_
        exact hret _ _ _ _ _ dX7_worst_95 (by rw [show c = tcu by omega, wfold_end hcu]) hW
      · have hsc := htSC c (by omega)
        refine x_iconst (v := nI 0) hx dX7_worst_25 (by decide) ?_
        refine x_istore (lv' := [(4, .int (nI 0)), (0, .ref x), (1, .int (nI ((wfold (fun c9 f9 => cntTo (canS thn te (va_up (shN nlost tSC tTV nNF tcu) c9 (lz nlost c9 (seen tSC tTV nNF c9 (f9 : Int))))) tlo te) (okS nlost tcu tSC) (6 * c)).1))), (2, .int (iI ((wfold (fun c9 f9 => cntTo (canS thn te (va_up (shN nlost tSC tTV nNF tcu) c9 (lz nlost c9 (seen tSC tTV nNF c9 (f9 : Int))))) tlo te) (okS nlost tcu tSC) (6 * c)).2))), (3, .int (nI c))]) hx dX7_worst_26 hl (Nat.le_of_ble_eq_true rfl) rfl (fun ls hl => ?_)
        have L28_3 : ∀ (L28_3n : Nat) (f : Nat), (f ≤ tSC c) → tSC c - f < L28_3n → ∀ (H : Heap) (locs : List Loc), Wd X D A [(x, .inr (7, [.ref tx, .ref tr, .ref tb, .ref nw, .ref sp, .ref pa, .ref im, .ref ik, .ref no, .ref pr, .ref sg, .int (iI xfa)])), (tr, .inr (6, [.ref tb, .ref nw, .ref cf])), (cf, .inl (D.2.1, 10, .inl (nA (cfOf (shN nlost tSC tTV nNF tcu))))), (tb, .inr (0, [.int (nI thd.toNat), .int (nI tlo), .int (iI ((te : Int) - 1)), .int (nI thn.toNat), .int (nI tcu), .ref tsc, .ref tfg, .ref ttv, .ref tpr])), (tsc, .inl (D.2.1, 4, .inl (nA tSC))), (ttv, .inl (D.2.1, 10, .inl (nA tTV))), (nw, .inr (4, [.ref nnf, .int (nI nlost), .int (nI ncost), .int (nI ndr)])), (nnf, .inl (D.2.1, 24, .inl (nA nNF)))] H locs → ∀ ls : Array Slot, lv_has ls 6 [(0, .ref x), (1, .int (nI ((wfold (fun c9 f9 => cntTo (canS thn te (va_up (shN nlost tSC tTV nNF tcu) c9 (lz nlost c9 (seen tSC tTV nNF c9 (f9 : Int))))) tlo te) (okS nlost tcu tSC) (6 * c + f)).1))), (2, .int (iI ((wfold (fun c9 f9 => cntTo (canS thn te (va_up (shN nlost tSC tTV nNF tcu) c9 (lz nlost c9 (seen tSC tTV nNF c9 (f9 : Int))))) tlo te) (okS nlost tcu tSC) (6 * c + f)).2))), (3, .int (nI c)), (4, .int (nI f))] → Wx X 0 0 H locs 28 ls [] := by
          intro L28_3n
          induction L28_3n with
          | zero =>
            intro f h2 hm
            exact absurd hm (Nat.not_lt_zero _)
          | succ L28_3n ihL28_3 =>
            intro f h2 hm H locs hW ls hl
            have hwl := wfold_le (fun c9 f9 => cntTo (canS thn te (va_up (shN nlost tSC tTV nNF tcu) c9 (lz nlost c9 (seen tSC tTV nNF c9 (f9 : Int))))) tlo te) (okS nlost tcu tSC) (6 * c + f)
            have hct := cntTo_le (canS thn te (va_up (shN nlost tSC tTV nNF tcu) c (lz nlost c (seen tSC tTV nNF c (f : Int))))) tlo te
            refine x_iload hx dX7_worst_28 hl 4 rfl ?_
            refine x_aload_n hx dX7_worst_30 hl 0 rfl ?_
            refine x_get7 hx hW.1 0 rfl 2 (Nat.le_of_ble_eq_true rfl) wf_RX7_27 rfl dX7_worst_31 ?_
            refine x_get0 hx hW.1 3 rfl 5 (Nat.le_of_ble_eq_true rfl) wf_RX7_151 rfl dX7_worst_34 ?_
            refine x_iload_n hx dX7_worst_37 hl 3 rfl ?_
            have hj_38 : c < 4 := by omega
            refine x_iald (v := nI (tSC c)) hx hW.1 4 rfl hj_38 (by decide) (rfl) dX7_worst_38 ?_
            have b_4 := htSC c hj_38
            refine x_icmp_ge_N (a := f) (b := (tSC c)) (tgt := 88) hx dX7_worst_39 (by decide) (by omega) (by omega) (fun h_5 => ?_) (fun h_5 => ?_)
            · refine x_iinc (v := nI (c + 1)) (lv' := [(3, .int (nI (c + 1))), (0, .ref x), (1, .int (nI ((wfold (fun c9 f9 => cntTo (canS thn te (va_up (shN nlost tSC tTV nNF tcu) c9 (lz nlost c9 (seen tSC tTV nNF c9 (f9 : Int))))) tlo te) (okS nlost tcu tSC) (6 * c + f)).1))), (2, .int (iI ((wfold (fun c9 f9 => cntTo (canS thn te (va_up (shN nlost tSC tTV nNF tcu) c9 (lz nlost c9 (seen tSC tTV nNF c9 (f9 : Int))))) tlo te) (okS nlost tcu tSC) (6 * c + f)).2))), (4, .int (nI f))]) hx dX7_worst_88 hl 3 rfl (nI_addc c 1) (Nat.le_of_ble_eq_true rfl) rfl (fun ls hl => ?_)
              refine x_goto (tgt := 14) hx dX7_worst_91 (by decide) ?_
              have e_6 : ((wfold (fun c9 f9 => cntTo (canS thn te (va_up (shN nlost tSC tTV nNF tcu) c9 (lz nlost c9 (seen tSC tTV nNF c9 (f9 : Int))))) tlo te) (okS nlost tcu tSC) (6 * c + f)).1 : Nat) = (wfold (fun c9 f9 => cntTo (canS thn te (va_up (shN nlost tSC tTV nNF tcu) c9 (lz nlost c9 (seen tSC tTV nNF c9 (f9 : Int))))) tlo te) (okS nlost tcu tSC) (6 * (c + 1))).1 := by
                first | rfl | (rw [wfold_next (by omega) (by first | exact Or.inl (by assumption) | exact Or.inr (by assumption))]; done)
              have e_7 : ((wfold (fun c9 f9 => cntTo (canS thn te (va_up (shN nlost tSC tTV nNF tcu) c9 (lz nlost c9 (seen tSC tTV nNF c9 (f9 : Int))))) tlo te) (okS nlost tcu tSC) (6 * c + f)).2 : Int) = (wfold (fun c9 f9 => cntTo (canS thn te (va_up (shN nlost tSC tTV nNF tcu) c9 (lz nlost c9 (seen tSC tTV nNF c9 (f9 : Int))))) tlo te) (okS nlost tcu tSC) (6 * (c + 1))).2 := by
                first | rfl | (rw [wfold_next (by omega) (by first | exact Or.inl (by assumption) | exact Or.inr (by assumption))]; done)
              have e_8 : (c + 1 : Nat) = (c + 1) := by
                first | rfl | omega | (simp [*]; done) | (simp [*]; omega)
              exact ihL14_1 (c + 1) (by first | assumption | omega | (simp [*]; done)) (by omega) _ _ hW _ (lv_to (l := [(0, .ref x), (1, .int (nI ((wfold (fun c9 f9 => cntTo (canS thn te (va_up (shN nlost tSC tTV nNF tcu) c9 (lz nlost c9 (seen tSC tTV nNF c9 (f9 : Int))))) tlo te) (okS nlost tcu tSC) (6 * c + f)).1))), (2, .int (iI ((wfold (fun c9 f9 => cntTo (canS thn te (va_up (shN nlost tSC tTV nNF tcu) c9 (lz nlost c9 (seen tSC tTV nNF c9 (f9 : Int))))) tlo te) (okS nlost tcu tSC) (6 * c + f)).2))), (3, .int (nI (c + 1)))]) (l2 := [(0, .ref x), (1, .int (nI ((wfold (fun c9 f9 => cntTo (canS thn te (va_up (shN nlost tSC tTV nNF tcu) c9 (lz nlost c9 (seen tSC tTV nNF c9 (f9 : Int))))) tlo te) (okS nlost tcu tSC) (6 * (c + 1))).1))), (2, .int (iI ((wfold (fun c9 f9 => cntTo (canS thn te (va_up (shN nlost tSC tTV nNF tcu) c9 (lz nlost c9 (seen tSC tTV nNF c9 (f9 : Int))))) tlo te) (okS nlost tcu tSC) (6 * (c + 1))).2))), (3, .int (nI (c + 1)))]) (lv_sub hl [1, 2, 3, 0] rfl) (cE rfl (cE (congrArg (fun z => ((1, Value.int z) : Nat × Value)) (congrArg (fun z : Nat => nI z) e_6)) (cE (congrArg (fun z => ((2, Value.int z) : Nat × Value)) (congrArg (fun z : Int => iI z) e_7)) (cE (congrArg (fun z => ((3, Value.int z) : Nat × Value)) (congrArg (fun z : Nat => nI z) e_8)) rfl)))))
            · refine x_aload_n hx dX7_worst_42 hl 0 rfl ?_
              refine x_get7 hx hW.1 0 rfl 3 (Nat.le_of_ble_eq_true rfl) wf_RX7_34 rfl dX7_worst_43 ?_
              refine x_iload_n hx dX7_worst_46 hl 3 rfl ?_
              refine x_callRV (As := [.int (nI c)]) (rest := []) hx yv_X4_isLost (c_X4_isLost _ D nw nnf nlost ncost ndr c (by first | assumption | omega | (simp [*]; done)) (by first | assumption | omega | (simp [*]; done))) wm_RX7_183 hW.1 [6] rfl 6 rfl rfl ⟨rfl, rfl⟩ ⟨Nat.le_of_ble_eq_true rfl, Nat.le_of_ble_eq_true rfl⟩ ⟨Nat.zero_le _, Nat.zero_le _⟩ hl rfl rfl (Nat.le_of_ble_eq_true rfl) dX7_worst_47 ?_
              refine x_if_ne_B (tgt := 88) hx dX7_worst_50 (by decide) (fun h_9 => ?_) (fun h_9 => ?_)
              · refine x_iinc (v := nI (c + 1)) (lv' := [(3, .int (nI (c + 1))), (0, .ref x), (1, .int (nI ((wfold (fun c9 f9 => cntTo (canS thn te (va_up (shN nlost tSC tTV nNF tcu) c9 (lz nlost c9 (seen tSC tTV nNF c9 (f9 : Int))))) tlo te) (okS nlost tcu tSC) (6 * c + f)).1))), (2, .int (iI ((wfold (fun c9 f9 => cntTo (canS thn te (va_up (shN nlost tSC tTV nNF tcu) c9 (lz nlost c9 (seen tSC tTV nNF c9 (f9 : Int))))) tlo te) (okS nlost tcu tSC) (6 * c + f)).2))), (4, .int (nI f))]) hx dX7_worst_88 hl 3 rfl (nI_addc c 1) (Nat.le_of_ble_eq_true rfl) rfl (fun ls hl => ?_)
                refine x_goto (tgt := 14) hx dX7_worst_91 (by decide) ?_
                have e_10 : ((wfold (fun c9 f9 => cntTo (canS thn te (va_up (shN nlost tSC tTV nNF tcu) c9 (lz nlost c9 (seen tSC tTV nNF c9 (f9 : Int))))) tlo te) (okS nlost tcu tSC) (6 * c + f)).1 : Nat) = (wfold (fun c9 f9 => cntTo (canS thn te (va_up (shN nlost tSC tTV nNF tcu) c9 (lz nlost c9 (seen tSC tTV nNF c9 (f9 : Int))))) tlo te) (okS nlost tcu tSC) (6 * (c + 1))).1 := by
                  first | rfl | (rw [wfold_next (by omega) (by first | exact Or.inl (by assumption) | exact Or.inr (by assumption))]; done)
                have e_11 : ((wfold (fun c9 f9 => cntTo (canS thn te (va_up (shN nlost tSC tTV nNF tcu) c9 (lz nlost c9 (seen tSC tTV nNF c9 (f9 : Int))))) tlo te) (okS nlost tcu tSC) (6 * c + f)).2 : Int) = (wfold (fun c9 f9 => cntTo (canS thn te (va_up (shN nlost tSC tTV nNF tcu) c9 (lz nlost c9 (seen tSC tTV nNF c9 (f9 : Int))))) tlo te) (okS nlost tcu tSC) (6 * (c + 1))).2 := by
                  first | rfl | (rw [wfold_next (by omega) (by first | exact Or.inl (by assumption) | exact Or.inr (by assumption))]; done)
                have e_12 : (c + 1 : Nat) = (c + 1) := by
                  first | rfl | omega | (simp [*]; done) | (simp [*]; omega)
                exact ihL14_1 (c + 1) (by first | assumption | omega | (simp [*]; done)) (by omega) _ _ hW _ (lv_to (l := [(0, .ref x), (1, .int (nI ((wfold (fun c9 f9 => cntTo (canS thn te (va_up (shN nlost tSC tTV nNF tcu) c9 (lz nlost c9 (seen tSC tTV nNF c9 (f9 : Int))))) tlo te) (okS nlost tcu tSC) (6 * c + f)).1))), (2, .int (iI ((wfold (fun c9 f9 => cntTo (canS thn te (va_up (shN nlost tSC tTV nNF tcu) c9 (lz nlost c9 (seen tSC tTV nNF c9 (f9 : Int))))) tlo te) (okS nlost tcu tSC) (6 * c + f)).2))), (3, .int (nI (c + 1)))]) (l2 := [(0, .ref x), (1, .int (nI ((wfold (fun c9 f9 => cntTo (canS thn te (va_up (shN nlost tSC tTV nNF tcu) c9 (lz nlost c9 (seen tSC tTV nNF c9 (f9 : Int))))) tlo te) (okS nlost tcu tSC) (6 * (c + 1))).1))), (2, .int (iI ((wfold (fun c9 f9 => cntTo (canS thn te (va_up (shN nlost tSC tTV nNF tcu) c9 (lz nlost c9 (seen tSC tTV nNF c9 (f9 : Int))))) tlo te) (okS nlost tcu tSC) (6 * (c + 1))).2))), (3, .int (nI (c + 1)))]) (lv_sub hl [1, 2, 3, 0] rfl) (cE rfl (cE (congrArg (fun z => ((1, Value.int z) : Nat × Value)) (congrArg (fun z : Nat => nI z) e_10)) (cE (congrArg (fun z => ((2, Value.int z) : Nat × Value)) (congrArg (fun z : Int => iI z) e_11)) (cE (congrArg (fun z => ((3, Value.int z) : Nat × Value)) (congrArg (fun z : Nat => nI z) e_12)) rfl)))))
              · refine x_aload_n hx dX7_worst_53 hl 0 rfl ?_
                refine x_get7 hx hW.1 0 rfl 1 (Nat.le_of_ble_eq_true rfl) wf_RX7_19 rfl dX7_worst_54 ?_
                refine x_iload_n hx dX7_worst_57 hl 3 rfl ?_
                refine x_iload hx dX7_worst_58 hl 4 rfl ?_
                refine x_callMV (As := [.int (nI c), .int (nI f)]) (rest := []) (wr := [(x, .inr (7, [.ref tx, .ref tr, .ref tb, .ref nw, .ref sp, .ref pa, .ref im, .ref ik, .ref no, .ref pr, .ref sg, .int (iI xfa)]))]) hx yv_X6_countShownWithout (c_X6_countShownWithout _ D tr nw cf (shN nlost tSC tTV nNF tcu) tb thd tlo te thn tcu tsc tfg ttv tpr tSC tTV nnf nlost ncost ndr nNF c f (by first | assumption | omega | (simp [*]; done)) (by first | assumption | omega | (simp [*]; done)) (by first | assumption | omega | (simp [*]; done)) (by first | assumption | omega | (simp [*]; done)) (by first | assumption | omega | (simp [*]; done)) (by first | assumption | omega | (simp [*]; done)) (by first | assumption | omega | (simp [*]; done)) (by first | assumption | omega | (simp [*]; done)) (by first | assumption | omega | (simp [*]; done))) wm_RX7_229 hA hW [1, 2, 3, 4, 5, 6, 7] [0] rfl rfl rfl rfl rfl 1 rfl rfl ⟨rfl, rfl⟩ ⟨Nat.le_of_ble_eq_true rfl, Nat.le_of_ble_eq_true rfl⟩ ⟨Nat.zero_le _, Nat.zero_le _⟩ hl rfl rfl (Nat.le_of_ble_eq_true rfl) dX7_worst_60 [(x, .inr (7, [.ref tx, .ref tr, .ref tb, .ref nw, .ref sp, .ref pa, .ref im, .ref ik, .ref no, .ref pr, .ref sg, .int (iI xfa)])), (tr, .inr (6, [.ref tb, .ref nw, .ref cf])), (cf, .inl (D.2.1, 10, .inl (nA (cfOf (va_up (va_up (shN nlost tSC tTV nNF tcu) c (lz nlost c (seen tSC tTV nNF c (f : Int)))) c (lz nlost c (seen tSC tTV nNF c (-1)))))))), (tb, .inr (0, [.int (nI thd.toNat), .int (nI tlo), .int (iI ((te : Int) - 1)), .int (nI thn.toNat), .int (nI tcu), .ref tsc, .ref tfg, .ref ttv, .ref tpr])), (tsc, .inl (D.2.1, 4, .inl (nA tSC))), (ttv, .inl (D.2.1, 10, .inl (nA tTV))), (nw, .inr (4, [.ref nnf, .int (nI nlost), .int (nI ncost), .int (nI ndr)])), (nnf, .inl (D.2.1, 24, .inl (nA nNF)))] rfl (fun H locs hW => ?_)
                refine x_istore (lv' := [(5, .int (nI (cntTo (canS thn te (va_up (shN nlost tSC tTV nNF tcu) c (lz nlost c (seen tSC tTV nNF c (f : Int))))) tlo te))), (0, .ref x), (1, .int (nI ((wfold (fun c9 f9 => cntTo (canS thn te (va_up (shN nlost tSC tTV nNF tcu) c9 (lz nlost c9 (seen tSC tTV nNF c9 (f9 : Int))))) tlo te) (okS nlost tcu tSC) (6 * c + f)).1))), (2, .int (iI ((wfold (fun c9 f9 => cntTo (canS thn te (va_up (shN nlost tSC tTV nNF tcu) c9 (lz nlost c9 (seen tSC tTV nNF c9 (f9 : Int))))) tlo te) (okS nlost tcu tSC) (6 * c + f)).2))), (3, .int (nI c)), (4, .int (nI f))]) hx dX7_worst_63 hl (Nat.le_of_ble_eq_true rfl) rfl (fun ls hl => ?_)
                refine x_iload hx dX7_worst_65 hl 0 rfl ?_
                refine x_iload_n hx dX7_worst_67 hl 2 rfl ?_
                refine x_icmp_ge_N (a := (cntTo (canS thn te (va_up (shN nlost tSC tTV nNF tcu) c (lz nlost c (seen tSC tTV nNF c (f : Int))))) tlo te)) (b := ((wfold (fun c9 f9 => cntTo (canS thn te (va_up (shN nlost tSC tTV nNF tcu) c9 (lz nlost c9 (seen tSC tTV nNF c9 (f9 : Int))))) tlo te) (okS nlost tcu tSC) (6 * c + f)).1)) (tgt := 82) hx dX7_worst_68 (by decide) (by omega) (by omega) (fun h_13 => ?_) (fun h_13 => ?_)
                · refine x_iinc (v := nI (f + 1)) (lv' := [(4, .int (nI (f + 1))), (5, .int (nI (cntTo (canS thn te (va_up (shN nlost tSC tTV nNF tcu) c (lz nlost c (seen tSC tTV nNF c (f : Int))))) tlo te))), (0, .ref x), (1, .int (nI ((wfold (fun c9 f9 => cntTo (canS thn te (va_up (shN nlost tSC tTV nNF tcu) c9 (lz nlost c9 (seen tSC tTV nNF c9 (f9 : Int))))) tlo te) (okS nlost tcu tSC) (6 * c + f)).1))), (2, .int (iI ((wfold (fun c9 f9 => cntTo (canS thn te (va_up (shN nlost tSC tTV nNF tcu) c9 (lz nlost c9 (seen tSC tTV nNF c9 (f9 : Int))))) tlo te) (okS nlost tcu tSC) (6 * c + f)).2))), (3, .int (nI c))]) hx dX7_worst_82 hl 5 rfl (nI_addc f 1) (Nat.le_of_ble_eq_true rfl) rfl (fun ls hl => ?_)
                  refine x_goto (tgt := 28) hx dX7_worst_85 (by decide) ?_
                  have e_14 : ((wfold (fun c9 f9 => cntTo (canS thn te (va_up (shN nlost tSC tTV nNF tcu) c9 (lz nlost c9 (seen tSC tTV nNF c9 (f9 : Int))))) tlo te) (okS nlost tcu tSC) (6 * c + f)).1 : Nat) = (wfold (fun c9 f9 => cntTo (canS thn te (va_up (shN nlost tSC tTV nNF tcu) c9 (lz nlost c9 (seen tSC tTV nNF c9 (f9 : Int))))) tlo te) (okS nlost tcu tSC) (6 * c + (f + 1))).1 := by
                    first | rfl | exact congrArg (fun z : Nat × Int => iI z.2) (wfold_y (q := fun c9 f9 => cntTo (canS thn te (va_up (shN nlost tSC tTV nNF tcu) c9 (lz nlost c9 (seen tSC tTV nNF c9 (f9 : Int))))) tlo te) (lost := nlost) (cu := tcu) (SC := tSC) (c := c) (f := f) (by assumption) (by assumption) (by omega) (by assumption) (by assumption)) | exact congrArg Prod.fst (wfold_y (q := fun c9 f9 => cntTo (canS thn te (va_up (shN nlost tSC tTV nNF tcu) c9 (lz nlost c9 (seen tSC tTV nNF c9 (f9 : Int))))) tlo te) (lost := nlost) (cu := tcu) (SC := tSC) (c := c) (f := f) (by assumption) (by assumption) (by omega) (by assumption) (by assumption)) | exact congrArg Prod.fst (wfold_n (q := fun c9 f9 => cntTo (canS thn te (va_up (shN nlost tSC tTV nNF tcu) c9 (lz nlost c9 (seen tSC tTV nNF c9 (f9 : Int))))) tlo te) (lost := nlost) (cu := tcu) (SC := tSC) (c := c) (f := f) (by assumption) (by assumption) (by omega) (by assumption) (by assumption))
                  have e_15 : ((wfold (fun c9 f9 => cntTo (canS thn te (va_up (shN nlost tSC tTV nNF tcu) c9 (lz nlost c9 (seen tSC tTV nNF c9 (f9 : Int))))) tlo te) (okS nlost tcu tSC) (6 * c + f)).2 : Int) = (wfold (fun c9 f9 => cntTo (canS thn te (va_up (shN nlost tSC tTV nNF tcu) c9 (lz nlost c9 (seen tSC tTV nNF c9 (f9 : Int))))) tlo te) (okS nlost tcu tSC) (6 * c + (f + 1))).2 := by
                    first | rfl | exact congrArg (fun z : Nat × Int => iI z.2) (wfold_y (q := fun c9 f9 => cntTo (canS thn te (va_up (shN nlost tSC tTV nNF tcu) c9 (lz nlost c9 (seen tSC tTV nNF c9 (f9 : Int))))) tlo te) (lost := nlost) (cu := tcu) (SC := tSC) (c := c) (f := f) (by assumption) (by assumption) (by omega) (by assumption) (by assumption)) | exact congrArg Prod.snd (wfold_y (q := fun c9 f9 => cntTo (canS thn te (va_up (shN nlost tSC tTV nNF tcu) c9 (lz nlost c9 (seen tSC tTV nNF c9 (f9 : Int))))) tlo te) (lost := nlost) (cu := tcu) (SC := tSC) (c := c) (f := f) (by assumption) (by assumption) (by omega) (by assumption) (by assumption)) | exact congrArg Prod.snd (wfold_n (q := fun c9 f9 => cntTo (canS thn te (va_up (shN nlost tSC tTV nNF tcu) c9 (lz nlost c9 (seen tSC tTV nNF c9 (f9 : Int))))) tlo te) (lost := nlost) (cu := tcu) (SC := tSC) (c := c) (f := f) (by assumption) (by assumption) (by omega) (by assumption) (by assumption))
                  have e_16 : (f + 1 : Nat) = (f + 1) := by
                    first | rfl | omega | (simp [*]; done) | (simp [*]; omega)
                  have e_17 : ∀ k, k < 10 → (cfOf (va_up (va_up (shN nlost tSC tTV nNF tcu) c (lz nlost c (seen tSC tTV nNF c (f : Int)))) c (lz nlost c (seen tSC tTV nNF c (-1))))) k = (cfOf (shN nlost tSC tTV nNF tcu)) k := by
                    intro k hk
                    exact shN_back (by assumption) k
                  have hW : Wd X D A [(x, .inr (7, [.ref tx, .ref tr, .ref tb, .ref nw, .ref sp, .ref pa, .ref im, .ref ik, .ref no, .ref pr, .ref sg, .int (iI xfa)])), (tr, .inr (6, [.ref tb, .ref nw, .ref cf])), (cf, .inl (D.2.1, 10, .inl (nA (cfOf (shN nlost tSC tTV nNF tcu))))), (tb, .inr (0, [.int (nI thd.toNat), .int (nI tlo), .int (iI ((te : Int) - 1)), .int (nI thn.toNat), .int (nI tcu), .ref tsc, .ref tfg, .ref ttv, .ref tpr])), (tsc, .inl (D.2.1, 4, .inl (nA tSC))), (ttv, .inl (D.2.1, 10, .inl (nA tTV))), (nw, .inr (4, [.ref nnf, .int (nI nlost), .int (nI ncost), .int (nI ndr)])), (nnf, .inl (D.2.1, 24, .inl (nA nNF)))] _ _ := hW.row 2 rfl (fun j hj => congrArg (nI) (e_17 j hj)) rfl
                  exact ihL28_3 (f + 1) (by first | assumption | omega | (simp [*]; done)) (by omega) _ _ hW _ (lv_to (l := [(0, .ref x), (1, .int (nI ((wfold (fun c9 f9 => cntTo (canS thn te (va_up (shN nlost tSC tTV nNF tcu) c9 (lz nlost c9 (seen tSC tTV nNF c9 (f9 : Int))))) tlo te) (okS nlost tcu tSC) (6 * c + f)).1))), (2, .int (iI ((wfold (fun c9 f9 => cntTo (canS thn te (va_up (shN nlost tSC tTV nNF tcu) c9 (lz nlost c9 (seen tSC tTV nNF c9 (f9 : Int))))) tlo te) (okS nlost tcu tSC) (6 * c + f)).2))), (3, .int (nI c)), (4, .int (nI (f + 1)))]) (l2 := [(0, .ref x), (1, .int (nI ((wfold (fun c9 f9 => cntTo (canS thn te (va_up (shN nlost tSC tTV nNF tcu) c9 (lz nlost c9 (seen tSC tTV nNF c9 (f9 : Int))))) tlo te) (okS nlost tcu tSC) (6 * c + (f + 1))).1))), (2, .int (iI ((wfold (fun c9 f9 => cntTo (canS thn te (va_up (shN nlost tSC tTV nNF tcu) c9 (lz nlost c9 (seen tSC tTV nNF c9 (f9 : Int))))) tlo te) (okS nlost tcu tSC) (6 * c + (f + 1))).2))), (3, .int (nI c)), (4, .int (nI (f + 1)))]) (lv_sub hl [2, 3, 4, 5, 0] rfl) (cE rfl (cE (congrArg (fun z => ((1, Value.int z) : Nat × Value)) (congrArg (fun z : Nat => nI z) e_14)) (cE (congrArg (fun z => ((2, Value.int z) : Nat × Value)) (congrArg (fun z : Int => iI z) e_15)) (cE rfl (cE (congrArg (fun z => ((4, Value.int z) : Nat × Value)) (congrArg (fun z : Nat => nI z) e_16)) rfl))))))
                · refine x_iload hx dX7_worst_71 hl 0 rfl ?_
                  refine x_istore_n (lv' := [(1, .int (nI (cntTo (canS thn te (va_up (shN nlost tSC tTV nNF tcu) c (lz nlost c (seen tSC tTV nNF c (f : Int))))) tlo te))), (5, .int (nI (cntTo (canS thn te (va_up (shN nlost tSC tTV nNF tcu) c (lz nlost c (seen tSC tTV nNF c (f : Int))))) tlo te))), (0, .ref x), (2, .int (iI ((wfold (fun c9 f9 => cntTo (canS thn te (va_up (shN nlost tSC tTV nNF tcu) c9 (lz nlost c9 (seen tSC tTV nNF c9 (f9 : Int))))) tlo te) (okS nlost tcu tSC) (6 * c + f)).2))), (3, .int (nI c)), (4, .int (nI f))]) hx dX7_worst_73 hl (Nat.le_of_ble_eq_true rfl) rfl (fun ls hl => ?_)
                  refine x_bipush (v := nI 10) hx dX7_worst_74 (by decide) ?_
                  refine x_iload_n hx dX7_worst_76 hl 4 rfl ?_
                  refine x_imul (v := nI (10 * c)) hx dX7_worst_77 (pk_mul _ _) ?_
                  refine x_iload hx dX7_worst_78 hl 5 rfl ?_
                  refine x_iadd (v := nI (10 * c + f)) hx dX7_worst_80 (nI_add _ _) ?_
                  refine x_istore_n (lv' := [(2, .int (nI (10 * c + f))), (1, .int (nI (cntTo (canS thn te (va_up (shN nlost tSC tTV nNF tcu) c (lz nlost c (seen tSC tTV nNF c (f : Int))))) tlo te))), (5, .int (nI (cntTo (canS thn te (va_up (shN nlost tSC tTV nNF tcu) c (lz nlost c (seen tSC tTV nNF c (f : Int))))) tlo te))), (0, .ref x), (3, .int (nI c)), (4, .int (nI f))]) hx dX7_worst_81 hl (Nat.le_of_ble_eq_true rfl) rfl (fun ls hl => ?_)
                  refine x_iinc (v := nI (f + 1)) (lv' := [(4, .int (nI (f + 1))), (2, .int (nI (10 * c + f))), (1, .int (nI (cntTo (canS thn te (va_up (shN nlost tSC tTV nNF tcu) c (lz nlost c (seen tSC tTV nNF c (f : Int))))) tlo te))), (5, .int (nI (cntTo (canS thn te (va_up (shN nlost tSC tTV nNF tcu) c (lz nlost c (seen tSC tTV nNF c (f : Int))))) tlo te))), (0, .ref x), (3, .int (nI c))]) hx dX7_worst_82 hl 5 rfl (nI_addc f 1) (Nat.le_of_ble_eq_true rfl) rfl (fun ls hl => ?_)
                  refine x_goto (tgt := 28) hx dX7_worst_85 (by decide) ?_
                  have e_18 : (cntTo (canS thn te (va_up (shN nlost tSC tTV nNF tcu) c (lz nlost c (seen tSC tTV nNF c (f : Int))))) tlo te : Nat) = (wfold (fun c9 f9 => cntTo (canS thn te (va_up (shN nlost tSC tTV nNF tcu) c9 (lz nlost c9 (seen tSC tTV nNF c9 (f9 : Int))))) tlo te) (okS nlost tcu tSC) (6 * c + (f + 1))).1 := by
                    first | rfl | exact congrArg (fun z : Nat × Int => iI z.2) (wfold_y (q := fun c9 f9 => cntTo (canS thn te (va_up (shN nlost tSC tTV nNF tcu) c9 (lz nlost c9 (seen tSC tTV nNF c9 (f9 : Int))))) tlo te) (lost := nlost) (cu := tcu) (SC := tSC) (c := c) (f := f) (by assumption) (by assumption) (by omega) (by assumption) (by assumption)) | exact congrArg Prod.fst (wfold_y (q := fun c9 f9 => cntTo (canS thn te (va_up (shN nlost tSC tTV nNF tcu) c9 (lz nlost c9 (seen tSC tTV nNF c9 (f9 : Int))))) tlo te) (lost := nlost) (cu := tcu) (SC := tSC) (c := c) (f := f) (by assumption) (by assumption) (by omega) (by assumption) (by assumption)) | exact congrArg Prod.fst (wfold_n (q := fun c9 f9 => cntTo (canS thn te (va_up (shN nlost tSC tTV nNF tcu) c9 (lz nlost c9 (seen tSC tTV nNF c9 (f9 : Int))))) tlo te) (lost := nlost) (cu := tcu) (SC := tSC) (c := c) (f := f) (by assumption) (by assumption) (by omega) (by assumption) (by assumption))
                  have e_19 : nI (10 * c + f) = iI ((wfold (fun c9 f9 => cntTo (canS thn te (va_up (shN nlost tSC tTV nNF tcu) c9 (lz nlost c9 (seen tSC tTV nNF c9 (f9 : Int))))) tlo te) (okS nlost tcu tSC) (6 * c + (f + 1))).2) := by
                    first | rfl | exact congrArg (fun z : Nat × Int => iI z.2) (wfold_y (q := fun c9 f9 => cntTo (canS thn te (va_up (shN nlost tSC tTV nNF tcu) c9 (lz nlost c9 (seen tSC tTV nNF c9 (f9 : Int))))) tlo te) (lost := nlost) (cu := tcu) (SC := tSC) (c := c) (f := f) (by assumption) (by assumption) (by omega) (by assumption) (by assumption)) | exact congrArg Prod.snd (wfold_y (q := fun c9 f9 => cntTo (canS thn te (va_up (shN nlost tSC tTV nNF tcu) c9 (lz nlost c9 (seen tSC tTV nNF c9 (f9 : Int))))) tlo te) (lost := nlost) (cu := tcu) (SC := tSC) (c := c) (f := f) (by assumption) (by assumption) (by omega) (by assumption) (by assumption)) | exact congrArg Prod.snd (wfold_n (q := fun c9 f9 => cntTo (canS thn te (va_up (shN nlost tSC tTV nNF tcu) c9 (lz nlost c9 (seen tSC tTV nNF c9 (f9 : Int))))) tlo te) (lost := nlost) (cu := tcu) (SC := tSC) (c := c) (f := f) (by assumption) (by assumption) (by omega) (by assumption) (by assumption))
                  have e_20 : (f + 1 : Nat) = (f + 1) := by
                    first | rfl | omega | (simp [*]; done) | (simp [*]; omega)
                  have e_21 : ∀ k, k < 10 → (cfOf (va_up (va_up (shN nlost tSC tTV nNF tcu) c (lz nlost c (seen tSC tTV nNF c (f : Int)))) c (lz nlost c (seen tSC tTV nNF c (-1))))) k = (cfOf (shN nlost tSC tTV nNF tcu)) k := by
                    intro k hk
                    exact shN_back (by assumption) k
                  have hW : Wd X D A [(x, .inr (7, [.ref tx, .ref tr, .ref tb, .ref nw, .ref sp, .ref pa, .ref im, .ref ik, .ref no, .ref pr, .ref sg, .int (iI xfa)])), (tr, .inr (6, [.ref tb, .ref nw, .ref cf])), (cf, .inl (D.2.1, 10, .inl (nA (cfOf (shN nlost tSC tTV nNF tcu))))), (tb, .inr (0, [.int (nI thd.toNat), .int (nI tlo), .int (iI ((te : Int) - 1)), .int (nI thn.toNat), .int (nI tcu), .ref tsc, .ref tfg, .ref ttv, .ref tpr])), (tsc, .inl (D.2.1, 4, .inl (nA tSC))), (ttv, .inl (D.2.1, 10, .inl (nA tTV))), (nw, .inr (4, [.ref nnf, .int (nI nlost), .int (nI ncost), .int (nI ndr)])), (nnf, .inl (D.2.1, 24, .inl (nA nNF)))] _ _ := hW.row 2 rfl (fun j hj => congrArg (nI) (e_21 j hj)) rfl
                  exact ihL28_3 (f + 1) (by first | assumption | omega | (simp [*]; done)) (by omega) _ _ hW _ (lv_to (l := [(0, .ref x), (1, .int (nI (cntTo (canS thn te (va_up (shN nlost tSC tTV nNF tcu) c (lz nlost c (seen tSC tTV nNF c (f : Int))))) tlo te))), (2, .int (nI (10 * c + f))), (3, .int (nI c)), (4, .int (nI (f + 1)))]) (l2 := [(0, .ref x), (1, .int (nI ((wfold (fun c9 f9 => cntTo (canS thn te (va_up (shN nlost tSC tTV nNF tcu) c9 (lz nlost c9 (seen tSC tTV nNF c9 (f9 : Int))))) tlo te) (okS nlost tcu tSC) (6 * c + (f + 1))).1))), (2, .int (iI ((wfold (fun c9 f9 => cntTo (canS thn te (va_up (shN nlost tSC tTV nNF tcu) c9 (lz nlost c9 (seen tSC tTV nNF c9 (f9 : Int))))) tlo te) (okS nlost tcu tSC) (6 * c + (f + 1))).2))), (3, .int (nI c)), (4, .int (nI (f + 1)))]) (lv_sub hl [4, 2, 1, 5, 0] rfl) (cE rfl (cE (congrArg (fun z => ((1, Value.int z) : Nat × Value)) (congrArg (fun z : Nat => nI z) e_18)) (cE (congrArg (fun z => ((2, Value.int z) : Nat × Value)) (e_19)) (cE rfl (cE (congrArg (fun z => ((4, Value.int z) : Nat × Value)) (congrArg (fun z : Nat => nI z) e_20)) rfl))))))
        have e_22 : ((wfold (fun c9 f9 => cntTo (canS thn te (va_up (shN nlost tSC tTV nNF tcu) c9 (lz nlost c9 (seen tSC tTV nNF c9 (f9 : Int))))) tlo te) (okS nlost tcu tSC) (6 * c)).1 : Nat) = (wfold (fun c9 f9 => cntTo (canS thn te (va_up (shN nlost tSC tTV nNF tcu) c9 (lz nlost c9 (seen tSC tTV nNF c9 (f9 : Int))))) tlo te) (okS nlost tcu tSC) (6 * c + 0)).1 := by
          first | rfl | exact congrArg (fun z : Nat × Int => iI z.2) (wfold_y (q := fun c9 f9 => cntTo (canS thn te (va_up (shN nlost tSC tTV nNF tcu) c9 (lz nlost c9 (seen tSC tTV nNF c9 (f9 : Int))))) tlo te) (lost := nlost) (cu := tcu) (SC := tSC) (c := c) (f := f) (by assumption) (by assumption) (by omega) (by assumption) (by assumption)) | exact congrArg Prod.fst (wfold_y (q := fun c9 f9 => cntTo (canS thn te (va_up (shN nlost tSC tTV nNF tcu) c9 (lz nlost c9 (seen tSC tTV nNF c9 (f9 : Int))))) tlo te) (lost := nlost) (cu := tcu) (SC := tSC) (c := c) (f := f) (by assumption) (by assumption) (by omega) (by assumption) (by assumption)) | exact congrArg Prod.fst (wfold_n (q := fun c9 f9 => cntTo (canS thn te (va_up (shN nlost tSC tTV nNF tcu) c9 (lz nlost c9 (seen tSC tTV nNF c9 (f9 : Int))))) tlo te) (lost := nlost) (cu := tcu) (SC := tSC) (c := c) (f := f) (by assumption) (by assumption) (by omega) (by assumption) (by assumption))
        have e_23 : ((wfold (fun c9 f9 => cntTo (canS thn te (va_up (shN nlost tSC tTV nNF tcu) c9 (lz nlost c9 (seen tSC tTV nNF c9 (f9 : Int))))) tlo te) (okS nlost tcu tSC) (6 * c)).2 : Int) = (wfold (fun c9 f9 => cntTo (canS thn te (va_up (shN nlost tSC tTV nNF tcu) c9 (lz nlost c9 (seen tSC tTV nNF c9 (f9 : Int))))) tlo te) (okS nlost tcu tSC) (6 * c + 0)).2 := by
          first | rfl | exact congrArg (fun z : Nat × Int => iI z.2) (wfold_y (q := fun c9 f9 => cntTo (canS thn te (va_up (shN nlost tSC tTV nNF tcu) c9 (lz nlost c9 (seen tSC tTV nNF c9 (f9 : Int))))) tlo te) (lost := nlost) (cu := tcu) (SC := tSC) (c := c) (f := f) (by assumption) (by assumption) (by omega) (by assumption) (by assumption)) | exact congrArg Prod.snd (wfold_y (q := fun c9 f9 => cntTo (canS thn te (va_up (shN nlost tSC tTV nNF tcu) c9 (lz nlost c9 (seen tSC tTV nNF c9 (f9 : Int))))) tlo te) (lost := nlost) (cu := tcu) (SC := tSC) (c := c) (f := f) (by assumption) (by assumption) (by omega) (by assumption) (by assumption)) | exact congrArg Prod.snd (wfold_n (q := fun c9 f9 => cntTo (canS thn te (va_up (shN nlost tSC tTV nNF tcu) c9 (lz nlost c9 (seen tSC tTV nNF c9 (f9 : Int))))) tlo te) (lost := nlost) (cu := tcu) (SC := tSC) (c := c) (f := f) (by assumption) (by assumption) (by omega) (by assumption) (by assumption))
        exact L28_3 (tSC c - 0 + 1) 0 (by first | assumption | omega | (simp [*]; done)) (Nat.lt_succ_self _) _ _ hW _ (lv_to (l := [(0, .ref x), (1, .int (nI ((wfold (fun c9 f9 => cntTo (canS thn te (va_up (shN nlost tSC tTV nNF tcu) c9 (lz nlost c9 (seen tSC tTV nNF c9 (f9 : Int))))) tlo te) (okS nlost tcu tSC) (6 * c)).1))), (2, .int (iI ((wfold (fun c9 f9 => cntTo (canS thn te (va_up (shN nlost tSC tTV nNF tcu) c9 (lz nlost c9 (seen tSC tTV nNF c9 (f9 : Int))))) tlo te) (okS nlost tcu tSC) (6 * c)).2))), (3, .int (nI c)), (4, .int (nI 0))]) (l2 := [(0, .ref x), (1, .int (nI ((wfold (fun c9 f9 => cntTo (canS thn te (va_up (shN nlost tSC tTV nNF tcu) c9 (lz nlost c9 (seen tSC tTV nNF c9 (f9 : Int))))) tlo te) (okS nlost tcu tSC) (6 * c + 0)).1))), (2, .int (iI ((wfold (fun c9 f9 => cntTo (canS thn te (va_up (shN nlost tSC tTV nNF tcu) c9 (lz nlost c9 (seen tSC tTV nNF c9 (f9 : Int))))) tlo te) (okS nlost tcu tSC) (6 * c + 0)).2))), (3, .int (nI c)), (4, .int (nI 0))]) (lv_sub hl [1, 2, 3, 4, 0] rfl) (cE rfl (cE (congrArg (fun z => ((1, Value.int z) : Nat × Value)) (congrArg (fun z : Nat => nI z) e_22)) (cE (congrArg (fun z => ((2, Value.int z) : Nat × Value)) (congrArg (fun z : Int => iI z) e_23)) (cE rfl (cE rfl rfl))))))
  have e_24 : (101 : Nat) = (wfold (fun c9 f9 => cntTo (canS thn te (va_up (shN nlost tSC tTV nNF tcu) c9 (lz nlost c9 (seen tSC tTV nNF c9 (f9 : Int))))) tlo te) (okS nlost tcu tSC) (6 * 0)).1 := by
    first | rfl | (rw [wfold_next (by omega) (by first | exact Or.inl (by assumption) | exact Or.inr (by assumption))]; done)
  have e_25 : ((-1) : Int) = (wfold (fun c9 f9 => cntTo (canS thn te (va_up (shN nlost tSC tTV nNF tcu) c9 (lz nlost c9 (seen tSC tTV nNF c9 (f9 : Int))))) tlo te) (okS nlost tcu tSC) (6 * 0)).2 := by
    first | rfl | (rw [wfold_next (by omega) (by first | exact Or.inl (by assumption) | exact Or.inr (by assumption))]; done)
  exact L14_1 (tcu - 0 + 1) 0 (by first | assumption | omega | (simp [*]; done)) (Nat.lt_succ_self _) _ _ hW _ (lv_to (l := [(0, .ref x), (1, .int (nI 101)), (2, .int (iI (-1))), (3, .int (nI 0))]) (l2 := [(0, .ref x), (1, .int (nI ((wfold (fun c9 f9 => cntTo (canS thn te (va_up (shN nlost tSC tTV nNF tcu) c9 (lz nlost c9 (seen tSC tTV nNF c9 (f9 : Int))))) tlo te) (okS nlost tcu tSC) (6 * 0)).1))), (2, .int (iI ((wfold (fun c9 f9 => cntTo (canS thn te (va_up (shN nlost tSC tTV nNF tcu) c9 (lz nlost c9 (seen tSC tTV nNF c9 (f9 : Int))))) tlo te) (okS nlost tcu tSC) (6 * 0)).2))), (3, .int (nI 0))]) (lv_sub hl [3, 2, 1, 0] rfl) (cE rfl (cE (congrArg (fun z => ((1, Value.int z) : Nat × Value)) (congrArg (fun z : Nat => nI z) e_24)) (cE (congrArg (fun z => ((2, Value.int z) : Nat × Value)) (congrArg (fun z : Int => iI z) e_25)) (cE rfl rfl)))))
set_option maxHeartbeats 4000000 in
set_option maxRecDepth 100000 in
theorem c_X7_instead_no (l : Launch) (D : KD) (x : Nat) (tx : Nat) (tr : Nat) (tb : Nat) (nw : Nat) (sp : Nat) (pa : Nat) (im : Nat) (ik : Nat) (no : Nat) (pr : Nat) (sg : Nat) (xfa : Int) (thd : Bool) (tlo : Nat) (te : Nat) (thn : Bool) (tcu : Nat) (tsc : Nat) (tfg : Nat) (ttv : Nat) (tpr : Nat) (tSC : Nat → Nat) (z : Int) (w : Int) (htSC : ∀ k, k < 4 → tSC k < 7) (hcu : tcu ≤ 4) (hz : -2147483648 ≤ z ∧ z < 2147483648) (hw : -2147483648 ≤ w ∧ w < 2147483648) (hno : ¬ ((0 ≤ z ∧ z < (tcu : Int)) ∧ 0 ≤ w ∧ w < (tSC z.toNat : Int))) : cR l yX7_instead cX7_instead 7 (some .int) rm_X7_instead D [(x, .inr (7, [.ref tx, .ref tr, .ref tb, .ref nw, .ref sp, .ref pa, .ref im, .ref ik, .ref no, .ref pr, .ref sg, .int (iI xfa)])), (tb, .inr (0, [.int (nI thd.toNat), .int (nI tlo), .int (iI ((te : Int) - 1)), .int (nI thn.toNat), .int (nI tcu), .ref tsc, .ref tfg, .ref ttv, .ref tpr])), (tsc, .inl (D.2.1, 4, .inl (nA tSC)))] [.ref x, .int (iI z), .int (iI w)] (iI (if 0 ≤ z ∧ z < (tcu : Int) then -1000000002 else -1000000001)) := by
  refine cR.mk (by decide) (retI _) (Nat.le_of_ble_eq_true rfl) ?_
  intro X hx hL hP hret ls hl
  subst hL
  have hl : lv_has ls 7 [(0, .ref x), (1, .int (iI z)), (2, .int (iI w))] := hl
  refine x_aload_n hx dX7_instead_0 hl 0 rfl ?_
  refine x_get7 hx hP 0 rfl 2 (Nat.le_of_ble_eq_true rfl) wf_RX7_27 rfl dX7_instead_1 ?_
  refine x_iload_n hx dX7_instead_4 hl 1 rfl ?_
  refine x_callRV (As := [.int (iI z)]) (rest := []) hx yv_X0_hasCube (c_X0_hasCube _ D tb thd tlo te thn tcu tsc tfg ttv tpr z (by first | assumption | omega | (simp [*]; done)) (by first | assumption | omega | (simp [*]; done))) wm_RX7_146 hP [1] rfl 1 rfl rfl ⟨rfl, rfl⟩ ⟨Nat.le_of_ble_eq_true rfl, Nat.le_of_ble_eq_true rfl⟩ ⟨Nat.zero_le _, Nat.zero_le _⟩ hl rfl rfl (Nat.le_of_ble_eq_true rfl) dX7_instead_5 ?_
  refine x_if_ne_B (tgt := 14) hx dX7_instead_8 (by decide) (fun h_1 => ?_) (fun h_1 => ?_)
  · have hd_2 := of_decide_eq_true h_1
    refine x_aload_n hx dX7_instead_14 hl 0 rfl ?_
    refine x_get7 hx hP 0 rfl 2 (Nat.le_of_ble_eq_true rfl) wf_RX7_27 rfl dX7_instead_15 ?_
    refine x_iload_n hx dX7_instead_18 hl 1 rfl ?_
    refine x_iload_n hx dX7_instead_19 hl 2 rfl ?_
    refine x_callRV (As := [.int (iI z), .int (iI w)]) (rest := []) hx yv_X0_hasSide (c_X0_hasSide _ D tb thd tlo te thn tcu tsc tfg ttv tpr tSC z w (by first | assumption | omega | (simp [*]; done)) (by first | assumption | omega | (simp [*]; done)) (by first | assumption | omega | (simp [*]; done)) (by first | assumption | omega | (simp [*]; done))) wm_RX7_154 hP [1, 2] rfl 1 rfl rfl ⟨rfl, rfl⟩ ⟨Nat.le_of_ble_eq_true rfl, Nat.le_of_ble_eq_true rfl⟩ ⟨Nat.zero_le _, Nat.zero_le _⟩ hl rfl rfl (Nat.le_of_ble_eq_true rfl) dX7_instead_20 ?_
    refine x_if_ne_B (tgt := 29) hx dX7_instead_23 (by decide) (fun h_3 => ?_) (fun h_3 => ?_)
    · simp only [sideB, decide_eq_true_eq, decide_eq_false_iff_not, Int.toNat_natCast] at h_3
      omega
    · simp only [sideB, decide_eq_true_eq, decide_eq_false_iff_not, Int.toNat_natCast] at h_3
      refine x_ldc (u := iI (-1000000002)) hx wk_RX7_83 (by decide) dX7_instead_26 ?_
      exact hret _ _ _ dX7_instead_28 (by congr 1; first | (rw [if_pos (by omega)]; done) | (rw [if_neg (by omega)]; done))
  · have hd_4 := of_decide_eq_false h_1
    refine x_ldc (u := iI (-1000000001)) hx wk_RX7_150 (by decide) dX7_instead_11 ?_
    exact hret _ _ _ dX7_instead_13 (by congr 1; first | (rw [if_pos (by omega)]; done) | (rw [if_neg (by omega)]; done))
/-- the figure that makes most days shown: (found, top) after the first j -/
def insS (q PR : Nat → Nat) : Nat → Nat × Int
  | 0 => (0, -1)
  | j + 1 => if (insS q PR j).2 < (q j : Int) ∨ ((q j : Int) = (insS q PR j).2 ∧ PR j < PR (insS q PR j).1) then (j, (q j : Int)) else insS q PR j
theorem insS_y {q PR : Nat → Nat} {j fo v : Nat} {tp : Int} (e1 : (insS q PR j).1 = fo) (e2 : (insS q PR j).2 = tp) (ev : v = q j) (h : tp < (v : Int) ∨ ((v : Int) = tp ∧ PR j < PR fo)) : (j, (v : Int)) = insS q PR (j + 1) := by
  subst ev e1 e2
  rw [insS, if_pos h]
theorem insS_n {q PR : Nat → Nat} {j fo v : Nat} {tp : Int} (e1 : (insS q PR j).1 = fo) (e2 : (insS q PR j).2 = tp) (ev : v = q j) (h : ¬ (tp < (v : Int) ∨ ((v : Int) = tp ∧ PR j < PR fo))) : (fo, tp) = insS q PR (j + 1) := by
  subst ev e1 e2
  rw [insS, if_neg h]
theorem insS_rng (q PR : Nat → Nat) (hq : ∀ i, q i ≤ 100) : ∀ j, j ≤ 10 → (insS q PR j).1 < 10 ∧ -1 ≤ (insS q PR j).2 ∧ (insS q PR j).2 ≤ 100
  | 0, _ => by simp [insS]
  | j + 1, h => by
    have ih := insS_rng q PR hq j (by omega)
    have := hq j
    simp only [insS]
    split
    · simp only; omega
    · exact ih
theorem va_up2 {α : Type} (f : Nat → α) (k : Nat) (v w : α) (i : Nat) : va_up (va_up f k v) k w i = va_up f k w i := by
  by_cases h : i = k <;> simp [va_up, h]
set_option maxHeartbeats 4000000 in
set_option maxRecDepth 100000 in
theorem c_X7_instead (l : Launch) (D : KD) (x : Nat) (tx : Nat) (tr : Nat) (tb : Nat) (nw : Nat) (sp : Nat) (pa : Nat) (im : Nat) (ik : Nat) (no : Nat) (pr : Nat) (sg : Nat) (xfa : Int) (cf : Nat) (CF : Nat → Nat) (thd : Bool) (tlo : Nat) (te : Nat) (thn : Bool) (tcu : Nat) (tsc : Nat) (tfg : Nat) (ttv : Nat) (tpr : Nat) (tSC : Nat → Nat) (tTV : Nat → Nat) (tPR : Nat → Nat) (nnf : Nat) (nlost : Nat) (ncost : Nat) (ndr : Nat) (nNF : Nat → Nat) (c : Nat) (f : Nat) (htSC : ∀ k, k < 4 → tSC k < 7) (htTV : ∀ k, k < 10 → tTV k < 10) (htPR : ∀ k, k < 10 → tPR k < 100) (hnNF : ∀ k, k < 24 → nNF k < 10) (hlo : nlost < 16) (hcu : tcu ≤ 4) (hle : tlo ≤ te) (he : te ≤ 100) (hc : c < tcu) (hf : f < tSC c) : cM l yX7_instead cX7_instead 7 (some .int) rm_X7_instead D [(x, .inr (7, [.ref tx, .ref tr, .ref tb, .ref nw, .ref sp, .ref pa, .ref im, .ref ik, .ref no, .ref pr, .ref sg, .int (iI xfa)])), (tr, .inr (6, [.ref tb, .ref nw, .ref cf])), (cf, .inl (D.2.1, 10, .inl (nA CF))), (tb, .inr (0, [.int (nI thd.toNat), .int (nI tlo), .int (iI ((te : Int) - 1)), .int (nI thn.toNat), .int (nI tcu), .ref tsc, .ref tfg, .ref ttv, .ref tpr])), (tsc, .inl (D.2.1, 4, .inl (nA tSC))), (ttv, .inl (D.2.1, 10, .inl (nA tTV))), (tpr, .inl (D.2.1, 10, .inl (nA tPR))), (nw, .inr (4, [.ref nnf, .int (nI nlost), .int (nI ncost), .int (nI ndr)])), (nnf, .inl (D.2.1, 24, .inl (nA nNF)))] [.ref x, .int (nI c), .int (nI f)] (nI ((insS (fun g9 => cntTo (canS thn te (va_up (shN nlost tSC tTV nNF tcu) c (lz nlost c (seen tSC tTV nNF c (f : Int) ||| both tTV g9)))) tlo te) tPR 10).1)) [(x, .inr (7, [.ref tx, .ref tr, .ref tb, .ref nw, .ref sp, .ref pa, .ref im, .ref ik, .ref no, .ref pr, .ref sg, .int (iI xfa)])), (tr, .inr (6, [.ref tb, .ref nw, .ref cf])), (cf, .inl (D.2.1, 10, .inl (nA (cfOf (va_up (shN nlost tSC tTV nNF tcu) c (lz nlost c (seen tSC tTV nNF c (f : Int) ||| both tTV 9))))))), (tb, .inr (0, [.int (nI thd.toNat), .int (nI tlo), .int (iI ((te : Int) - 1)), .int (nI thn.toNat), .int (nI tcu), .ref tsc, .ref tfg, .ref ttv, .ref tpr])), (tsc, .inl (D.2.1, 4, .inl (nA tSC))), (ttv, .inl (D.2.1, 10, .inl (nA tTV))), (tpr, .inl (D.2.1, 10, .inl (nA tPR))), (nw, .inr (4, [.ref nnf, .int (nI nlost), .int (nI ncost), .int (nI ndr)])), (nnf, .inl (D.2.1, 24, .inl (nA nNF)))] := by
  refine cM.mk (by decide) (retI _) (Nat.le_of_ble_eq_true rfl) ?_
  intro X A hx hL hA hW hret ls hl
  subst hL
  have hl : lv_has ls 7 [(0, .ref x), (1, .int (nI c)), (2, .int (nI f))] := hl
  have hsc := htSC c (by omega)
  refine x_aload_n hx dX7_instead_0 hl 0 rfl ?_
  refine x_get7 hx hW.1 0 rfl 2 (Nat.le_of_ble_eq_true rfl) wf_RX7_27 rfl dX7_instead_1 ?_
  refine x_iload_n hx dX7_instead_4 hl 1 rfl ?_
  refine x_callRV (As := [.int (nI c)]) (rest := []) hx yv_X0_hasCube (c_X0_hasCube _ D tb thd tlo te thn tcu tsc tfg ttv tpr (c : Int) (by first | assumption | omega | (simp [*]; done)) (by first | assumption | omega | (simp [*]; done))) wm_RX7_146 hW.1 [3] rfl 3 rfl rfl ⟨rfl, rfl⟩ ⟨Nat.le_of_ble_eq_true rfl, Nat.le_of_ble_eq_true rfl⟩ ⟨Nat.zero_le _, Nat.zero_le _⟩ hl rfl rfl (Nat.le_of_ble_eq_true rfl) dX7_instead_5 ?_
  refine x_if_ne_B (tgt := 14) hx dX7_instead_8 (by decide) (fun h_1 => ?_) (fun h_1 => ?_)
  · have hd_2 := of_decide_eq_true h_1
    refine x_aload_n hx dX7_instead_14 hl 0 rfl ?_
    refine x_get7 hx hW.1 0 rfl 2 (Nat.le_of_ble_eq_true rfl) wf_RX7_27 rfl dX7_instead_15 ?_
    refine x_iload_n hx dX7_instead_18 hl 1 rfl ?_
    refine x_iload_n hx dX7_instead_19 hl 2 rfl ?_
    refine x_callRV (As := [.int (nI c), .int (nI f)]) (rest := []) hx yv_X0_hasSide (c_X0_hasSide _ D tb thd tlo te thn tcu tsc tfg ttv tpr tSC (c : Int) (f : Int) (by first | assumption | omega | (simp [*]; done)) (by first | assumption | omega | (simp [*]; done)) (by first | assumption | omega | (simp [*]; done)) (by first | assumption | omega | (simp [*]; done))) wm_RX7_154 hW.1 [3, 4] rfl 3 rfl rfl ⟨rfl, rfl⟩ ⟨Nat.le_of_ble_eq_true rfl, Nat.le_of_ble_eq_true rfl⟩ ⟨Nat.zero_le _, Nat.zero_le _⟩ hl rfl rfl (Nat.le_of_ble_eq_true rfl) dX7_instead_20 ?_
    refine x_if_ne_B (tgt := 29) hx dX7_instead_23 (by decide) (fun h_3 => ?_) (fun h_3 => ?_)
    · simp only [sideB, decide_eq_true_eq, decide_eq_false_iff_not, Int.toNat_natCast] at h_3
      refine x_aload_n hx dX7_instead_29 hl 0 rfl ?_
      refine x_get7 hx hW.1 0 rfl 1 (Nat.le_of_ble_eq_true rfl) wf_RX7_19 rfl dX7_instead_30 ?_
      refine x_callVV (As := []) (rest := []) (wr := [(x, .inr (7, [.ref tx, .ref tr, .ref tb, .ref nw, .ref sp, .ref pa, .ref im, .ref ik, .ref no, .ref pr, .ref sg, .int (iI xfa)])), (tpr, .inl (D.2.1, 10, .inl (nA tPR)))]) hx yv_X6_begin (c_X6_begin _ D tr nw cf CF tb thd tlo te thn tcu tsc tfg ttv tpr tSC tTV nnf nlost ncost ndr nNF (by first | assumption | omega | (simp [*]; done)) (by first | assumption | omega | (simp [*]; done)) (by first | assumption | omega | (simp [*]; done)) (by first | assumption | omega | (simp [*]; done)) (by first | assumption | omega | (simp [*]; done))) wm_RX7_198 hA hW [1, 2, 3, 4, 5, 7, 8] [0, 6] rfl rfl rfl rfl rfl 1 rfl rfl ⟨rfl, rfl⟩ ⟨Nat.le_of_ble_eq_true rfl, Nat.le_of_ble_eq_true rfl⟩ ⟨Nat.zero_le _, Nat.zero_le _⟩ hl rfl rfl (Nat.le_of_ble_eq_true rfl) dX7_instead_33 [(x, .inr (7, [.ref tx, .ref tr, .ref tb, .ref nw, .ref sp, .ref pa, .ref im, .ref ik, .ref no, .ref pr, .ref sg, .int (iI xfa)])), (tpr, .inl (D.2.1, 10, .inl (nA tPR))), (tr, .inr (6, [.ref tb, .ref nw, .ref cf])), (cf, .inl (D.2.1, 10, .inl (nA (cfOf (shN nlost tSC tTV nNF tcu))))), (tb, .inr (0, [.int (nI thd.toNat), .int (nI tlo), .int (iI ((te : Int) - 1)), .int (nI thn.toNat), .int (nI tcu), .ref tsc, .ref tfg, .ref ttv, .ref tpr])), (tsc, .inl (D.2.1, 4, .inl (nA tSC))), (ttv, .inl (D.2.1, 10, .inl (nA tTV))), (nw, .inr (4, [.ref nnf, .int (nI nlost), .int (nI ncost), .int (nI ndr)])), (nnf, .inl (D.2.1, 24, .inl (nA nNF)))] rfl (fun H locs hW => ?_)
      refine x_iconst (v := nI 0) hx dX7_instead_36 (by decide) ?_
      refine x_istore_n (lv' := [(3, .int (nI 0)), (0, .ref x), (1, .int (nI c)), (2, .int (nI f))]) hx dX7_instead_37 hl (Nat.le_of_ble_eq_true rfl) rfl (fun ls hl => ?_)
      refine x_iconst (v := iI (-1)) hx dX7_instead_38 (by decide) ?_
      refine x_istore (lv' := [(4, .int (iI (-1))), (3, .int (nI 0)), (0, .ref x), (1, .int (nI c)), (2, .int (nI f))]) hx dX7_instead_39 hl (Nat.le_of_ble_eq_true rfl) rfl (fun ls hl => ?_)
      refine x_iconst (v := nI 0) hx dX7_instead_41 (by decide) ?_
      refine x_istore (lv' := [(5, .int (nI 0)), (4, .int (iI (-1))), (3, .int (nI 0)), (0, .ref x), (1, .int (nI c)), (2, .int (nI f))]) hx dX7_instead_42 hl (Nat.le_of_ble_eq_true rfl) rfl (fun ls hl => ?_)
      have L44_4 : ∀ (L44_4n : Nat) (j : Nat) (sh : Nat → Nat) (fo : Nat) (tp : Int), (j ≤ 10) → (∀ i, ¬ i = c → sh i = (shN nlost tSC tTV nNF tcu) i) → (0 < j → ∀ i, sh i = (va_up (shN nlost tSC tTV nNF tcu) c (lz nlost c (seen tSC tTV nNF c (f : Int) ||| both tTV (j - 1)))) i) → ((fo, tp) = insS (fun g9 => cntTo (canS thn te (va_up (shN nlost tSC tTV nNF tcu) c (lz nlost c (seen tSC tTV nNF c (f : Int) ||| both tTV g9)))) tlo te) tPR j) → 10 - j < L44_4n → ∀ (H : Heap) (locs : List Loc), Wd X D A [(x, .inr (7, [.ref tx, .ref tr, .ref tb, .ref nw, .ref sp, .ref pa, .ref im, .ref ik, .ref no, .ref pr, .ref sg, .int (iI xfa)])), (tpr, .inl (D.2.1, 10, .inl (nA tPR))), (tr, .inr (6, [.ref tb, .ref nw, .ref cf])), (cf, .inl (D.2.1, 10, .inl (nA (cfOf sh)))), (tb, .inr (0, [.int (nI thd.toNat), .int (nI tlo), .int (iI ((te : Int) - 1)), .int (nI thn.toNat), .int (nI tcu), .ref tsc, .ref tfg, .ref ttv, .ref tpr])), (tsc, .inl (D.2.1, 4, .inl (nA tSC))), (ttv, .inl (D.2.1, 10, .inl (nA tTV))), (nw, .inr (4, [.ref nnf, .int (nI nlost), .int (nI ncost), .int (nI ndr)])), (nnf, .inl (D.2.1, 24, .inl (nA nNF)))] H locs → ∀ ls : Array Slot, lv_has ls 7 [(0, .ref x), (1, .int (nI c)), (2, .int (nI f)), (3, .int (nI fo)), (4, .int (iI tp)), (5, .int (nI j))] → Wx X 0 0 H locs 44 ls [] := by
        intro L44_4n
        induction L44_4n with
        | zero =>
          intro j sh fo tp h1 h2 h3 hfo hm
          exact absurd hm (Nat.not_lt_zero _)
        | succ L44_4n ihL44_4 =>
          intro j sh fo tp h1 h2 h3 hfo hm H locs hW ls hl
          have hrg := insS_rng (fun g9 => cntTo (canS thn te (va_up (shN nlost tSC tTV nNF tcu) c (lz nlost c (seen tSC tTV nNF c (f : Int) ||| both tTV g9)))) tlo te) tPR (fun i => Nat.le_trans (cntTo_le _ tlo te) (by omega)) j h1
          rw [← hfo] at hrg
          have hrg1 : fo < 10 := hrg.1
          have hrg2 : -1 ≤ tp ∧ tp ≤ 100 := hrg.2
          have hcg : ∀ i, va_up sh c (lz nlost c (seen tSC tTV nNF c (f : Int) ||| both tTV j)) i = (va_up (shN nlost tSC tTV nNF tcu) c (lz nlost c (seen tSC tTV nNF c (f : Int) ||| both tTV j))) i := by
            intro i
            by_cases hi : i = c
            · simp [va_up, hi]
            · simp [va_up, hi, h2 i hi]
          have hce : cntTo (canS thn te (va_up sh c (lz nlost c (seen tSC tTV nNF c (f : Int) ||| both tTV j)))) tlo te = (fun g9 => cntTo (canS thn te (va_up (shN nlost tSC tTV nNF tcu) c (lz nlost c (seen tSC tTV nNF c (f : Int) ||| both tTV g9)))) tlo te) j := by
            show _ = cntTo _ tlo te
            congr 1
            funext d
            exact canS_cong (fun i _ => hcg i) thn te d
          have hct := cntTo_le (canS thn te (va_up sh c (lz nlost c (seen tSC tTV nNF c (f : Int) ||| both tTV j)))) tlo te
          have hfo1 : (insS (fun g9 => cntTo (canS thn te (va_up (shN nlost tSC tTV nNF tcu) c (lz nlost c (seen tSC tTV nNF c (f : Int) ||| both tTV g9)))) tlo te) tPR j).1 = fo := by rw [← hfo]
          have hfo2 : (insS (fun g9 => cntTo (canS thn te (va_up (shN nlost tSC tTV nNF tcu) c (lz nlost c (seen tSC tTV nNF c (f : Int) ||| both tTV g9)))) tlo te) tPR j).2 = tp := by rw [← hfo]
          refine x_iload hx dX7_instead_44 hl 5 rfl ?_
          refine x_bipush (v := nI 10) hx dX7_instead_46 (by decide) ?_
          refine x_icmp_ge_N (a := j) (b := 10) (tgt := 120) hx dX7_instead_48 (by decide) (by omega) (by omega) (fun h_5 => ?_) (fun h_5 => ?_)
          · refine x_iload_n hx dX7_instead_120 hl 3 rfl ?_
            have e_6 : ∀ k, k < 10 → (cfOf sh) k = (cfOf (va_up (shN nlost tSC tTV nNF tcu) c (lz nlost c (seen tSC tTV nNF c (f : Int) ||| both tTV 9)))) k := by
              intro k hk
              exact cfOf_cong (fun i _ => by rw [h3 (by omega) i, show j - 1 = 9 by omega]) k
            have hW : Wd X D A [(x, .inr (7, [.ref tx, .ref tr, .ref tb, .ref nw, .ref sp, .ref pa, .ref im, .ref ik, .ref no, .ref pr, .ref sg, .int (iI xfa)])), (tpr, .inl (D.2.1, 10, .inl (nA tPR))), (tr, .inr (6, [.ref tb, .ref nw, .ref cf])), (cf, .inl (D.2.1, 10, .inl (nA (cfOf (va_up (shN nlost tSC tTV nNF tcu) c (lz nlost c (seen tSC tTV nNF c (f : Int) ||| both tTV 9))))))), (tb, .inr (0, [.int (nI thd.toNat), .int (nI tlo), .int (iI ((te : Int) - 1)), .int (nI thn.toNat), .int (nI tcu), .ref tsc, .ref tfg, .ref ttv, .ref tpr])), (tsc, .inl (D.2.1, 4, .inl (nA tSC))), (ttv, .inl (D.2.1, 10, .inl (nA tTV))), (nw, .inr (4, [.ref nnf, .int (nI nlost), .int (nI ncost), .int (nI ndr)])), (nnf, .inl (D.2.1, 24, .inl (nA nNF)))] _ _ := hW.row 3 rfl (fun j hj => congrArg (nI) (e_6 j hj)) rfl
            exact hret _ _ _ _ _ dX7_instead_121 (by rw [← hfo1, show j = 10 by omega]) (hW.conv [0, 2, 3, 4, 5, 6, 1, 7, 8] (w1 := [(x, .inr (7, [.ref tx, .ref tr, .ref tb, .ref nw, .ref sp, .ref pa, .ref im, .ref ik, .ref no, .ref pr, .ref sg, .int (iI xfa)])), (tr, .inr (6, [.ref tb, .ref nw, .ref cf])), (cf, .inl (D.2.1, 10, .inl (nA (cfOf (va_up (shN nlost tSC tTV nNF tcu) c (lz nlost c (seen tSC tTV nNF c (f : Int) ||| both tTV 9))))))), (tb, .inr (0, [.int (nI thd.toNat), .int (nI tlo), .int (iI ((te : Int) - 1)), .int (nI thn.toNat), .int (nI tcu), .ref tsc, .ref tfg, .ref ttv, .ref tpr])), (tsc, .inl (D.2.1, 4, .inl (nA tSC))), (ttv, .inl (D.2.1, 10, .inl (nA tTV))), (tpr, .inl (D.2.1, 10, .inl (nA tPR))), (nw, .inr (4, [.ref nnf, .int (nI nlost), .int (nI ncost), .int (nI ndr)])), (nnf, .inl (D.2.1, 24, .inl (nA nNF)))]) (w2 := [(x, .inr (7, [.ref tx, .ref tr, .ref tb, .ref nw, .ref sp, .ref pa, .ref im, .ref ik, .ref no, .ref pr, .ref sg, .int (iI xfa)])), (tr, .inr (6, [.ref tb, .ref nw, .ref cf])), (cf, .inl (D.2.1, 10, .inl (nA (cfOf (va_up (shN nlost tSC tTV nNF tcu) c (lz nlost c (seen tSC tTV nNF c (f : Int) ||| both tTV 9))))))), (tb, .inr (0, [.int (nI thd.toNat), .int (nI tlo), .int (iI ((te : Int) - 1)), .int (nI thn.toNat), .int (nI tcu), .ref tsc, .ref tfg, .ref ttv, .ref tpr])), (tsc, .inl (D.2.1, 4, .inl (nA tSC))), (ttv, .inl (D.2.1, 10, .inl (nA tTV))), (tpr, .inl (D.2.1, 10, .inl (nA tPR))), (nw, .inr (4, [.ref nnf, .int (nI nlost), .int (nI ncost), .int (nI ndr)])), (nnf, .inl (D.2.1, 24, .inl (nA nNF)))]) rfl rfl rfl)
          · refine x_aload_n hx dX7_instead_51 hl 0 rfl ?_
            refine x_get7 hx hW.1 0 rfl 1 (Nat.le_of_ble_eq_true rfl) wf_RX7_19 rfl dX7_instead_52 ?_
            refine x_iload_n hx dX7_instead_55 hl 1 rfl ?_
            refine x_iload_n hx dX7_instead_56 hl 2 rfl ?_
            refine x_iload hx dX7_instead_57 hl 5 rfl ?_
            refine x_callVV (As := [.int (nI c), .int (nI f), .int (nI j)]) (rest := []) (wr := [(x, .inr (7, [.ref tx, .ref tr, .ref tb, .ref nw, .ref sp, .ref pa, .ref im, .ref ik, .ref no, .ref pr, .ref sg, .int (iI xfa)])), (tpr, .inl (D.2.1, 10, .inl (nA tPR)))]) hx yv_X6_repaint (c_X6_repaint _ D tr nw cf sh tb thd tlo te thn tcu tsc tfg ttv tpr tSC tTV nnf nlost ncost ndr nNF c f j (by first | assumption | omega | (simp [*]; done)) (by first | assumption | omega | (simp [*]; done)) (by first | assumption | omega | (simp [*]; done)) (by first | assumption | omega | (simp [*]; done)) (by first | assumption | omega | (simp [*]; done)) (by first | assumption | omega | (simp [*]; done)) (by first | assumption | omega | (simp [*]; done)) (by first | assumption | omega | (simp [*]; done))) wm_RX7_232 hA hW [2, 3, 4, 5, 6, 7, 8] [0, 1] rfl rfl rfl rfl rfl 2 rfl rfl ⟨rfl, rfl⟩ ⟨Nat.le_of_ble_eq_true rfl, Nat.le_of_ble_eq_true rfl⟩ ⟨Nat.zero_le _, Nat.zero_le _⟩ hl rfl rfl (Nat.le_of_ble_eq_true rfl) dX7_instead_59 [(x, .inr (7, [.ref tx, .ref tr, .ref tb, .ref nw, .ref sp, .ref pa, .ref im, .ref ik, .ref no, .ref pr, .ref sg, .int (iI xfa)])), (tpr, .inl (D.2.1, 10, .inl (nA tPR))), (tr, .inr (6, [.ref tb, .ref nw, .ref cf])), (cf, .inl (D.2.1, 10, .inl (nA (cfOf (va_up sh c (lz nlost c (seen tSC tTV nNF c (f : Int) ||| both tTV j))))))), (tb, .inr (0, [.int (nI thd.toNat), .int (nI tlo), .int (iI ((te : Int) - 1)), .int (nI thn.toNat), .int (nI tcu), .ref tsc, .ref tfg, .ref ttv, .ref tpr])), (tsc, .inl (D.2.1, 4, .inl (nA tSC))), (ttv, .inl (D.2.1, 10, .inl (nA tTV))), (nw, .inr (4, [.ref nnf, .int (nI nlost), .int (nI ncost), .int (nI ndr)])), (nnf, .inl (D.2.1, 24, .inl (nA nNF)))] rfl (fun H locs hW => ?_)
            refine x_aload_n hx dX7_instead_62 hl 0 rfl ?_
            refine x_get7 hx hW.1 0 rfl 1 (Nat.le_of_ble_eq_true rfl) wf_RX7_19 rfl dX7_instead_63 ?_
            refine x_callRV (As := []) (rest := []) hx yv_X6_countShown (c_X6_countShown _ D tr nw cf (va_up sh c (lz nlost c (seen tSC tTV nNF c (f : Int) ||| both tTV j))) tb thd tlo te thn tcu tsc tfg ttv tpr (by first | assumption | omega | (simp [*]; done)) (by first | assumption | omega | (simp [*]; done))) wm_RX7_206 hW.1 [2, 3, 4] rfl 2 rfl rfl ⟨rfl, rfl⟩ ⟨Nat.le_of_ble_eq_true rfl, Nat.le_of_ble_eq_true rfl⟩ ⟨Nat.zero_le _, Nat.zero_le _⟩ hl rfl rfl (Nat.le_of_ble_eq_true rfl) dX7_instead_66 ?_
            refine x_istore (lv' := [(6, .int (nI (cntTo (canS thn te (va_up sh c (lz nlost c (seen tSC tTV nNF c (f : Int) ||| both tTV j)))) tlo te))), (0, .ref x), (1, .int (nI c)), (2, .int (nI f)), (3, .int (nI fo)), (4, .int (iI tp)), (5, .int (nI j))]) hx dX7_instead_69 hl (Nat.le_of_ble_eq_true rfl) rfl (fun ls hl => ?_)
            refine x_iload hx dX7_instead_71 hl 0 rfl ?_
            refine x_iload hx dX7_instead_73 hl 5 rfl ?_
            refine x_icmp_gt_Z (a := ((cntTo (canS thn te (va_up sh c (lz nlost c (seen tSC tTV nNF c (f : Int) ||| both tTV j)))) tlo te : Nat) : Int)) (b := tp) (tgt := 107) hx dX7_instead_75 (by decide) (by omega) (by omega) (fun h_7 => ?_) (fun h_7 => ?_)
            · refine x_iload hx dX7_instead_107 hl 0 rfl ?_
              refine x_istore (lv' := [(4, .int (nI (cntTo (canS thn te (va_up sh c (lz nlost c (seen tSC tTV nNF c (f : Int) ||| both tTV j)))) tlo te))), (6, .int (nI (cntTo (canS thn te (va_up sh c (lz nlost c (seen tSC tTV nNF c (f : Int) ||| both tTV j)))) tlo te))), (0, .ref x), (1, .int (nI c)), (2, .int (nI f)), (3, .int (nI fo)), (5, .int (nI j))]) hx dX7_instead_109 hl (Nat.le_of_ble_eq_true rfl) rfl (fun ls hl => ?_)
              refine x_iload hx dX7_instead_111 hl 6 rfl ?_
              refine x_istore_n (lv' := [(3, .int (nI j)), (4, .int (nI (cntTo (canS thn te (va_up sh c (lz nlost c (seen tSC tTV nNF c (f : Int) ||| both tTV j)))) tlo te))), (6, .int (nI (cntTo (canS thn te (va_up sh c (lz nlost c (seen tSC tTV nNF c (f : Int) ||| both tTV j)))) tlo te))), (0, .ref x), (1, .int (nI c)), (2, .int (nI f)), (5, .int (nI j))]) hx dX7_instead_113 hl (Nat.le_of_ble_eq_true rfl) rfl (fun ls hl => ?_)
              refine x_iinc (v := nI (j + 1)) (lv' := [(5, .int (nI (j + 1))), (3, .int (nI j)), (4, .int (nI (cntTo (canS thn te (va_up sh c (lz nlost c (seen tSC tTV nNF c (f : Int) ||| both tTV j)))) tlo te))), (6, .int (nI (cntTo (canS thn te (va_up sh c (lz nlost c (seen tSC tTV nNF c (f : Int) ||| both tTV j)))) tlo te))), (0, .ref x), (1, .int (nI c)), (2, .int (nI f))]) hx dX7_instead_114 hl 6 rfl (nI_addc j 1) (Nat.le_of_ble_eq_true rfl) rfl (fun ls hl => ?_)
              refine x_goto (tgt := 44) hx dX7_instead_117 (by decide) ?_
              have e_8 : nI (cntTo (canS thn te (va_up sh c (lz nlost c (seen tSC tTV nNF c (f : Int) ||| both tTV j)))) tlo te) = iI ((cntTo (canS thn te (va_up sh c (lz nlost c (seen tSC tTV nNF c (f : Int) ||| both tTV j)))) tlo te : Nat) : Int) := by
                first | rfl | omega | (simp [*]; done) | (simp [*]; omega)
              have e_9 : (j + 1 : Nat) = (j + 1) := by
                first | rfl | omega | (simp [*]; done) | (simp [*]; omega)
              exact ihL44_4 (j + 1) (va_up sh c (lz nlost c (seen tSC tTV nNF c (f : Int) ||| both tTV j))) j ((cntTo (canS thn te (va_up sh c (lz nlost c (seen tSC tTV nNF c (f : Int) ||| both tTV j)))) tlo te : Nat) : Int) (by first | assumption | omega | (simp [*]; done)) (by first | (intro i _; rfl) | (intro i hi; rw [hcg i]; simp [va_up, hi])) (by first | (intro h9; omega) | (intro h9 i; rw [hcg i]; rfl)) (by first | rfl | exact insS_y hfo1 hfo2 hce (by omega) | exact insS_n hfo1 hfo2 hce (by omega)) (by omega) _ _ hW _ (lv_to (l := [(0, .ref x), (1, .int (nI c)), (2, .int (nI f)), (3, .int (nI j)), (4, .int (nI (cntTo (canS thn te (va_up sh c (lz nlost c (seen tSC tTV nNF c (f : Int) ||| both tTV j)))) tlo te))), (5, .int (nI (j + 1)))]) (l2 := [(0, .ref x), (1, .int (nI c)), (2, .int (nI f)), (3, .int (nI j)), (4, .int (iI ((cntTo (canS thn te (va_up sh c (lz nlost c (seen tSC tTV nNF c (f : Int) ||| both tTV j)))) tlo te : Nat) : Int))), (5, .int (nI (j + 1)))]) (lv_sub hl [4, 5, 6, 1, 2, 0] rfl) (cE rfl (cE rfl (cE rfl (cE rfl (cE (congrArg (fun z => ((4, Value.int z) : Nat × Value)) (e_8)) (cE (congrArg (fun z => ((5, Value.int z) : Nat × Value)) (congrArg (fun z : Nat => nI z) e_9)) rfl)))))))
            · refine x_iload hx dX7_instead_78 hl 0 rfl ?_
              refine x_iload hx dX7_instead_80 hl 5 rfl ?_
              refine x_icmp_ne_Z (a := ((cntTo (canS thn te (va_up sh c (lz nlost c (seen tSC tTV nNF c (f : Int) ||| both tTV j)))) tlo te : Nat) : Int)) (b := tp) (tgt := 114) hx dX7_instead_82 (by decide) (by omega) (by omega) (fun h_10 => ?_) (fun h_10 => ?_)
              · refine x_iinc (v := nI (j + 1)) (lv' := [(5, .int (nI (j + 1))), (6, .int (nI (cntTo (canS thn te (va_up sh c (lz nlost c (seen tSC tTV nNF c (f : Int) ||| both tTV j)))) tlo te))), (0, .ref x), (1, .int (nI c)), (2, .int (nI f)), (3, .int (nI fo)), (4, .int (iI tp))]) hx dX7_instead_114 hl 6 rfl (nI_addc j 1) (Nat.le_of_ble_eq_true rfl) rfl (fun ls hl => ?_)
                refine x_goto (tgt := 44) hx dX7_instead_117 (by decide) ?_
                have e_11 : (j + 1 : Nat) = (j + 1) := by
                  first | rfl | omega | (simp [*]; done) | (simp [*]; omega)
                exact ihL44_4 (j + 1) (va_up sh c (lz nlost c (seen tSC tTV nNF c (f : Int) ||| both tTV j))) fo tp (by first | assumption | omega | (simp [*]; done)) (by first | (intro i _; rfl) | (intro i hi; rw [hcg i]; simp [va_up, hi])) (by first | (intro h9; omega) | (intro h9 i; rw [hcg i]; rfl)) (by first | rfl | exact insS_y hfo1 hfo2 hce (by omega) | exact insS_n hfo1 hfo2 hce (by omega)) (by omega) _ _ hW _ (lv_to (l := [(0, .ref x), (1, .int (nI c)), (2, .int (nI f)), (3, .int (nI fo)), (4, .int (iI tp)), (5, .int (nI (j + 1)))]) (l2 := [(0, .ref x), (1, .int (nI c)), (2, .int (nI f)), (3, .int (nI fo)), (4, .int (iI tp)), (5, .int (nI (j + 1)))]) (lv_sub hl [2, 3, 4, 5, 6, 0] rfl) (cE rfl (cE rfl (cE rfl (cE rfl (cE rfl (cE (congrArg (fun z => ((5, Value.int z) : Nat × Value)) (congrArg (fun z : Nat => nI z) e_11)) rfl)))))))
              · refine x_aload_n hx dX7_instead_85 hl 1 rfl ?_
                refine x_get7 hx hW.1 0 rfl 2 (Nat.le_of_ble_eq_true rfl) wf_RX7_27 rfl dX7_instead_86 ?_
                refine x_get0 hx hW.1 4 rfl 8 (Nat.le_of_ble_eq_true rfl) wf_RX7_236 rfl dX7_instead_89 ?_
                refine x_iload hx dX7_instead_92 hl 6 rfl ?_
                have hj_94 : j < 10 := by omega
                refine x_iald (v := nI (tPR j)) hx hW.1 1 rfl hj_94 (by decide) (rfl) dX7_instead_94 ?_
                have b_12 := htPR j hj_94
                refine x_aload_n hx dX7_instead_95 hl 1 rfl ?_
                refine x_get7 hx hW.1 0 rfl 2 (Nat.le_of_ble_eq_true rfl) wf_RX7_27 rfl dX7_instead_96 ?_
                refine x_get0 hx hW.1 4 rfl 8 (Nat.le_of_ble_eq_true rfl) wf_RX7_236 rfl dX7_instead_99 ?_
                refine x_iload_n hx dX7_instead_102 hl 4 rfl ?_
                have hj_103 : fo < 10 := by omega
                refine x_iald (v := nI (tPR fo)) hx hW.1 1 rfl hj_103 (by decide) (rfl) dX7_instead_103 ?_
                have b_13 := htPR fo hj_103
                refine x_icmp_ge_N (a := (tPR j)) (b := (tPR fo)) (tgt := 114) hx dX7_instead_104 (by decide) (by omega) (by omega) (fun h_14 => ?_) (fun h_14 => ?_)
                · refine x_iinc (v := nI (j + 1)) (lv' := [(5, .int (nI (j + 1))), (6, .int (nI (cntTo (canS thn te (va_up sh c (lz nlost c (seen tSC tTV nNF c (f : Int) ||| both tTV j)))) tlo te))), (0, .ref x), (1, .int (nI c)), (2, .int (nI f)), (3, .int (nI fo)), (4, .int (iI tp))]) hx dX7_instead_114 hl 6 rfl (nI_addc j 1) (Nat.le_of_ble_eq_true rfl) rfl (fun ls hl => ?_)
                  refine x_goto (tgt := 44) hx dX7_instead_117 (by decide) ?_
                  have e_15 : (j + 1 : Nat) = (j + 1) := by
                    first | rfl | omega | (simp [*]; done) | (simp [*]; omega)
                  exact ihL44_4 (j + 1) (va_up sh c (lz nlost c (seen tSC tTV nNF c (f : Int) ||| both tTV j))) fo tp (by first | assumption | omega | (simp [*]; done)) (by first | (intro i _; rfl) | (intro i hi; rw [hcg i]; simp [va_up, hi])) (by first | (intro h9; omega) | (intro h9 i; rw [hcg i]; rfl)) (by first | rfl | exact insS_y hfo1 hfo2 hce (by omega) | exact insS_n hfo1 hfo2 hce (by omega)) (by omega) _ _ hW _ (lv_to (l := [(0, .ref x), (1, .int (nI c)), (2, .int (nI f)), (3, .int (nI fo)), (4, .int (iI tp)), (5, .int (nI (j + 1)))]) (l2 := [(0, .ref x), (1, .int (nI c)), (2, .int (nI f)), (3, .int (nI fo)), (4, .int (iI tp)), (5, .int (nI (j + 1)))]) (lv_sub hl [2, 3, 4, 5, 6, 0] rfl) (cE rfl (cE rfl (cE rfl (cE rfl (cE rfl (cE (congrArg (fun z => ((5, Value.int z) : Nat × Value)) (congrArg (fun z : Nat => nI z) e_15)) rfl)))))))
                · refine x_iload hx dX7_instead_107 hl 0 rfl ?_
                  refine x_istore (lv' := [(4, .int (nI (cntTo (canS thn te (va_up sh c (lz nlost c (seen tSC tTV nNF c (f : Int) ||| both tTV j)))) tlo te))), (6, .int (nI (cntTo (canS thn te (va_up sh c (lz nlost c (seen tSC tTV nNF c (f : Int) ||| both tTV j)))) tlo te))), (0, .ref x), (1, .int (nI c)), (2, .int (nI f)), (3, .int (nI fo)), (5, .int (nI j))]) hx dX7_instead_109 hl (Nat.le_of_ble_eq_true rfl) rfl (fun ls hl => ?_)
                  refine x_iload hx dX7_instead_111 hl 6 rfl ?_
                  refine x_istore_n (lv' := [(3, .int (nI j)), (4, .int (nI (cntTo (canS thn te (va_up sh c (lz nlost c (seen tSC tTV nNF c (f : Int) ||| both tTV j)))) tlo te))), (6, .int (nI (cntTo (canS thn te (va_up sh c (lz nlost c (seen tSC tTV nNF c (f : Int) ||| both tTV j)))) tlo te))), (0, .ref x), (1, .int (nI c)), (2, .int (nI f)), (5, .int (nI j))]) hx dX7_instead_113 hl (Nat.le_of_ble_eq_true rfl) rfl (fun ls hl => ?_)
                  refine x_iinc (v := nI (j + 1)) (lv' := [(5, .int (nI (j + 1))), (3, .int (nI j)), (4, .int (nI (cntTo (canS thn te (va_up sh c (lz nlost c (seen tSC tTV nNF c (f : Int) ||| both tTV j)))) tlo te))), (6, .int (nI (cntTo (canS thn te (va_up sh c (lz nlost c (seen tSC tTV nNF c (f : Int) ||| both tTV j)))) tlo te))), (0, .ref x), (1, .int (nI c)), (2, .int (nI f))]) hx dX7_instead_114 hl 6 rfl (nI_addc j 1) (Nat.le_of_ble_eq_true rfl) rfl (fun ls hl => ?_)
                  refine x_goto (tgt := 44) hx dX7_instead_117 (by decide) ?_
                  have e_16 : nI (cntTo (canS thn te (va_up sh c (lz nlost c (seen tSC tTV nNF c (f : Int) ||| both tTV j)))) tlo te) = iI ((cntTo (canS thn te (va_up sh c (lz nlost c (seen tSC tTV nNF c (f : Int) ||| both tTV j)))) tlo te : Nat) : Int) := by
                    first | rfl | omega | (simp [*]; done) | (simp [*]; omega)
                  have e_17 : (j + 1 : Nat) = (j + 1) := by
                    first | rfl | omega | (simp [*]; done) | (simp [*]; omega)
                  exact ihL44_4 (j + 1) (va_up sh c (lz nlost c (seen tSC tTV nNF c (f : Int) ||| both tTV j))) j ((cntTo (canS thn te (va_up sh c (lz nlost c (seen tSC tTV nNF c (f : Int) ||| both tTV j)))) tlo te : Nat) : Int) (by first | assumption | omega | (simp [*]; done)) (by first | (intro i _; rfl) | (intro i hi; rw [hcg i]; simp [va_up, hi])) (by first | (intro h9; omega) | (intro h9 i; rw [hcg i]; rfl)) (by first | rfl | exact insS_y hfo1 hfo2 hce (by omega) | exact insS_n hfo1 hfo2 hce (by omega)) (by omega) _ _ hW _ (lv_to (l := [(0, .ref x), (1, .int (nI c)), (2, .int (nI f)), (3, .int (nI j)), (4, .int (nI (cntTo (canS thn te (va_up sh c (lz nlost c (seen tSC tTV nNF c (f : Int) ||| both tTV j)))) tlo te))), (5, .int (nI (j + 1)))]) (l2 := [(0, .ref x), (1, .int (nI c)), (2, .int (nI f)), (3, .int (nI j)), (4, .int (iI ((cntTo (canS thn te (va_up sh c (lz nlost c (seen tSC tTV nNF c (f : Int) ||| both tTV j)))) tlo te : Nat) : Int))), (5, .int (nI (j + 1)))]) (lv_sub hl [4, 5, 6, 1, 2, 0] rfl) (cE rfl (cE rfl (cE rfl (cE rfl (cE (congrArg (fun z => ((4, Value.int z) : Nat × Value)) (e_16)) (cE (congrArg (fun z => ((5, Value.int z) : Nat × Value)) (congrArg (fun z : Nat => nI z) e_17)) rfl)))))))
      exact L44_4 (10 - 0 + 1) 0 (shN nlost tSC tTV nNF tcu) 0 (-1) (by first | assumption | omega | (simp [*]; done)) (by first | (intro i _; rfl) | (intro i hi; rw [hcg i]; simp [va_up, hi])) (by first | (intro h9; omega) | (intro h9 i; rw [hcg i]; rfl)) (by first | rfl | exact insS_y hfo1 hfo2 hce (by omega) | exact insS_n hfo1 hfo2 hce (by omega)) (Nat.lt_succ_self _) _ _ hW _ (lv_sub hl [3, 4, 5, 2, 1, 0] rfl)
    · simp only [sideB, decide_eq_true_eq, decide_eq_false_iff_not, Int.toNat_natCast] at h_3
      omega
  · have hd_18 := of_decide_eq_false h_1
    omega
set_option maxHeartbeats 4000000 in
set_option maxRecDepth 100000 in
theorem c_X7_firstSideFor (l : Launch) (D : KD) (x : Nat) (tx : Nat) (tr : Nat) (tb : Nat) (nw : Nat) (sp : Nat) (pa : Nat) (im : Nat) (ik : Nat) (no : Nat) (pr : Nat) (sg : Nat) (xfa : Int) (cf : Nat) (thd : Bool) (tlo : Nat) (te : Nat) (thn : Bool) (tcu : Nat) (tsc : Nat) (tfg : Nat) (ttv : Nat) (tpr : Nat) (tSC : Nat → Nat) (tTV : Nat → Nat) (nnf : Nat) (nlost : Nat) (ncost : Nat) (ndr : Nat) (nNF : Nat → Nat) (d : Nat) (g : Nat) (htSC : ∀ k, k < 4 → tSC k < 7) (htTV : ∀ k, k < 10 → tTV k < 10) (hnNF : ∀ k, k < 24 → nNF k < 10) (hlo : nlost < 16) (hcu : tcu ≤ 4) (hle : tlo ≤ te) (he : te ≤ 100) (hd : d < 100) (hg : g < 10) : cM l yX7_firstSideFor cX7_firstSideFor 6 (some .int) rm_X7_firstSideFor D [(x, .inr (7, [.ref tx, .ref tr, .ref tb, .ref nw, .ref sp, .ref pa, .ref im, .ref ik, .ref no, .ref pr, .ref sg, .int (iI xfa)])), (tr, .inr (6, [.ref tb, .ref nw, .ref cf])), (cf, .inl (D.2.1, 10, .inl (nA (cfOf (shN nlost tSC tTV nNF tcu))))), (tb, .inr (0, [.int (nI thd.toNat), .int (nI tlo), .int (iI ((te : Int) - 1)), .int (nI thn.toNat), .int (nI tcu), .ref tsc, .ref tfg, .ref ttv, .ref tpr])), (tsc, .inl (D.2.1, 4, .inl (nA tSC))), (ttv, .inl (D.2.1, 10, .inl (nA tTV))), (nw, .inr (4, [.ref nnf, .int (nI nlost), .int (nI ncost), .int (nI ndr)])), (nnf, .inl (D.2.1, 24, .inl (nA nNF)))] [.ref x, .int (nI d), .int (nI g)] (iI (fsTo (fun c9 f9 => canS thn te (va_up (shN nlost tSC tTV nNF tcu) c9 (lz nlost c9 (seen tSC tTV nNF c9 (f9 : Int) ||| both tTV g))) d) (okS nlost tcu tSC) 0 24)) [(x, .inr (7, [.ref tx, .ref tr, .ref tb, .ref nw, .ref sp, .ref pa, .ref im, .ref ik, .ref no, .ref pr, .ref sg, .int (iI xfa)])), (tr, .inr (6, [.ref tb, .ref nw, .ref cf])), (cf, .inl (D.2.1, 10, .inl (nA (cfOf (shN nlost tSC tTV nNF tcu))))), (tb, .inr (0, [.int (nI thd.toNat), .int (nI tlo), .int (iI ((te : Int) - 1)), .int (nI thn.toNat), .int (nI tcu), .ref tsc, .ref tfg, .ref ttv, .ref tpr])), (tsc, .inl (D.2.1, 4, .inl (nA tSC))), (ttv, .inl (D.2.1, 10, .inl (nA tTV))), (nw, .inr (4, [.ref nnf, .int (nI nlost), .int (nI ncost), .int (nI ndr)])), (nnf, .inl (D.2.1, 24, .inl (nA nNF)))] := by
  refine cM.mk (by decide) (retI _) (Nat.le_of_ble_eq_true rfl) ?_
  intro X A hx hL hA hW hret ls hl
  subst hL
  have hl : lv_has ls 6 [(0, .ref x), (1, .int (nI d)), (2, .int (nI g))] := hl
  refine x_iconst (v := nI 0) hx dX7_firstSideFor_0 (by decide) ?_
  refine x_istore_n (lv' := [(3, .int (nI 0)), (0, .ref x), (1, .int (nI d)), (2, .int (nI g))]) hx dX7_firstSideFor_1 hl (Nat.le_of_ble_eq_true rfl) rfl (fun ls hl => ?_)
  have L2_1 : ∀ (L2_1n : Nat) (c : Nat), (c ≤ tcu) → (fsTo (fun c9 f9 => canS thn te (va_up (shN nlost tSC tTV nNF tcu) c9 (lz nlost c9 (seen tSC tTV nNF c9 (f9 : Int) ||| both tTV g))) d) (okS nlost tcu tSC) 0 24 = fsTo (fun c9 f9 => canS thn te (va_up (shN nlost tSC tTV nNF tcu) c9 (lz nlost c9 (seen tSC tTV nNF c9 (f9 : Int) ||| both tTV g))) d) (okS nlost tcu tSC) (6 * c) (24 - (6 * c))) → tcu - c < L2_1n → ∀ (H : Heap) (locs : List Loc), Wd X D A [(x, .inr (7, [.ref tx, .ref tr, .ref tb, .ref nw, .ref sp, .ref pa, .ref im, .ref ik, .ref no, .ref pr, .ref sg, .int (iI xfa)])), (tr, .inr (6, [.ref tb, .ref nw, .ref cf])), (cf, .inl (D.2.1, 10, .inl (nA (cfOf (shN nlost tSC tTV nNF tcu))))), (tb, .inr (0, [.int (nI thd.toNat), .int (nI tlo), .int (iI ((te : Int) - 1)), .int (nI thn.toNat), .int (nI tcu), .ref tsc, .ref tfg, .ref ttv, .ref tpr])), (tsc, .inl (D.2.1, 4, .inl (nA tSC))), (ttv, .inl (D.2.1, 10, .inl (nA tTV))), (nw, .inr (4, [.ref nnf, .int (nI nlost), .int (nI ncost), .int (nI ndr)])), (nnf, .inl (D.2.1, 24, .inl (nA nNF)))] H locs → ∀ ls : Array Slot, lv_has ls 6 [(0, .ref x), (1, .int (nI d)), (2, .int (nI g)), (3, .int (nI c))] → Wx X 0 0 H locs 2 ls [] := by
    intro L2_1n
    induction L2_1n with
    | zero =>
      intro c h1 h1b hm
      exact absurd hm (Nat.not_lt_zero _)
    | succ L2_1n ihL2_1 =>
      intro c h1 h1b hm H locs hW ls hl
      refine x_iload_n hx dX7_firstSideFor_2 hl 3 rfl ?_
      refine x_aload_n hx dX7_firstSideFor_3 hl 0 rfl ?_
      refine x_get7 hx hW.1 0 rfl 2 (Nat.le_of_ble_eq_true rfl) wf_RX7_27 rfl dX7_firstSideFor_4 ?_
      refine x_get0 hx hW.1 3 rfl 4 (Nat.le_of_ble_eq_true rfl) wf_RX7_115 rfl dX7_firstSideFor_7 ?_
      refine x_icmp_ge_N (a := c) (b := tcu) (tgt := 95) hx dX7_firstSideFor_10 (by decide) (by omega) (by omega) (fun h_2 => ?_) (fun h_2 => ?_)
      · refine x_iconst (v := iI (-1)) hx dX7_firstSideFor_95 (by decide) ?_
        exact hret _ _ _ _ _ dX7_firstSideFor_96 (by rw [h1b, fsTo_end (by omega) hcu (by omega)]) hW
      · have hsc := htSC c (by omega)
        refine x_iconst (v := nI 0) hx dX7_firstSideFor_13 (by decide) ?_
        refine x_istore (lv' := [(4, .int (nI 0)), (0, .ref x), (1, .int (nI d)), (2, .int (nI g)), (3, .int (nI c))]) hx dX7_firstSideFor_14 hl (Nat.le_of_ble_eq_true rfl) rfl (fun ls hl => ?_)
        have L16_3 : ∀ (L16_3n : Nat) (f : Nat), (f ≤ tSC c) → (fsTo (fun c9 f9 => canS thn te (va_up (shN nlost tSC tTV nNF tcu) c9 (lz nlost c9 (seen tSC tTV nNF c9 (f9 : Int) ||| both tTV g))) d) (okS nlost tcu tSC) 0 24 = fsTo (fun c9 f9 => canS thn te (va_up (shN nlost tSC tTV nNF tcu) c9 (lz nlost c9 (seen tSC tTV nNF c9 (f9 : Int) ||| both tTV g))) d) (okS nlost tcu tSC) (6 * c + f) (24 - (6 * c + f))) → tSC c - f < L16_3n → ∀ (H : Heap) (locs : List Loc), Wd X D A [(x, .inr (7, [.ref tx, .ref tr, .ref tb, .ref nw, .ref sp, .ref pa, .ref im, .ref ik, .ref no, .ref pr, .ref sg, .int (iI xfa)])), (tr, .inr (6, [.ref tb, .ref nw, .ref cf])), (cf, .inl (D.2.1, 10, .inl (nA (cfOf (shN nlost tSC tTV nNF tcu))))), (tb, .inr (0, [.int (nI thd.toNat), .int (nI tlo), .int (iI ((te : Int) - 1)), .int (nI thn.toNat), .int (nI tcu), .ref tsc, .ref tfg, .ref ttv, .ref tpr])), (tsc, .inl (D.2.1, 4, .inl (nA tSC))), (ttv, .inl (D.2.1, 10, .inl (nA tTV))), (nw, .inr (4, [.ref nnf, .int (nI nlost), .int (nI ncost), .int (nI ndr)])), (nnf, .inl (D.2.1, 24, .inl (nA nNF)))] H locs → ∀ ls : Array Slot, lv_has ls 6 [(0, .ref x), (1, .int (nI d)), (2, .int (nI g)), (3, .int (nI c)), (4, .int (nI f))] → Wx X 0 0 H locs 16 ls [] := by
          intro L16_3n
          induction L16_3n with
          | zero =>
            intro f h2 h2b hm
            exact absurd hm (Nat.not_lt_zero _)
          | succ L16_3n ihL16_3 =>
            intro f h2 h2b hm H locs hW ls hl
            refine x_iload hx dX7_firstSideFor_16 hl 4 rfl ?_
            refine x_aload_n hx dX7_firstSideFor_18 hl 0 rfl ?_
            refine x_get7 hx hW.1 0 rfl 2 (Nat.le_of_ble_eq_true rfl) wf_RX7_27 rfl dX7_firstSideFor_19 ?_
            refine x_get0 hx hW.1 3 rfl 5 (Nat.le_of_ble_eq_true rfl) wf_RX7_151 rfl dX7_firstSideFor_22 ?_
            refine x_iload_n hx dX7_firstSideFor_25 hl 3 rfl ?_
            have hj_26 : c < 4 := by omega
            refine x_iald (v := nI (tSC c)) hx hW.1 4 rfl hj_26 (by decide) (rfl) dX7_firstSideFor_26 ?_
            have b_4 := htSC c hj_26
            refine x_icmp_ge_N (a := f) (b := (tSC c)) (tgt := 89) hx dX7_firstSideFor_27 (by decide) (by omega) (by omega) (fun h_5 => ?_) (fun h_5 => ?_)
            · refine x_iinc (v := nI (c + 1)) (lv' := [(3, .int (nI (c + 1))), (0, .ref x), (1, .int (nI d)), (2, .int (nI g)), (4, .int (nI f))]) hx dX7_firstSideFor_89 hl 3 rfl (nI_addc c 1) (Nat.le_of_ble_eq_true rfl) rfl (fun ls hl => ?_)
              refine x_goto (tgt := 2) hx dX7_firstSideFor_92 (by decide) ?_
              have e_6 : (c + 1 : Nat) = (c + 1) := by
                first | rfl | omega | (simp [*]; done) | (simp [*]; omega)
              exact ihL2_1 (c + 1) (by first | assumption | omega | (simp [*]; done)) (by first | rfl | exact h2b.trans (fsTo_next (by omega) (by omega) (by first | exact Or.inl (by assumption) | exact Or.inr (by assumption)))) (by omega) _ _ hW _ (lv_to (l := [(0, .ref x), (1, .int (nI d)), (2, .int (nI g)), (3, .int (nI (c + 1)))]) (l2 := [(0, .ref x), (1, .int (nI d)), (2, .int (nI g)), (3, .int (nI (c + 1)))]) (lv_sub hl [1, 2, 3, 0] rfl) (cE rfl (cE rfl (cE rfl (cE (congrArg (fun z => ((3, Value.int z) : Nat × Value)) (congrArg (fun z : Nat => nI z) e_6)) rfl)))))
            · refine x_aload_n hx dX7_firstSideFor_30 hl 0 rfl ?_
              refine x_get7 hx hW.1 0 rfl 3 (Nat.le_of_ble_eq_true rfl) wf_RX7_34 rfl dX7_firstSideFor_31 ?_
              refine x_iload_n hx dX7_firstSideFor_34 hl 3 rfl ?_
              refine x_callRV (As := [.int (nI c)]) (rest := []) hx yv_X4_isLost (c_X4_isLost _ D nw nnf nlost ncost ndr c (by first | assumption | omega | (simp [*]; done)) (by first | assumption | omega | (simp [*]; done))) wm_RX7_183 hW.1 [6] rfl 6 rfl rfl ⟨rfl, rfl⟩ ⟨Nat.le_of_ble_eq_true rfl, Nat.le_of_ble_eq_true rfl⟩ ⟨Nat.zero_le _, Nat.zero_le _⟩ hl rfl rfl (Nat.le_of_ble_eq_true rfl) dX7_firstSideFor_35 ?_
              refine x_if_ne_B (tgt := 89) hx dX7_firstSideFor_38 (by decide) (fun h_7 => ?_) (fun h_7 => ?_)
              · refine x_iinc (v := nI (c + 1)) (lv' := [(3, .int (nI (c + 1))), (0, .ref x), (1, .int (nI d)), (2, .int (nI g)), (4, .int (nI f))]) hx dX7_firstSideFor_89 hl 3 rfl (nI_addc c 1) (Nat.le_of_ble_eq_true rfl) rfl (fun ls hl => ?_)
                refine x_goto (tgt := 2) hx dX7_firstSideFor_92 (by decide) ?_
                have e_8 : (c + 1 : Nat) = (c + 1) := by
                  first | rfl | omega | (simp [*]; done) | (simp [*]; omega)
                exact ihL2_1 (c + 1) (by first | assumption | omega | (simp [*]; done)) (by first | rfl | exact h2b.trans (fsTo_next (by omega) (by omega) (by first | exact Or.inl (by assumption) | exact Or.inr (by assumption)))) (by omega) _ _ hW _ (lv_to (l := [(0, .ref x), (1, .int (nI d)), (2, .int (nI g)), (3, .int (nI (c + 1)))]) (l2 := [(0, .ref x), (1, .int (nI d)), (2, .int (nI g)), (3, .int (nI (c + 1)))]) (lv_sub hl [1, 2, 3, 0] rfl) (cE rfl (cE rfl (cE rfl (cE (congrArg (fun z => ((3, Value.int z) : Nat × Value)) (congrArg (fun z : Nat => nI z) e_8)) rfl)))))
              · refine x_aload_n hx dX7_firstSideFor_41 hl 0 rfl ?_
                refine x_get7 hx hW.1 0 rfl 1 (Nat.le_of_ble_eq_true rfl) wf_RX7_19 rfl dX7_firstSideFor_42 ?_
                refine x_iload_n hx dX7_firstSideFor_45 hl 3 rfl ?_
                refine x_iload hx dX7_firstSideFor_46 hl 4 rfl ?_
                refine x_iload_n hx dX7_firstSideFor_48 hl 2 rfl ?_
                refine x_callVV (As := [.int (nI c), .int (nI f), .int (nI g)]) (rest := []) (wr := [(x, .inr (7, [.ref tx, .ref tr, .ref tb, .ref nw, .ref sp, .ref pa, .ref im, .ref ik, .ref no, .ref pr, .ref sg, .int (iI xfa)]))]) hx yv_X6_repaint (c_X6_repaint _ D tr nw cf (shN nlost tSC tTV nNF tcu) tb thd tlo te thn tcu tsc tfg ttv tpr tSC tTV nnf nlost ncost ndr nNF c f g (by first | assumption | omega | (simp [*]; done)) (by first | assumption | omega | (simp [*]; done)) (by first | assumption | omega | (simp [*]; done)) (by first | assumption | omega | (simp [*]; done)) (by first | assumption | omega | (simp [*]; done)) (by first | assumption | omega | (simp [*]; done)) (by first | assumption | omega | (simp [*]; done)) (by first | assumption | omega | (simp [*]; done))) wm_RX7_232 hA hW [1, 2, 3, 4, 5, 6, 7] [0] rfl rfl rfl rfl rfl 1 rfl rfl ⟨rfl, rfl⟩ ⟨Nat.le_of_ble_eq_true rfl, Nat.le_of_ble_eq_true rfl⟩ ⟨Nat.zero_le _, Nat.zero_le _⟩ hl rfl rfl (Nat.le_of_ble_eq_true rfl) dX7_firstSideFor_49 [(x, .inr (7, [.ref tx, .ref tr, .ref tb, .ref nw, .ref sp, .ref pa, .ref im, .ref ik, .ref no, .ref pr, .ref sg, .int (iI xfa)])), (tr, .inr (6, [.ref tb, .ref nw, .ref cf])), (cf, .inl (D.2.1, 10, .inl (nA (cfOf (va_up (shN nlost tSC tTV nNF tcu) c (lz nlost c (seen tSC tTV nNF c (f : Int) ||| both tTV g))))))), (tb, .inr (0, [.int (nI thd.toNat), .int (nI tlo), .int (iI ((te : Int) - 1)), .int (nI thn.toNat), .int (nI tcu), .ref tsc, .ref tfg, .ref ttv, .ref tpr])), (tsc, .inl (D.2.1, 4, .inl (nA tSC))), (ttv, .inl (D.2.1, 10, .inl (nA tTV))), (nw, .inr (4, [.ref nnf, .int (nI nlost), .int (nI ncost), .int (nI ndr)])), (nnf, .inl (D.2.1, 24, .inl (nA nNF)))] rfl (fun H locs hW => ?_)
                refine x_aload_n hx dX7_firstSideFor_52 hl 0 rfl ?_
                refine x_get7 hx hW.1 0 rfl 1 (Nat.le_of_ble_eq_true rfl) wf_RX7_19 rfl dX7_firstSideFor_53 ?_
                refine x_iload_n hx dX7_firstSideFor_56 hl 1 rfl ?_
                refine x_callRV (As := [.int (nI d)]) (rest := []) hx yv_X6_canShow (c_X6_canShow _ D tr nw cf (va_up (shN nlost tSC tTV nNF tcu) c (lz nlost c (seen tSC tTV nNF c (f : Int) ||| both tTV g))) tb thd tlo te thn tcu tsc tfg ttv tpr d (by first | assumption | omega | (simp [*]; done)) (by first | assumption | omega | (simp [*]; done))) wm_RX7_200 hW.1 [1, 2, 3] rfl 1 rfl rfl ⟨rfl, rfl⟩ ⟨Nat.le_of_ble_eq_true rfl, Nat.le_of_ble_eq_true rfl⟩ ⟨Nat.zero_le _, Nat.zero_le _⟩ hl rfl rfl (Nat.le_of_ble_eq_true rfl) dX7_firstSideFor_57 ?_
                refine x_istore (lv' := [(5, .int (nI (canS thn te (va_up (shN nlost tSC tTV nNF tcu) c (lz nlost c (seen tSC tTV nNF c (f : Int) ||| both tTV g))) d).toNat)), (0, .ref x), (1, .int (nI d)), (2, .int (nI g)), (3, .int (nI c)), (4, .int (nI f))]) hx dX7_firstSideFor_60 hl (Nat.le_of_ble_eq_true rfl) rfl (fun ls hl => ?_)
                refine x_aload_n hx dX7_firstSideFor_62 hl 1 rfl ?_
                refine x_get7 hx hW.1 0 rfl 1 (Nat.le_of_ble_eq_true rfl) wf_RX7_19 rfl dX7_firstSideFor_63 ?_
                refine x_iload_n hx dX7_firstSideFor_66 hl 4 rfl ?_
                refine x_callVV (As := [.int (nI c)]) (rest := []) (wr := [(x, .inr (7, [.ref tx, .ref tr, .ref tb, .ref nw, .ref sp, .ref pa, .ref im, .ref ik, .ref no, .ref pr, .ref sg, .int (iI xfa)]))]) hx yv_X6_restore (c_X6_restore _ D tr nw cf (va_up (shN nlost tSC tTV nNF tcu) c (lz nlost c (seen tSC tTV nNF c (f : Int) ||| both tTV g))) tb thd tlo te thn tcu tsc tfg ttv tpr tSC tTV nnf nlost ncost ndr nNF c (by first | assumption | omega | (simp [*]; done)) (by first | assumption | omega | (simp [*]; done)) (by first | assumption | omega | (simp [*]; done)) (by first | assumption | omega | (simp [*]; done)) (by first | assumption | omega | (simp [*]; done)) (by first | assumption | omega | (simp [*]; done))) wm_RX7_262 hA hW [1, 2, 3, 4, 5, 6, 7] [0] rfl rfl rfl rfl rfl 1 rfl rfl ⟨rfl, rfl⟩ ⟨Nat.le_of_ble_eq_true rfl, Nat.le_of_ble_eq_true rfl⟩ ⟨Nat.zero_le _, Nat.zero_le _⟩ hl rfl rfl (Nat.le_of_ble_eq_true rfl) dX7_firstSideFor_67 [(x, .inr (7, [.ref tx, .ref tr, .ref tb, .ref nw, .ref sp, .ref pa, .ref im, .ref ik, .ref no, .ref pr, .ref sg, .int (iI xfa)])), (tr, .inr (6, [.ref tb, .ref nw, .ref cf])), (cf, .inl (D.2.1, 10, .inl (nA (cfOf (va_up (va_up (shN nlost tSC tTV nNF tcu) c (lz nlost c (seen tSC tTV nNF c (f : Int) ||| both tTV g))) c (lz nlost c (seen tSC tTV nNF c (-1)))))))), (tb, .inr (0, [.int (nI thd.toNat), .int (nI tlo), .int (iI ((te : Int) - 1)), .int (nI thn.toNat), .int (nI tcu), .ref tsc, .ref tfg, .ref ttv, .ref tpr])), (tsc, .inl (D.2.1, 4, .inl (nA tSC))), (ttv, .inl (D.2.1, 10, .inl (nA tTV))), (nw, .inr (4, [.ref nnf, .int (nI nlost), .int (nI ncost), .int (nI ndr)])), (nnf, .inl (D.2.1, 24, .inl (nA nNF)))] rfl (fun H locs hW => ?_)
                refine x_iload hx dX7_firstSideFor_70 hl 0 rfl ?_
                refine x_if_eq_B (tgt := 83) hx dX7_firstSideFor_72 (by decide) (fun h_9 => ?_) (fun h_9 => ?_)
                · refine x_iinc (v := nI (f + 1)) (lv' := [(4, .int (nI (f + 1))), (5, .int (nI (canS thn te (va_up (shN nlost tSC tTV nNF tcu) c (lz nlost c (seen tSC tTV nNF c (f : Int) ||| both tTV g))) d).toNat)), (0, .ref x), (1, .int (nI d)), (2, .int (nI g)), (3, .int (nI c))]) hx dX7_firstSideFor_83 hl 5 rfl (nI_addc f 1) (Nat.le_of_ble_eq_true rfl) rfl (fun ls hl => ?_)
                  refine x_goto (tgt := 16) hx dX7_firstSideFor_86 (by decide) ?_
                  have e_10 : (f + 1 : Nat) = (f + 1) := by
                    first | rfl | omega | (simp [*]; done) | (simp [*]; omega)
                  have e_11 : ∀ k, k < 10 → (cfOf (va_up (va_up (shN nlost tSC tTV nNF tcu) c (lz nlost c (seen tSC tTV nNF c (f : Int) ||| both tTV g))) c (lz nlost c (seen tSC tTV nNF c (-1))))) k = (cfOf (shN nlost tSC tTV nNF tcu)) k := by
                    intro k hk
                    exact shN_back (by assumption) k
                  have hW : Wd X D A [(x, .inr (7, [.ref tx, .ref tr, .ref tb, .ref nw, .ref sp, .ref pa, .ref im, .ref ik, .ref no, .ref pr, .ref sg, .int (iI xfa)])), (tr, .inr (6, [.ref tb, .ref nw, .ref cf])), (cf, .inl (D.2.1, 10, .inl (nA (cfOf (shN nlost tSC tTV nNF tcu))))), (tb, .inr (0, [.int (nI thd.toNat), .int (nI tlo), .int (iI ((te : Int) - 1)), .int (nI thn.toNat), .int (nI tcu), .ref tsc, .ref tfg, .ref ttv, .ref tpr])), (tsc, .inl (D.2.1, 4, .inl (nA tSC))), (ttv, .inl (D.2.1, 10, .inl (nA tTV))), (nw, .inr (4, [.ref nnf, .int (nI nlost), .int (nI ncost), .int (nI ndr)])), (nnf, .inl (D.2.1, 24, .inl (nA nNF)))] _ _ := hW.row 2 rfl (fun j hj => congrArg (nI) (e_11 j hj)) rfl
                  exact ihL16_3 (f + 1) (by first | assumption | omega | (simp [*]; done)) (by first | exact h1b | (rw [h2b, fsTo_s (by omega) (by omega) (by assumption) (by omega) (by assumption), if_neg (by simp [*])]; done)) (by omega) _ _ hW _ (lv_to (l := [(0, .ref x), (1, .int (nI d)), (2, .int (nI g)), (3, .int (nI c)), (4, .int (nI (f + 1)))]) (l2 := [(0, .ref x), (1, .int (nI d)), (2, .int (nI g)), (3, .int (nI c)), (4, .int (nI (f + 1)))]) (lv_sub hl [2, 3, 4, 5, 0] rfl) (cE rfl (cE rfl (cE rfl (cE rfl (cE (congrArg (fun z => ((4, Value.int z) : Nat × Value)) (congrArg (fun z : Nat => nI z) e_10)) rfl))))))
                · refine x_bipush (v := nI 10) hx dX7_firstSideFor_75 (by decide) ?_
                  refine x_iload_n hx dX7_firstSideFor_77 hl 4 rfl ?_
                  refine x_imul (v := nI (10 * c)) hx dX7_firstSideFor_78 (pk_mul _ _) ?_
                  refine x_iload hx dX7_firstSideFor_79 hl 5 rfl ?_
                  refine x_iadd (v := nI (10 * c + f)) hx dX7_firstSideFor_81 (nI_add _ _) ?_
                  have e_12 : ∀ k, k < 10 → (cfOf (va_up (va_up (shN nlost tSC tTV nNF tcu) c (lz nlost c (seen tSC tTV nNF c (f : Int) ||| both tTV g))) c (lz nlost c (seen tSC tTV nNF c (-1))))) k = (cfOf (shN nlost tSC tTV nNF tcu)) k := by
                    intro k hk
                    first | rfl | exact shN_back (by assumption) k
                  have hW : Wd X D A [(x, .inr (7, [.ref tx, .ref tr, .ref tb, .ref nw, .ref sp, .ref pa, .ref im, .ref ik, .ref no, .ref pr, .ref sg, .int (iI xfa)])), (tr, .inr (6, [.ref tb, .ref nw, .ref cf])), (cf, .inl (D.2.1, 10, .inl (nA (cfOf (shN nlost tSC tTV nNF tcu))))), (tb, .inr (0, [.int (nI thd.toNat), .int (nI tlo), .int (iI ((te : Int) - 1)), .int (nI thn.toNat), .int (nI tcu), .ref tsc, .ref tfg, .ref ttv, .ref tpr])), (tsc, .inl (D.2.1, 4, .inl (nA tSC))), (ttv, .inl (D.2.1, 10, .inl (nA tTV))), (nw, .inr (4, [.ref nnf, .int (nI nlost), .int (nI ncost), .int (nI ndr)])), (nnf, .inl (D.2.1, 24, .inl (nA nNF)))] _ _ := hW.row 2 rfl (fun j hj => congrArg (nI) (e_12 j hj)) rfl
                  exact hret _ _ _ _ _ dX7_firstSideFor_82 (by rw [h2b, fsTo_s (by omega) (by omega) (by assumption) (by omega) (by assumption), if_pos (by simp [*])]; rfl) hW
        exact L16_3 (tSC c - 0 + 1) 0 (by first | assumption | omega | (simp [*]; done)) (by first | exact h1b | (rw [h2b, fsTo_s (by omega) (by omega) (by assumption) (by omega) (by assumption), if_neg (by simp [*])]; done)) (Nat.lt_succ_self _) _ _ hW _ (lv_sub hl [1, 2, 3, 4, 0] rfl)
  exact L2_1 (tcu - 0 + 1) 0 (by first | assumption | omega | (simp [*]; done)) (by first | rfl | exact h2b.trans (fsTo_next (by omega) (by omega) (by first | exact Or.inl (by assumption) | exact Or.inr (by assumption)))) (Nat.lt_succ_self _) _ _ hW _ (lv_sub hl [1, 2, 3, 0] rfl)
