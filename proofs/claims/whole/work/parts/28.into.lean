/-! all clauses of a text -/
def ptOk (len : Nat) (q : PT) : Prop := tsOk len q.1 ∧ q.2.1 ≤ 4 ∧ q.2.2.1 < 1024 ∧ q.2.2.2.2.2.2.2.1 ≤ 4 ∧ (∀ k, k < 4 → q.2.2.2.2.2.2.2.2.1 k < 7) ∧ (∀ k, k < 24 → q.2.2.2.2.2.2.2.2.2.1 k < 10) ∧ (∀ k, k < 10 → q.2.2.2.2.2.2.2.2.2.2.1 k < 10) ∧ (∀ k, k < 10 → q.2.2.2.2.2.2.2.2.2.2.2 k < 100)
theorem rnS_f {LT : Nat → Nat} {len top : Nat} {s : TS} (h : ¬ s.2.1 = 0) : rnS LT len top s = s := by rw [rnS, if_neg h]
theorem blS_f {n : Nat} {w : Int} {s : TS} (h : ¬ s.2.1 = 0) : blS n w s = s := by rw [blS, if_neg h]
theorem blS_f2 {n : Nat} {w : Int} {s : TS} (hn : ¬ n = 0) : ¬ (blS n w s).2.1 = 0 := by
  unfold blS
  split
  · exact hn
  · assumption
theorem reS_f {LT : Nat → Nat} {len : Nat} {s : TS} (h : ¬ s.2.1 = 0) : ¬ (reS LT len s).2.1 = 0 := by
  unfold reS
  split
  · exact h
  · exact blS_f2 (by decide)
theorem rwS_f {s : TS} : ¬ (rwS true s).2.1 = 0 := blS_f2 (by decide)
theorem tS6_f {LT : Nat → Nat} {len : Nat} {TV : Nat → Nat} {tu : Nat} {s : TS} (h : 4 ≤ tu) : ¬ (tS6 LT len TV tu s).2.1 = 0 := by
  have h1 : ¬ (tS1 tu s).2.1 = 0 := by rw [tS1, decide_eq_true h]; exact rwS_f
  have h2 : tS2 LT len tu s = tS1 tu s := rnS_f h1
  have h3 : ¬ (tS3 LT len TV tu s).2.1 = 0 := by
    unfold tS3
    split
    · rw [h2]; exact h1
    · exact blS_f2 (by decide)
  have h4 : tS4 LT len TV tu s = tS3 LT len TV tu s := rnS_f h3
  have h5 : ¬ (tS5 LT len TV tu s).2.1 = 0 := by
    unfold tS5
    split
    · exact blS_f2 (by decide)
    · rw [h4]; exact h3
  exact reS_f h5
theorem cS6_f {LT : Nat → Nat} {len cu : Nat} {FG SC : Nat → Nat} {s : TS} (h : 4 ≤ cu) : ¬ (cS6 LT len cu FG SC s).2.1 = 0 := by
  have h1 : ¬ (rwS (decide (4 ≤ cu)) s).2.1 = 0 := by rw [decide_eq_true h]; exact rwS_f
  have h2 : cq LT len cu FG SC s = (true, rwS (decide (4 ≤ cu)) s, FG, SC) := by
    unfold cq
    have hst := cbN_stay (LT := LT) (len := len) (c := cu) (q0 := (true, rwS (decide (4 ≤ cu)) s, FG, SC)) (f := 0) (fun g => h1 g.2) 6
    exact hst
  unfold cS6
  rw [h2]
  exact reS_f h1
theorem dS6_ok {LT : Nat → Nat} {len : Nat} {hd : Bool} {s : TS} (hl : len ≤ 220) (h : tsOk len s) (ha : s.1 < len) : tsOk len (dS6 LT len hd s) := by
  have h3 : tsOk len (dS3 LT len hd s) := rnS_ok hl (rnS_ok hl (rwS_ok hl h ha))
  have h4 : tsOk len (dS4 LT len hd s) := by
    unfold dS4
    split
    · exact blS_ok (by decide) ⟨by have := h3.2.2.2.2; omega, by have := h3.2.2.2.2; omega⟩ h3
    · exact h3
  exact reS_ok hl (rnS_ok hl h4)
theorem tS6_ok {LT : Nat → Nat} {len : Nat} {TV : Nat → Nat} {tu : Nat} {s : TS} (hl : len ≤ 220) (h : tsOk len s) (ha : s.1 < len) : tsOk len (tS6 LT len TV tu s) := by
  have h2 : tsOk len (tS2 LT len tu s) := rnS_ok hl (rwS_ok hl h ha)
  have h3 : tsOk len (tS3 LT len TV tu s) := by
    unfold tS3
    split
    · exact h2
    · exact blS_ok (by decide) ⟨by have := h2.2.2.2.2; omega, by have := h2.2.2.2.2; omega⟩ h2
  have h4 : tsOk len (tS4 LT len TV tu s) := rnS_ok hl h3
  have h5 : tsOk len (tS5 LT len TV tu s) := by
    unfold tS5
    split
    · exact blS_ok (by decide) ⟨by have := h4.2.2.2.2; omega, by have := h4.2.2.2.2; omega⟩ h4
    · exact h4
  exact reS_ok hl h5
theorem pS5_ok {LT : Nat → Nat} {len pd : Nat} {s : TS} (hl : len ≤ 220) (h : tsOk len s) (ha : s.1 < len) : tsOk len (pS5 LT len pd s) := by
  have h2 : tsOk len (pS2 LT len s) := rnS_ok hl (rwS_ok hl h ha)
  have h3 : tsOk len (pS3 LT len pd s) := by
    unfold pS3
    split
    · exact blS_ok (by decide) ⟨by have := h2.2.2.2.2; omega, by have := h2.2.2.2.2; omega⟩ h2
    · exact h2
  exact reS_ok hl (rnS_ok hl h3)
theorem cbN_ok {LT : Nat → Nat} {len c : Nat} {q0 : CS} (hl : len ≤ 220) (h : tsOk len q0.2.1) (hF : ∀ k, k < 24 → q0.2.2.1 k < 10) (hS : ∀ k, k < 4 → q0.2.2.2 k < 7) : ∀ f, f ≤ 6 → tsOk len (cbN LT len c q0 f).2.1 ∧ (∀ k, k < 24 → (cbN LT len c q0 f).2.2.1 k < 10) ∧ ∀ k, k < 4 → (cbN LT len c q0 f).2.2.2 k < 7
  | 0, _ => ⟨h, hF, hS⟩
  | f + 1, hf => by
    have ih := cbN_ok (LT := LT) (c := c) hl h hF hS f (by omega)
    simp only [cbN]
    split
    · refine ⟨cbT_ok (rnS_ok hl ih.1), ?_, ?_⟩
      · exact bnd_up ih.2.1 (Nat.lt_succ_of_le rnV_le)
      · exact bnd_up ih.2.2 (by omega)
    · exact ih
theorem selN_b {b : Bool} {f g : Nat → Nat} {len m : Nat} (hf : ∀ k, k < len → f k < m) (hg : ∀ k, k < len → g k < m) : ∀ k, k < len → selN b f g k < m := by
  intro k hk
  unfold selN
  split
  · exact hf k hk
  · exact hg k hk
theorem fCl_ok {LT : Nat → Nat} {len : Nat} {s : TS} {tu pd : Nat} {hd : Bool} {lo e : Nat} {hn : Bool} {cu : Nat} {SC FG TV PR : Nat → Nat} (hl : len ≤ 220) (h : ptOk len (s, tu, pd, hd, lo, e, hn, cu, SC, FG, TV, PR)) (ha : skipB LT len s.1 < len) : ptOk len (fCl LT len s tu pd hd lo e hn cu SC FG TV PR) := by
  obtain ⟨h1, h2, h3, h4, h5, h6, h7, h8⟩ := h
  simp only at h1 h2 h3 h4 h5 h6 h7 h8
  have hs : tsOk len (skipB LT len s.1, s.2) := ⟨Nat.le_of_lt ha, h1.2⟩
  have hs1 : (skipB LT len s.1, s.2).1 < len := ha
  unfold fCl
  split
  · exact ⟨dS6_ok hl hs hs1, h2, h3, h4, h5, h6, h7, h8⟩
  · split
    · exact ⟨blS_ok (by decide) ⟨by simp only; omega, by simp only; omega⟩ hs, h2, h3, h4, h5, h6, h7, h8⟩
    · split
      · have hc := cbN_ok (LT := LT) (c := cu) (q0 := (true, rwS (decide (4 ≤ cu)) (skipB LT len s.1, s.2), FG, SC)) hl (rwS_ok hl hs hs1) h6 h5 6 (Nat.le_refl _)
        refine ⟨reS_ok hl hc.1, h2, h3, ?_, hc.2.2, hc.2.1, h7, h8⟩
        show pk _ (cu + 1) cu ≤ 4
        by_cases h9 : 4 ≤ cu
        · rw [pk_f (decide_eq_false (cS6_f h9))]; exact h4
        · unfold pk; split <;> omega
      · split
        · refine ⟨tS6_ok hl hs hs1, ?_, h3, h4, h5, h6, ?_, h8⟩
          · show pk _ (tu + 1) tu ≤ 4
            by_cases h9 : 4 ≤ tu
            · rw [pk_f (decide_eq_false (tS6_f h9))]; exact h2
            · unfold pk; split <;> omega
          · exact selN_b (bnd_up (bnd_up h7 (Nat.lt_succ_of_le rnV_le)) (Nat.lt_succ_of_le rnV_le)) h7
        · split
          · refine ⟨pS5_ok hl hs hs1, h2, ?_, h4, h5, h6, h7, ?_⟩
            · show pk _ _ pd < 1024
              unfold pk
              split
              · have h9 : 2 ^ pA LT len (skipB LT len s.1, s.2) < 2 ^ 10 := Nat.pow_lt_pow_right (by decide) (Nat.lt_succ_of_le rnV_le)
                exact Nat.or_lt_two_pow (n := 10) h3 h9
              · exact h3
            · exact selN_b (bnd_up h8 (Nat.lt_succ_of_le rnV_le)) h8
          · exact ⟨blS_ok (by decide) ⟨by simp only; omega, by simp only; omega⟩ hs, h2, h3, h4, h5, h6, h7, h8⟩
theorem fCl_idem {LT : Nat → Nat} {len : Nat} {a : Nat} {t : Nat × Int × Nat} {tu pd : Nat} {hd : Bool} {lo e : Nat} {hn : Bool} {cu : Nat} {SC FG TV PR : Nat → Nat} : fCl LT len (skipB LT len a, t) tu pd hd lo e hn cu SC FG TV PR = fCl LT len (a, t) tu pd hd lo e hn cu SC FG TV PR := by
  unfold fCl
  simp only [skipB_idem]
noncomputable def clq (LT : Nat → Nat) (len : Nat) (q : PT) : PT := fCl LT len q.1 q.2.1 q.2.2.1 q.2.2.2.1 q.2.2.2.2.1 q.2.2.2.2.2.1 q.2.2.2.2.2.2.1 q.2.2.2.2.2.2.2.1 q.2.2.2.2.2.2.2.2.1 q.2.2.2.2.2.2.2.2.2.1 q.2.2.2.2.2.2.2.2.2.2.1 q.2.2.2.2.2.2.2.2.2.2.2
def moreB (LT : Nat → Nat) (len : Nat) (q : PT) : Bool := decide (q.1.2.1 = 0 ∧ skipB LT len q.1.1 < len)
noncomputable def clN (LT : Nat → Nat) (len : Nat) (q0 : PT) : Nat → PT
  | 0 => q0
  | i + 1 => if moreB LT len (clN LT len q0 i) = true then clq LT len (clN LT len q0 i) else clN LT len q0 i
noncomputable def stB (LT : Nat → Nat) (len : Nat) (q0 : PT) : Nat → Bool
  | 0 => false
  | i + 1 => stB LT len q0 i || !moreB LT len (clN LT len q0 i)
noncomputable def rdAt (LT : Nat → Nat) (len : Nat) (q0 : PT) : Nat := pk (stB LT len q0 220) (skipB LT len (clN LT len q0 220).1.1) (clN LT len q0 220).1.1
theorem clN_y {LT : Nat → Nat} {len : Nat} {q0 q : PT} {i : Nat} (e : q = clN LT len q0 i) (h : moreB LT len q = true) : clq LT len q = clN LT len q0 (i + 1) := by
  subst e; rw [clN, if_pos h]
theorem clN_stay {LT : Nat → Nat} {len : Nat} {q0 : PT} {i : Nat} (h : moreB LT len (clN LT len q0 i) = false) : ∀ m, clN LT len q0 (i + m) = clN LT len q0 i ∧ stB LT len q0 (i + m + 1) = true
  | 0 => ⟨rfl, by simp [stB, h]⟩
  | m + 1 => by
    have ih := clN_stay h m
    have e1 : clN LT len q0 (i + (m + 1)) = clN LT len q0 i := by
      show clN LT len q0 (i + m + 1) = _
      rw [clN, ih.1, h]; rfl
    refine ⟨e1, ?_⟩
    show (stB LT len q0 (i + m + 1) || _) = true
    rw [ih.2]; rfl
theorem clN_end {LT : Nat → Nat} {len : Nat} {q0 q : PT} {i : Nat} (e : q = clN LT len q0 i) (hi : i < 220) (h : moreB LT len q = false) : q = clN LT len q0 220 ∧ rdAt LT len q0 = skipB LT len q.1.1 := by
  subst e
  have h1 := (clN_stay h (220 - i)).1
  have h2 := (clN_stay h (219 - i)).2
  rw [show i + (220 - i) = 220 by omega] at h1
  rw [show i + (219 - i) + 1 = 220 by omega] at h2
  exact ⟨h1.symm, by rw [rdAt, pk_t h2, h1]⟩
theorem clN_full {LT : Nat → Nat} {len : Nat} {q0 q : PT} {i : Nat} (e : q = clN LT len q0 i) (hi : i = 220) (hs : stB LT len q0 i = false) : q = clN LT len q0 220 ∧ rdAt LT len q0 = q.1.1 := by
  rw [hi] at e hs
  exact ⟨e, by rw [rdAt, pk_f hs, ← e]⟩
set_option maxHeartbeats 4000000 in
set_option maxRecDepth 100000 in
theorem c_X5_readInto (l : Launch) (D : KD) (tx : Nat) (lt : Nat) (len : Nat) (fa : Int) (fn : Nat) (at_ : Nat) (na : Nat) (tu : Nat) (pd : Nat) (LT : Nat → Nat) (tb : Nat) (thd : Bool) (tlo : Nat) (te : Nat) (thn : Bool) (tcu : Nat) (tsc : Nat) (tfg : Nat) (ttv : Nat) (tpr : Nat) (tSC : Nat → Nat) (tFG : Nat → Nat) (tTV : Nat → Nat) (tPR : Nat → Nat) (qf : PT) (ra : Nat) (hqf : qf = clN LT len ((0, 0, -1, na), 0, 0, false, 0, 0, false, 0, tSC, tFG, (fun k9 => k9), (fun _ => 1)) 220) (hra : ra = rdAt LT len ((0, 0, -1, na), 0, 0, false, 0, 0, false, 0, tSC, tFG, (fun k9 => k9), (fun _ => 1))) (hlen : len ≤ 220) (hLT : ∀ k, k < 220 → LT k < 256) (hna : na ≤ 220) (htSC : ∀ k, k < 4 → tSC k < 7) (htFG : ∀ k, k < 24 → tFG k < 10) : cM l yX5_readInto cX5_readInto 3 (some .int) rm_X5_readInto D [(tx, .inr (5, [.ref lt, .int (nI len), .int (iI fa), .int (nI fn), .int (nI at_), .int (nI na), .int (nI tu), .int (nI pd)])), (lt, .inl (D.2.2.2.1, 220, .inl (nA LT))), (tb, .inr (0, [.int (nI thd.toNat), .int (nI tlo), .int (iI ((te : Int) - 1)), .int (nI thn.toNat), .int (nI tcu), .ref tsc, .ref tfg, .ref ttv, .ref tpr])), (tsc, .inl (D.2.1, 4, .inl (nA tSC))), (tfg, .inl (D.2.1, 24, .inl (nA tFG))), (ttv, .inl (D.2.1, 10, .inl (nA tTV))), (tpr, .inl (D.2.1, 10, .inl (nA tPR)))] [.ref tx, .ref tb] (nI qf.1.2.1) [(tx, .inr (5, [.ref lt, .int (nI 0), .int (iI qf.1.2.2.1), .int (nI qf.1.2.1), .int (nI ra), .int (nI qf.1.2.2.2), .int (nI qf.2.1), .int (nI qf.2.2.1)])), (lt, .inl (D.2.2.2.1, 220, .inl (nA LT))), (tb, .inr (0, [.int (nI qf.2.2.2.1.toNat), .int (nI qf.2.2.2.2.1), .int (iI ((qf.2.2.2.2.2.1 : Int) - 1)), .int (nI qf.2.2.2.2.2.2.1.toNat), .int (nI qf.2.2.2.2.2.2.2.1), .ref tsc, .ref tfg, .ref ttv, .ref tpr])), (tsc, .inl (D.2.1, 4, .inl (nA qf.2.2.2.2.2.2.2.2.1))), (tfg, .inl (D.2.1, 24, .inl (nA qf.2.2.2.2.2.2.2.2.2.1))), (ttv, .inl (D.2.1, 10, .inl (nA qf.2.2.2.2.2.2.2.2.2.2.1))), (tpr, .inl (D.2.1, 10, .inl (nA qf.2.2.2.2.2.2.2.2.2.2.2)))] := by
  refine cM.mk (by decide) (retI _) (Nat.le_of_ble_eq_true rfl) ?_
  intro X A hx hL hA hW hret ls hl
  subst hL
  have hl : lv_has ls 3 [(0, .ref tx), (1, .ref tb)] := hl
  refine x_aload_n hx dX5_readInto_0 hl 1 rfl ?_
  refine x_callVV (As := []) (rest := []) (wr := [(tx, .inr (5, [.ref lt, .int (nI len), .int (iI fa), .int (nI fn), .int (nI at_), .int (nI na), .int (nI tu), .int (nI pd)])), (lt, .inl (D.2.2.2.1, 220, .inl (nA LT))), (tsc, .inl (D.2.1, 4, .inl (nA tSC))), (tfg, .inl (D.2.1, 24, .inl (nA tFG)))]) hx yv_X0_clear (c_X0_clear _ D tb thd tlo te thn tcu tsc tfg ttv tpr tTV tPR ) wm_RX5_41 hA hW [2, 5, 6] [0, 1, 3, 4] rfl rfl rfl rfl rfl 2 rfl rfl ⟨rfl, rfl⟩ ⟨Nat.le_of_ble_eq_true rfl, Nat.le_of_ble_eq_true rfl⟩ ⟨Nat.zero_le _, Nat.zero_le _⟩ hl rfl rfl (Nat.le_of_ble_eq_true rfl) dX5_readInto_1 [(tx, .inr (5, [.ref lt, .int (nI len), .int (iI fa), .int (nI fn), .int (nI at_), .int (nI na), .int (nI tu), .int (nI pd)])), (lt, .inl (D.2.2.2.1, 220, .inl (nA LT))), (tsc, .inl (D.2.1, 4, .inl (nA tSC))), (tfg, .inl (D.2.1, 24, .inl (nA tFG))), (tb, .inr (0, [.int (nI false.toNat), .int (nI 0), .int (iI ((0 : Int) - 1)), .int (nI false.toNat), .int (nI 0), .ref tsc, .ref tfg, .ref ttv, .ref tpr])), (ttv, .inl (D.2.1, 10, .inl (nA (fun k => k)))), (tpr, .inl (D.2.1, 10, .inl (nA (fun _ => 1))))] rfl (fun H locs hW => ?_)
  refine x_aload_n hx dX5_readInto_4 hl 0 rfl ?_
  refine x_iconst (v := nI 0) hx dX5_readInto_5 (by decide) ?_
  refine x_put5 hx hW 0 rfl 4 (Nat.le_of_ble_eq_true rfl) wf_RX5_25 rfl rfl rfl (Nat.le_of_ble_eq_true rfl) dX5_readInto_6 [(tx, .inr (5, [.ref lt, .int (nI len), .int (iI fa), .int (nI fn), .int (nI 0), .int (nI na), .int (nI tu), .int (nI pd)])), (lt, .inl (D.2.2.2.1, 220, .inl (nA LT))), (tsc, .inl (D.2.1, 4, .inl (nA tSC))), (tfg, .inl (D.2.1, 24, .inl (nA tFG))), (tb, .inr (0, [.int (nI false.toNat), .int (nI 0), .int (iI ((0 : Int) - 1)), .int (nI false.toNat), .int (nI 0), .ref tsc, .ref tfg, .ref ttv, .ref tpr])), (ttv, .inl (D.2.1, 10, .inl (nA (fun k => k)))), (tpr, .inl (D.2.1, 10, .inl (nA (fun _ => 1))))] rfl (fun H locs hW => ?_)
  refine x_aload_n hx dX5_readInto_9 hl 0 rfl ?_
  refine x_iconst (v := nI 0) hx dX5_readInto_10 (by decide) ?_
  refine x_put5 hx hW 0 rfl 6 (Nat.le_of_ble_eq_true rfl) wf_RX5_31 rfl rfl rfl (Nat.le_of_ble_eq_true rfl) dX5_readInto_11 [(tx, .inr (5, [.ref lt, .int (nI len), .int (iI fa), .int (nI fn), .int (nI 0), .int (nI na), .int (nI 0), .int (nI pd)])), (lt, .inl (D.2.2.2.1, 220, .inl (nA LT))), (tsc, .inl (D.2.1, 4, .inl (nA tSC))), (tfg, .inl (D.2.1, 24, .inl (nA tFG))), (tb, .inr (0, [.int (nI false.toNat), .int (nI 0), .int (iI ((0 : Int) - 1)), .int (nI false.toNat), .int (nI 0), .ref tsc, .ref tfg, .ref ttv, .ref tpr])), (ttv, .inl (D.2.1, 10, .inl (nA (fun k => k)))), (tpr, .inl (D.2.1, 10, .inl (nA (fun _ => 1))))] rfl (fun H locs hW => ?_)
  refine x_aload_n hx dX5_readInto_14 hl 0 rfl ?_
  refine x_iconst (v := nI 0) hx dX5_readInto_15 (by decide) ?_
  refine x_put5 hx hW 0 rfl 7 (Nat.le_of_ble_eq_true rfl) wf_RX5_34 rfl rfl rfl (Nat.le_of_ble_eq_true rfl) dX5_readInto_16 [(tx, .inr (5, [.ref lt, .int (nI len), .int (iI fa), .int (nI fn), .int (nI 0), .int (nI na), .int (nI 0), .int (nI 0)])), (lt, .inl (D.2.2.2.1, 220, .inl (nA LT))), (tsc, .inl (D.2.1, 4, .inl (nA tSC))), (tfg, .inl (D.2.1, 24, .inl (nA tFG))), (tb, .inr (0, [.int (nI false.toNat), .int (nI 0), .int (iI ((0 : Int) - 1)), .int (nI false.toNat), .int (nI 0), .ref tsc, .ref tfg, .ref ttv, .ref tpr])), (ttv, .inl (D.2.1, 10, .inl (nA (fun k => k)))), (tpr, .inl (D.2.1, 10, .inl (nA (fun _ => 1))))] rfl (fun H locs hW => ?_)
  refine x_aload_n hx dX5_readInto_19 hl 0 rfl ?_
  refine x_iconst (v := nI 0) hx dX5_readInto_20 (by decide) ?_
  refine x_put5 hx hW 0 rfl 3 (Nat.le_of_ble_eq_true rfl) wf_RX5_22 rfl rfl rfl (Nat.le_of_ble_eq_true rfl) dX5_readInto_21 [(tx, .inr (5, [.ref lt, .int (nI len), .int (iI fa), .int (nI 0), .int (nI 0), .int (nI na), .int (nI 0), .int (nI 0)])), (lt, .inl (D.2.2.2.1, 220, .inl (nA LT))), (tsc, .inl (D.2.1, 4, .inl (nA tSC))), (tfg, .inl (D.2.1, 24, .inl (nA tFG))), (tb, .inr (0, [.int (nI false.toNat), .int (nI 0), .int (iI ((0 : Int) - 1)), .int (nI false.toNat), .int (nI 0), .ref tsc, .ref tfg, .ref ttv, .ref tpr])), (ttv, .inl (D.2.1, 10, .inl (nA (fun k => k)))), (tpr, .inl (D.2.1, 10, .inl (nA (fun _ => 1))))] rfl (fun H locs hW => ?_)
  refine x_aload_n hx dX5_readInto_24 hl 0 rfl ?_
  refine x_iconst (v := iI (-1)) hx dX5_readInto_25 (by decide) ?_
  refine x_put5 hx hW 0 rfl 2 (Nat.le_of_ble_eq_true rfl) wf_RX5_19 rfl rfl rfl (Nat.le_of_ble_eq_true rfl) dX5_readInto_26 [(tx, .inr (5, [.ref lt, .int (nI len), .int (iI (-1)), .int (nI 0), .int (nI 0), .int (nI na), .int (nI 0), .int (nI 0)])), (lt, .inl (D.2.2.2.1, 220, .inl (nA LT))), (tsc, .inl (D.2.1, 4, .inl (nA tSC))), (tfg, .inl (D.2.1, 24, .inl (nA tFG))), (tb, .inr (0, [.int (nI false.toNat), .int (nI 0), .int (iI ((0 : Int) - 1)), .int (nI false.toNat), .int (nI 0), .ref tsc, .ref tfg, .ref ttv, .ref tpr])), (ttv, .inl (D.2.1, 10, .inl (nA (fun k => k)))), (tpr, .inl (D.2.1, 10, .inl (nA (fun _ => 1))))] rfl (fun H locs hW => ?_)
  refine x_iconst (v := nI 0) hx dX5_readInto_29 (by decide) ?_
  refine x_istore_n (lv' := [(2, .int (nI 0)), (0, .ref tx), (1, .ref tb)]) hx dX5_readInto_30 hl (Nat.le_of_ble_eq_true rfl) rfl (fun ls hl => ?_)
  have L31_1 : ∀ (L31_1n : Nat) (i : Nat) (a_ : Nat) (n_ : Nat) (fz : Int) (m_ : Nat) (ztu : Nat) (zpd : Nat) (zhd : Bool) (zlo : Nat) (ze : Nat) (zhn : Bool) (zcu : Nat) (zSC : Nat → Nat) (zFG : Nat → Nat) (zTV : Nat → Nat) (zPR : Nat → Nat), (i ≤ 220) → ((((a_, n_, fz, m_) : TS), ztu, zpd, zhd, zlo, ze, zhn, zcu, zSC, zFG, zTV, zPR) = clN LT len ((0, 0, -1, na), 0, 0, false, 0, 0, false, 0, tSC, tFG, (fun k9 => k9), (fun _ => 1)) i) → (ptOk len (((a_, n_, fz, m_) : TS), ztu, zpd, zhd, zlo, ze, zhn, zcu, zSC, zFG, zTV, zPR)) → (stB LT len ((0, 0, -1, na), 0, 0, false, 0, 0, false, 0, tSC, tFG, (fun k9 => k9), (fun _ => 1)) i = false) → 220 - i < L31_1n → ∀ (H : Heap) (locs : List Loc), Wd X D A [(tx, .inr (5, [.ref lt, .int (nI len), .int (iI fz), .int (nI n_), .int (nI a_), .int (nI m_), .int (nI ztu), .int (nI zpd)])), (lt, .inl (D.2.2.2.1, 220, .inl (nA LT))), (tsc, .inl (D.2.1, 4, .inl (nA zSC))), (tfg, .inl (D.2.1, 24, .inl (nA zFG))), (tb, .inr (0, [.int (nI zhd.toNat), .int (nI zlo), .int (iI ((ze : Int) - 1)), .int (nI zhn.toNat), .int (nI zcu), .ref tsc, .ref tfg, .ref ttv, .ref tpr])), (ttv, .inl (D.2.1, 10, .inl (nA zTV))), (tpr, .inl (D.2.1, 10, .inl (nA zPR)))] H locs → ∀ ls : Array Slot, lv_has ls 3 [(0, .ref tx), (1, .ref tb), (2, .int (nI i))] → Wx X 0 0 H locs 31 ls [] := by
    intro L31_1n
    induction L31_1n with
    | zero =>
      intro i a_ n_ fz m_ ztu zpd zhd zlo ze zhn zcu zSC zFG zTV zPR h1 hq hpo hst hm
      exact absurd hm (Nat.not_lt_zero _)
    | succ L31_1n ihL31_1 =>
      intro i a_ n_ fz m_ ztu zpd zhd zlo ze zhn zcu zSC zFG zTV zPR h1 hq hpo hst hm H locs hW ls hl
      obtain ⟨⟨hp1, hp2, hp3, hp4, hp5⟩, hp6, hp7, hp8, hp9, hp10, hp11, hp12⟩ := id hpo
      simp only at hp1 hp2 hp3 hp4 hp5 hp6 hp7 hp8 hp9 hp10 hp11 hp12
      have hsk := skipB_rng LT hp1
      refine x_iload_n hx dX5_readInto_31 hl 2 rfl ?_
      refine x_sipush (v := nI 220) hx dX5_readInto_32 (by decide) ?_
      refine x_icmp_ge_N (a := i) (b := 220) (tgt := 56) hx dX5_readInto_35 (by decide) (by omega) (by omega) (fun h_2 => ?_) (fun h_2 => ?_)
      · have hE := clN_full hq (by omega) hst
        have hE1 := hE.1
        have hE2 : rdAt LT len ((0, 0, -1, na), 0, 0, false, 0, 0, false, 0, tSC, tFG, (fun k9 => k9), (fun _ => 1)) = a_ := hE.2
        refine x_aload_n hx dX5_readInto_56 hl 0 rfl ?_
        refine x_iconst (v := nI 0) hx dX5_readInto_57 (by decide) ?_
        refine x_put5 hx hW 0 rfl 1 (Nat.le_of_ble_eq_true rfl) wf_RX5_15 rfl rfl rfl (Nat.le_of_ble_eq_true rfl) dX5_readInto_58 [(tx, .inr (5, [.ref lt, .int (nI 0), .int (iI fz), .int (nI n_), .int (nI a_), .int (nI m_), .int (nI ztu), .int (nI zpd)])), (lt, .inl (D.2.2.2.1, 220, .inl (nA LT))), (tsc, .inl (D.2.1, 4, .inl (nA zSC))), (tfg, .inl (D.2.1, 24, .inl (nA zFG))), (tb, .inr (0, [.int (nI zhd.toNat), .int (nI zlo), .int (iI ((ze : Int) - 1)), .int (nI zhn.toNat), .int (nI zcu), .ref tsc, .ref tfg, .ref ttv, .ref tpr])), (ttv, .inl (D.2.1, 10, .inl (nA zTV))), (tpr, .inl (D.2.1, 10, .inl (nA zPR)))] rfl (fun H locs hW => ?_)
        refine x_aload_n hx dX5_readInto_61 hl 0 rfl ?_
        refine x_get5 hx hW.1 0 rfl 3 (Nat.le_of_ble_eq_true rfl) wf_RX5_22 rfl dX5_readInto_62 ?_
        have hrv : nI n_ = nI qf.1.2.1 := by rw [hqf, ← hE1]
        have e_3 : ∀ k, k < 4 → (zSC) k = (qf.2.2.2.2.2.2.2.2.1) k := by
          intro k hk
          rw [hqf, ← hE1]
        have hW : Wd X D A [(tx, .inr (5, [.ref lt, .int (nI 0), .int (iI fz), .int (nI n_), .int (nI a_), .int (nI m_), .int (nI ztu), .int (nI zpd)])), (lt, .inl (D.2.2.2.1, 220, .inl (nA LT))), (tsc, .inl (D.2.1, 4, .inl (nA qf.2.2.2.2.2.2.2.2.1))), (tfg, .inl (D.2.1, 24, .inl (nA zFG))), (tb, .inr (0, [.int (nI zhd.toNat), .int (nI zlo), .int (iI ((ze : Int) - 1)), .int (nI zhn.toNat), .int (nI zcu), .ref tsc, .ref tfg, .ref ttv, .ref tpr])), (ttv, .inl (D.2.1, 10, .inl (nA zTV))), (tpr, .inl (D.2.1, 10, .inl (nA zPR)))] _ _ := hW.row 2 rfl (fun j hj => congrArg (nI) (e_3 j hj)) rfl
        have e_4 : ∀ k, k < 24 → (zFG) k = (qf.2.2.2.2.2.2.2.2.2.1) k := by
          intro k hk
          rw [hqf, ← hE1]
        have hW : Wd X D A [(tx, .inr (5, [.ref lt, .int (nI 0), .int (iI fz), .int (nI n_), .int (nI a_), .int (nI m_), .int (nI ztu), .int (nI zpd)])), (lt, .inl (D.2.2.2.1, 220, .inl (nA LT))), (tsc, .inl (D.2.1, 4, .inl (nA qf.2.2.2.2.2.2.2.2.1))), (tfg, .inl (D.2.1, 24, .inl (nA qf.2.2.2.2.2.2.2.2.2.1))), (tb, .inr (0, [.int (nI zhd.toNat), .int (nI zlo), .int (iI ((ze : Int) - 1)), .int (nI zhn.toNat), .int (nI zcu), .ref tsc, .ref tfg, .ref ttv, .ref tpr])), (ttv, .inl (D.2.1, 10, .inl (nA zTV))), (tpr, .inl (D.2.1, 10, .inl (nA zPR)))] _ _ := hW.row 3 rfl (fun j hj => congrArg (nI) (e_4 j hj)) rfl
        have e_5 : ∀ k, k < 10 → (zTV) k = (qf.2.2.2.2.2.2.2.2.2.2.1) k := by
          intro k hk
          rw [hqf, ← hE1]
        have hW : Wd X D A [(tx, .inr (5, [.ref lt, .int (nI 0), .int (iI fz), .int (nI n_), .int (nI a_), .int (nI m_), .int (nI ztu), .int (nI zpd)])), (lt, .inl (D.2.2.2.1, 220, .inl (nA LT))), (tsc, .inl (D.2.1, 4, .inl (nA qf.2.2.2.2.2.2.2.2.1))), (tfg, .inl (D.2.1, 24, .inl (nA qf.2.2.2.2.2.2.2.2.2.1))), (tb, .inr (0, [.int (nI zhd.toNat), .int (nI zlo), .int (iI ((ze : Int) - 1)), .int (nI zhn.toNat), .int (nI zcu), .ref tsc, .ref tfg, .ref ttv, .ref tpr])), (ttv, .inl (D.2.1, 10, .inl (nA qf.2.2.2.2.2.2.2.2.2.2.1))), (tpr, .inl (D.2.1, 10, .inl (nA zPR)))] _ _ := hW.row 5 rfl (fun j hj => congrArg (nI) (e_5 j hj)) rfl
        have e_6 : ∀ k, k < 10 → (zPR) k = (qf.2.2.2.2.2.2.2.2.2.2.2) k := by
          intro k hk
          rw [hqf, ← hE1]
        have hW : Wd X D A [(tx, .inr (5, [.ref lt, .int (nI 0), .int (iI fz), .int (nI n_), .int (nI a_), .int (nI m_), .int (nI ztu), .int (nI zpd)])), (lt, .inl (D.2.2.2.1, 220, .inl (nA LT))), (tsc, .inl (D.2.1, 4, .inl (nA qf.2.2.2.2.2.2.2.2.1))), (tfg, .inl (D.2.1, 24, .inl (nA qf.2.2.2.2.2.2.2.2.2.1))), (tb, .inr (0, [.int (nI zhd.toNat), .int (nI zlo), .int (iI ((ze : Int) - 1)), .int (nI zhn.toNat), .int (nI zcu), .ref tsc, .ref tfg, .ref ttv, .ref tpr])), (ttv, .inl (D.2.1, 10, .inl (nA qf.2.2.2.2.2.2.2.2.2.2.1))), (tpr, .inl (D.2.1, 10, .inl (nA qf.2.2.2.2.2.2.2.2.2.2.2)))] _ _ := hW.row 6 rfl (fun j hj => congrArg (nI) (e_6 j hj)) rfl
        have e_7 : (fz : Int) = qf.1.2.2.1 := by
          clear hrv
          first | (rw [hqf, ← hE1]; done) | (rw [hra, hE2]; done)
        have e_8 : (n_ : Nat) = qf.1.2.1 := by
          clear hrv e_7
          first | (rw [hqf, ← hE1]; done) | (rw [hra, hE2]; done)
        have e_9 : (a_ : Nat) = ra := by
          clear hrv e_7 e_8
          first | (rw [hqf, ← hE1]; done) | (rw [hra, hE2]; done)
        have e_10 : (m_ : Nat) = qf.1.2.2.2 := by
          clear hrv e_7 e_8 e_9
          first | (rw [hqf, ← hE1]; done) | (rw [hra, hE2]; done)
        have e_11 : (ztu : Nat) = qf.2.1 := by
          clear hrv e_7 e_8 e_9 e_10
          first | (rw [hqf, ← hE1]; done) | (rw [hra, hE2]; done)
        have e_12 : (zpd : Nat) = qf.2.2.1 := by
          clear hrv e_7 e_8 e_9 e_10 e_11
          first | (rw [hqf, ← hE1]; done) | (rw [hra, hE2]; done)
        have e_13 : (zhd : Bool) = qf.2.2.2.1 := by
          clear hrv e_7 e_8 e_9 e_10 e_11 e_12
          rw [hqf, ← hE1]
        have e_14 : (zlo : Nat) = qf.2.2.2.2.1 := by
          clear hrv e_7 e_8 e_9 e_10 e_11 e_12 e_13
          rw [hqf, ← hE1]
        have e_15 : (ze : Nat) = qf.2.2.2.2.2.1 := by
          clear hrv e_7 e_8 e_9 e_10 e_11 e_12 e_13 e_14
          rw [hqf, ← hE1]
        have e_16 : (zhn : Bool) = qf.2.2.2.2.2.2.1 := by
          clear hrv e_7 e_8 e_9 e_10 e_11 e_12 e_13 e_14 e_15
          rw [hqf, ← hE1]
        have e_17 : (zcu : Nat) = qf.2.2.2.2.2.2.2.1 := by
          clear hrv e_7 e_8 e_9 e_10 e_11 e_12 e_13 e_14 e_15 e_16
          rw [hqf, ← hE1]
        exact hret _ _ _ _ _ dX5_readInto_65 (hrv) (hW.conv [0, 1, 4, 2, 3, 5, 6] (w1 := [(tx, .inr (5, [.ref lt, .int (nI 0), .int (iI fz), .int (nI n_), .int (nI a_), .int (nI m_), .int (nI ztu), .int (nI zpd)])), (lt, .inl (D.2.2.2.1, 220, .inl (nA LT))), (tb, .inr (0, [.int (nI zhd.toNat), .int (nI zlo), .int (iI ((ze : Int) - 1)), .int (nI zhn.toNat), .int (nI zcu), .ref tsc, .ref tfg, .ref ttv, .ref tpr])), (tsc, .inl (D.2.1, 4, .inl (nA qf.2.2.2.2.2.2.2.2.1))), (tfg, .inl (D.2.1, 24, .inl (nA qf.2.2.2.2.2.2.2.2.2.1))), (ttv, .inl (D.2.1, 10, .inl (nA qf.2.2.2.2.2.2.2.2.2.2.1))), (tpr, .inl (D.2.1, 10, .inl (nA qf.2.2.2.2.2.2.2.2.2.2.2)))]) (w2 := [(tx, .inr (5, [.ref lt, .int (nI 0), .int (iI qf.1.2.2.1), .int (nI qf.1.2.1), .int (nI ra), .int (nI qf.1.2.2.2), .int (nI qf.2.1), .int (nI qf.2.2.1)])), (lt, .inl (D.2.2.2.1, 220, .inl (nA LT))), (tb, .inr (0, [.int (nI qf.2.2.2.1.toNat), .int (nI qf.2.2.2.2.1), .int (iI ((qf.2.2.2.2.2.1 : Int) - 1)), .int (nI qf.2.2.2.2.2.2.1.toNat), .int (nI qf.2.2.2.2.2.2.2.1), .ref tsc, .ref tfg, .ref ttv, .ref tpr])), (tsc, .inl (D.2.1, 4, .inl (nA qf.2.2.2.2.2.2.2.2.1))), (tfg, .inl (D.2.1, 24, .inl (nA qf.2.2.2.2.2.2.2.2.2.1))), (ttv, .inl (D.2.1, 10, .inl (nA qf.2.2.2.2.2.2.2.2.2.2.1))), (tpr, .inl (D.2.1, 10, .inl (nA qf.2.2.2.2.2.2.2.2.2.2.2)))]) rfl rfl (cE (congrArg (fun z => ((tx, .inr (5, z)) : Nat × va_E)) (cE rfl (cE rfl (cE (congrArg Value.int (congrArg (fun z : Int => iI z) e_7)) (cE (congrArg Value.int (congrArg (fun z : Nat => nI z) e_8)) (cE (congrArg Value.int (congrArg (fun z : Nat => nI z) e_9)) (cE (congrArg Value.int (congrArg (fun z : Nat => nI z) e_10)) (cE (congrArg Value.int (congrArg (fun z : Nat => nI z) e_11)) (cE (congrArg Value.int (congrArg (fun z : Nat => nI z) e_12)) rfl))))))))) (cE rfl (cE (congrArg (fun z => ((tb, .inr (0, z)) : Nat × va_E)) (cE (congrArg Value.int (congrArg (fun z : Bool => nI z.toNat) e_13)) (cE (congrArg Value.int (congrArg (fun z : Nat => nI z) e_14)) (cE (congrArg Value.int (congrArg (fun z : Nat => iI ((z : Int) - 1)) e_15)) (cE (congrArg Value.int (congrArg (fun z : Bool => nI z.toNat) e_16)) (cE (congrArg Value.int (congrArg (fun z : Nat => nI z) e_17)) (cE rfl (cE rfl (cE rfl (cE rfl rfl)))))))))) (cE rfl (cE rfl (cE rfl (cE rfl rfl))))))))
      · refine x_aload_n hx dX5_readInto_38 hl 0 rfl ?_
        refine x_callMV (As := []) (rest := []) (wr := [(tsc, .inl (D.2.1, 4, .inl (nA zSC))), (tfg, .inl (D.2.1, 24, .inl (nA zFG))), (tb, .inr (0, [.int (nI zhd.toNat), .int (nI zlo), .int (iI ((ze : Int) - 1)), .int (nI zhn.toNat), .int (nI zcu), .ref tsc, .ref tfg, .ref ttv, .ref tpr])), (ttv, .inl (D.2.1, 10, .inl (nA zTV))), (tpr, .inl (D.2.1, 10, .inl (nA zPR)))]) hx yv_X5_hasMore (c_X5_hasMore _ D tx lt len fz n_ a_ m_ ztu zpd LT (by first | assumption | omega | (simp [*]; done)) (by first | assumption | omega | (simp [*]; done)) (by first | assumption | omega | (simp [*]; done)) (by first | assumption | omega | (simp [*]; done))) wm_RX5_46 hA hW [0, 1] [2, 3, 4, 5, 6] rfl rfl rfl rfl rfl 0 rfl rfl ⟨rfl, rfl⟩ ⟨Nat.le_of_ble_eq_true rfl, Nat.le_of_ble_eq_true rfl⟩ ⟨Nat.zero_le _, Nat.zero_le _⟩ hl rfl rfl (Nat.le_of_ble_eq_true rfl) dX5_readInto_39 [(tsc, .inl (D.2.1, 4, .inl (nA zSC))), (tfg, .inl (D.2.1, 24, .inl (nA zFG))), (tb, .inr (0, [.int (nI zhd.toNat), .int (nI zlo), .int (iI ((ze : Int) - 1)), .int (nI zhn.toNat), .int (nI zcu), .ref tsc, .ref tfg, .ref ttv, .ref tpr])), (ttv, .inl (D.2.1, 10, .inl (nA zTV))), (tpr, .inl (D.2.1, 10, .inl (nA zPR))), (tx, .inr (5, [.ref lt, .int (nI len), .int (iI fz), .int (nI n_), .int (nI (skipB LT len a_)), .int (nI m_), .int (nI ztu), .int (nI zpd)])), (lt, .inl (D.2.2.2.1, 220, .inl (nA LT)))] rfl (fun H locs hW => ?_)
        refine x_if_eq_B (tgt := 56) hx dX5_readInto_42 (by decide) (fun h_18 => ?_) (fun h_18 => ?_)
        · have hd_19 := of_decide_eq_false h_18
          have hE := clN_end hq (by omega) (decide_eq_false (by assumption))
          have hE1 := hE.1
          have hE2 : rdAt LT len ((0, 0, -1, na), 0, 0, false, 0, 0, false, 0, tSC, tFG, (fun k9 => k9), (fun _ => 1)) = skipB LT len a_ := hE.2
          refine x_aload_n hx dX5_readInto_56 hl 0 rfl ?_
          refine x_iconst (v := nI 0) hx dX5_readInto_57 (by decide) ?_
          refine x_put5 hx hW 5 rfl 1 (Nat.le_of_ble_eq_true rfl) wf_RX5_15 rfl rfl rfl (Nat.le_of_ble_eq_true rfl) dX5_readInto_58 [(tsc, .inl (D.2.1, 4, .inl (nA zSC))), (tfg, .inl (D.2.1, 24, .inl (nA zFG))), (tb, .inr (0, [.int (nI zhd.toNat), .int (nI zlo), .int (iI ((ze : Int) - 1)), .int (nI zhn.toNat), .int (nI zcu), .ref tsc, .ref tfg, .ref ttv, .ref tpr])), (ttv, .inl (D.2.1, 10, .inl (nA zTV))), (tpr, .inl (D.2.1, 10, .inl (nA zPR))), (tx, .inr (5, [.ref lt, .int (nI 0), .int (iI fz), .int (nI n_), .int (nI (skipB LT len a_)), .int (nI m_), .int (nI ztu), .int (nI zpd)])), (lt, .inl (D.2.2.2.1, 220, .inl (nA LT)))] rfl (fun H locs hW => ?_)
          refine x_aload_n hx dX5_readInto_61 hl 0 rfl ?_
          refine x_get5 hx hW.1 5 rfl 3 (Nat.le_of_ble_eq_true rfl) wf_RX5_22 rfl dX5_readInto_62 ?_
          have hrv : nI n_ = nI qf.1.2.1 := by rw [hqf, ← hE1]
          have e_20 : ∀ k, k < 4 → (zSC) k = (qf.2.2.2.2.2.2.2.2.1) k := by
            intro k hk
            rw [hqf, ← hE1]
          have hW : Wd X D A [(tsc, .inl (D.2.1, 4, .inl (nA qf.2.2.2.2.2.2.2.2.1))), (tfg, .inl (D.2.1, 24, .inl (nA zFG))), (tb, .inr (0, [.int (nI zhd.toNat), .int (nI zlo), .int (iI ((ze : Int) - 1)), .int (nI zhn.toNat), .int (nI zcu), .ref tsc, .ref tfg, .ref ttv, .ref tpr])), (ttv, .inl (D.2.1, 10, .inl (nA zTV))), (tpr, .inl (D.2.1, 10, .inl (nA zPR))), (tx, .inr (5, [.ref lt, .int (nI 0), .int (iI fz), .int (nI n_), .int (nI (skipB LT len a_)), .int (nI m_), .int (nI ztu), .int (nI zpd)])), (lt, .inl (D.2.2.2.1, 220, .inl (nA LT)))] _ _ := hW.row 0 rfl (fun j hj => congrArg (nI) (e_20 j hj)) rfl
          have e_21 : ∀ k, k < 24 → (zFG) k = (qf.2.2.2.2.2.2.2.2.2.1) k := by
            intro k hk
            rw [hqf, ← hE1]
          have hW : Wd X D A [(tsc, .inl (D.2.1, 4, .inl (nA qf.2.2.2.2.2.2.2.2.1))), (tfg, .inl (D.2.1, 24, .inl (nA qf.2.2.2.2.2.2.2.2.2.1))), (tb, .inr (0, [.int (nI zhd.toNat), .int (nI zlo), .int (iI ((ze : Int) - 1)), .int (nI zhn.toNat), .int (nI zcu), .ref tsc, .ref tfg, .ref ttv, .ref tpr])), (ttv, .inl (D.2.1, 10, .inl (nA zTV))), (tpr, .inl (D.2.1, 10, .inl (nA zPR))), (tx, .inr (5, [.ref lt, .int (nI 0), .int (iI fz), .int (nI n_), .int (nI (skipB LT len a_)), .int (nI m_), .int (nI ztu), .int (nI zpd)])), (lt, .inl (D.2.2.2.1, 220, .inl (nA LT)))] _ _ := hW.row 1 rfl (fun j hj => congrArg (nI) (e_21 j hj)) rfl
          have e_22 : ∀ k, k < 10 → (zTV) k = (qf.2.2.2.2.2.2.2.2.2.2.1) k := by
            intro k hk
            rw [hqf, ← hE1]
          have hW : Wd X D A [(tsc, .inl (D.2.1, 4, .inl (nA qf.2.2.2.2.2.2.2.2.1))), (tfg, .inl (D.2.1, 24, .inl (nA qf.2.2.2.2.2.2.2.2.2.1))), (tb, .inr (0, [.int (nI zhd.toNat), .int (nI zlo), .int (iI ((ze : Int) - 1)), .int (nI zhn.toNat), .int (nI zcu), .ref tsc, .ref tfg, .ref ttv, .ref tpr])), (ttv, .inl (D.2.1, 10, .inl (nA qf.2.2.2.2.2.2.2.2.2.2.1))), (tpr, .inl (D.2.1, 10, .inl (nA zPR))), (tx, .inr (5, [.ref lt, .int (nI 0), .int (iI fz), .int (nI n_), .int (nI (skipB LT len a_)), .int (nI m_), .int (nI ztu), .int (nI zpd)])), (lt, .inl (D.2.2.2.1, 220, .inl (nA LT)))] _ _ := hW.row 3 rfl (fun j hj => congrArg (nI) (e_22 j hj)) rfl
          have e_23 : ∀ k, k < 10 → (zPR) k = (qf.2.2.2.2.2.2.2.2.2.2.2) k := by
            intro k hk
            rw [hqf, ← hE1]
          have hW : Wd X D A [(tsc, .inl (D.2.1, 4, .inl (nA qf.2.2.2.2.2.2.2.2.1))), (tfg, .inl (D.2.1, 24, .inl (nA qf.2.2.2.2.2.2.2.2.2.1))), (tb, .inr (0, [.int (nI zhd.toNat), .int (nI zlo), .int (iI ((ze : Int) - 1)), .int (nI zhn.toNat), .int (nI zcu), .ref tsc, .ref tfg, .ref ttv, .ref tpr])), (ttv, .inl (D.2.1, 10, .inl (nA qf.2.2.2.2.2.2.2.2.2.2.1))), (tpr, .inl (D.2.1, 10, .inl (nA qf.2.2.2.2.2.2.2.2.2.2.2))), (tx, .inr (5, [.ref lt, .int (nI 0), .int (iI fz), .int (nI n_), .int (nI (skipB LT len a_)), .int (nI m_), .int (nI ztu), .int (nI zpd)])), (lt, .inl (D.2.2.2.1, 220, .inl (nA LT)))] _ _ := hW.row 4 rfl (fun j hj => congrArg (nI) (e_23 j hj)) rfl
          have e_24 : (fz : Int) = qf.1.2.2.1 := by
            clear hrv
            first | (rw [hqf, ← hE1]; done) | (rw [hra, hE2]; done)
          have e_25 : (n_ : Nat) = qf.1.2.1 := by
            clear hrv e_24
            first | (rw [hqf, ← hE1]; done) | (rw [hra, hE2]; done)
          have e_26 : (skipB LT len a_ : Nat) = ra := by
            clear hrv e_24 e_25
            first | (rw [hqf, ← hE1]; done) | (rw [hra, hE2]; done)
          have e_27 : (m_ : Nat) = qf.1.2.2.2 := by
            clear hrv e_24 e_25 e_26
            first | (rw [hqf, ← hE1]; done) | (rw [hra, hE2]; done)
          have e_28 : (ztu : Nat) = qf.2.1 := by
            clear hrv e_24 e_25 e_26 e_27
            first | (rw [hqf, ← hE1]; done) | (rw [hra, hE2]; done)
          have e_29 : (zpd : Nat) = qf.2.2.1 := by
            clear hrv e_24 e_25 e_26 e_27 e_28
            first | (rw [hqf, ← hE1]; done) | (rw [hra, hE2]; done)
          have e_30 : (zhd : Bool) = qf.2.2.2.1 := by
            clear hrv e_24 e_25 e_26 e_27 e_28 e_29
            rw [hqf, ← hE1]
          have e_31 : (zlo : Nat) = qf.2.2.2.2.1 := by
            clear hrv e_24 e_25 e_26 e_27 e_28 e_29 e_30
            rw [hqf, ← hE1]
          have e_32 : (ze : Nat) = qf.2.2.2.2.2.1 := by
            clear hrv e_24 e_25 e_26 e_27 e_28 e_29 e_30 e_31
            rw [hqf, ← hE1]
          have e_33 : (zhn : Bool) = qf.2.2.2.2.2.2.1 := by
            clear hrv e_24 e_25 e_26 e_27 e_28 e_29 e_30 e_31 e_32
            rw [hqf, ← hE1]
          have e_34 : (zcu : Nat) = qf.2.2.2.2.2.2.2.1 := by
            clear hrv e_24 e_25 e_26 e_27 e_28 e_29 e_30 e_31 e_32 e_33
            rw [hqf, ← hE1]
          exact hret _ _ _ _ _ dX5_readInto_65 (hrv) (hW.conv [5, 6, 2, 0, 1, 3, 4] (w1 := [(tx, .inr (5, [.ref lt, .int (nI 0), .int (iI fz), .int (nI n_), .int (nI (skipB LT len a_)), .int (nI m_), .int (nI ztu), .int (nI zpd)])), (lt, .inl (D.2.2.2.1, 220, .inl (nA LT))), (tb, .inr (0, [.int (nI zhd.toNat), .int (nI zlo), .int (iI ((ze : Int) - 1)), .int (nI zhn.toNat), .int (nI zcu), .ref tsc, .ref tfg, .ref ttv, .ref tpr])), (tsc, .inl (D.2.1, 4, .inl (nA qf.2.2.2.2.2.2.2.2.1))), (tfg, .inl (D.2.1, 24, .inl (nA qf.2.2.2.2.2.2.2.2.2.1))), (ttv, .inl (D.2.1, 10, .inl (nA qf.2.2.2.2.2.2.2.2.2.2.1))), (tpr, .inl (D.2.1, 10, .inl (nA qf.2.2.2.2.2.2.2.2.2.2.2)))]) (w2 := [(tx, .inr (5, [.ref lt, .int (nI 0), .int (iI qf.1.2.2.1), .int (nI qf.1.2.1), .int (nI ra), .int (nI qf.1.2.2.2), .int (nI qf.2.1), .int (nI qf.2.2.1)])), (lt, .inl (D.2.2.2.1, 220, .inl (nA LT))), (tb, .inr (0, [.int (nI qf.2.2.2.1.toNat), .int (nI qf.2.2.2.2.1), .int (iI ((qf.2.2.2.2.2.1 : Int) - 1)), .int (nI qf.2.2.2.2.2.2.1.toNat), .int (nI qf.2.2.2.2.2.2.2.1), .ref tsc, .ref tfg, .ref ttv, .ref tpr])), (tsc, .inl (D.2.1, 4, .inl (nA qf.2.2.2.2.2.2.2.2.1))), (tfg, .inl (D.2.1, 24, .inl (nA qf.2.2.2.2.2.2.2.2.2.1))), (ttv, .inl (D.2.1, 10, .inl (nA qf.2.2.2.2.2.2.2.2.2.2.1))), (tpr, .inl (D.2.1, 10, .inl (nA qf.2.2.2.2.2.2.2.2.2.2.2)))]) rfl rfl (cE (congrArg (fun z => ((tx, .inr (5, z)) : Nat × va_E)) (cE rfl (cE rfl (cE (congrArg Value.int (congrArg (fun z : Int => iI z) e_24)) (cE (congrArg Value.int (congrArg (fun z : Nat => nI z) e_25)) (cE (congrArg Value.int (congrArg (fun z : Nat => nI z) e_26)) (cE (congrArg Value.int (congrArg (fun z : Nat => nI z) e_27)) (cE (congrArg Value.int (congrArg (fun z : Nat => nI z) e_28)) (cE (congrArg Value.int (congrArg (fun z : Nat => nI z) e_29)) rfl))))))))) (cE rfl (cE (congrArg (fun z => ((tb, .inr (0, z)) : Nat × va_E)) (cE (congrArg Value.int (congrArg (fun z : Bool => nI z.toNat) e_30)) (cE (congrArg Value.int (congrArg (fun z : Nat => nI z) e_31)) (cE (congrArg Value.int (congrArg (fun z : Nat => iI ((z : Int) - 1)) e_32)) (cE (congrArg Value.int (congrArg (fun z : Bool => nI z.toNat) e_33)) (cE (congrArg Value.int (congrArg (fun z : Nat => nI z) e_34)) (cE rfl (cE rfl (cE rfl (cE rfl rfl)))))))))) (cE rfl (cE rfl (cE rfl (cE rfl rfl))))))))
        · have hd_35 := of_decide_eq_true h_18
          refine x_aload_n hx dX5_readInto_45 hl 0 rfl ?_
          refine x_aload_n hx dX5_readInto_46 hl 1 rfl ?_
          refine x_callVV (As := [.ref tb]) (rest := []) (wr := []) hx yv_X5_readClause (c_X5_readClause _ D tx lt len fz n_ (skipB LT len a_) m_ ztu zpd LT tb zhd zlo ze zhn zcu tsc tfg ttv tpr zSC zFG zTV zPR (by first | assumption | omega | (simp [*]; done)) (by first | assumption | omega | (simp [*]; done)) (by first | assumption | omega | (simp [*]; done)) (by first | assumption | omega | (simp [*]; done)) (by first | assumption | omega | (simp [*]; done)) (by first | assumption | omega | (simp [*]; done)) (by rw [skipB_idem]; omega) (by first | assumption | omega | (simp [*]; done)) (by first | assumption | omega | (simp [*]; done)) (by first | assumption | omega | (simp [*]; done)) (by first | assumption | omega | (simp [*]; done)) (by first | assumption | omega | (simp [*]; done)) (by first | assumption | omega | (simp [*]; done)) (by first | assumption | omega | (simp [*]; done)) (by first | assumption | omega | (simp [*]; done))) wm_RX5_49 hA hW [5, 6, 2, 0, 1, 3, 4] [] rfl rfl rfl rfl rfl 5 rfl rfl ⟨rfl, rfl⟩ ⟨Nat.le_of_ble_eq_true rfl, Nat.le_of_ble_eq_true rfl⟩ ⟨Nat.zero_le _, Nat.zero_le _⟩ hl rfl rfl (Nat.le_of_ble_eq_true rfl) dX5_readInto_47 [(tx, .inr (5, [.ref lt, .int (nI len), .int (iI ((fCl LT len ((skipB LT len a_), n_, fz, m_) ztu zpd zhd zlo ze zhn zcu zSC zFG zTV zPR).1.2.2.1)), .int (nI ((fCl LT len ((skipB LT len a_), n_, fz, m_) ztu zpd zhd zlo ze zhn zcu zSC zFG zTV zPR).1.2.1)), .int (nI ((fCl LT len ((skipB LT len a_), n_, fz, m_) ztu zpd zhd zlo ze zhn zcu zSC zFG zTV zPR).1.1)), .int (nI ((fCl LT len ((skipB LT len a_), n_, fz, m_) ztu zpd zhd zlo ze zhn zcu zSC zFG zTV zPR).1.2.2.2)), .int (nI ((fCl LT len ((skipB LT len a_), n_, fz, m_) ztu zpd zhd zlo ze zhn zcu zSC zFG zTV zPR).2.1)), .int (nI ((fCl LT len ((skipB LT len a_), n_, fz, m_) ztu zpd zhd zlo ze zhn zcu zSC zFG zTV zPR).2.2.1))])), (lt, .inl (D.2.2.2.1, 220, .inl (nA LT))), (tb, .inr (0, [.int (nI ((fCl LT len ((skipB LT len a_), n_, fz, m_) ztu zpd zhd zlo ze zhn zcu zSC zFG zTV zPR).2.2.2.1).toNat), .int (nI ((fCl LT len ((skipB LT len a_), n_, fz, m_) ztu zpd zhd zlo ze zhn zcu zSC zFG zTV zPR).2.2.2.2.1)), .int (iI ((((fCl LT len ((skipB LT len a_), n_, fz, m_) ztu zpd zhd zlo ze zhn zcu zSC zFG zTV zPR).2.2.2.2.2.1) : Int) - 1)), .int (nI ((fCl LT len ((skipB LT len a_), n_, fz, m_) ztu zpd zhd zlo ze zhn zcu zSC zFG zTV zPR).2.2.2.2.2.2.1).toNat), .int (nI ((fCl LT len ((skipB LT len a_), n_, fz, m_) ztu zpd zhd zlo ze zhn zcu zSC zFG zTV zPR).2.2.2.2.2.2.2.1)), .ref tsc, .ref tfg, .ref ttv, .ref tpr])), (tsc, .inl (D.2.1, 4, .inl (nA ((fCl LT len ((skipB LT len a_), n_, fz, m_) ztu zpd zhd zlo ze zhn zcu zSC zFG zTV zPR).2.2.2.2.2.2.2.2.1)))), (tfg, .inl (D.2.1, 24, .inl (nA ((fCl LT len ((skipB LT len a_), n_, fz, m_) ztu zpd zhd zlo ze zhn zcu zSC zFG zTV zPR).2.2.2.2.2.2.2.2.2.1)))), (ttv, .inl (D.2.1, 10, .inl (nA ((fCl LT len ((skipB LT len a_), n_, fz, m_) ztu zpd zhd zlo ze zhn zcu zSC zFG zTV zPR).2.2.2.2.2.2.2.2.2.2.1)))), (tpr, .inl (D.2.1, 10, .inl (nA ((fCl LT len ((skipB LT len a_), n_, fz, m_) ztu zpd zhd zlo ze zhn zcu zSC zFG zTV zPR).2.2.2.2.2.2.2.2.2.2.2))))] rfl (fun H locs hW => ?_)
          have hmB : moreB LT len (((a_, n_, fz, m_) : TS), ztu, zpd, zhd, zlo, ze, zhn, zcu, zSC, zFG, zTV, zPR) = true := decide_eq_true (by assumption)
          have hqN := clN_y hq hmB
          have hqN2 : fCl LT len (skipB LT len a_, n_, fz, m_) ztu zpd zhd zlo ze zhn zcu zSC zFG zTV zPR = clN LT len ((0, 0, -1, na), 0, 0, false, 0, 0, false, 0, tSC, tFG, (fun k9 => k9), (fun _ => 1)) (i + 1) := by rw [fCl_idem]; exact hqN
          have hoN : ptOk len (fCl LT len (skipB LT len a_, n_, fz, m_) ztu zpd zhd zlo ze zhn zcu zSC zFG zTV zPR) := by rw [fCl_idem]; exact fCl_ok hlen hpo (show skipB LT len a_ < len by omega)
          have hstN : stB LT len ((0, 0, -1, na), 0, 0, false, 0, 0, false, 0, tSC, tFG, (fun k9 => k9), (fun _ => 1)) (i + 1) = false := by rw [stB, hst, ← hq, hmB]; rfl
          refine x_iinc (v := nI (i + 1)) (lv' := [(2, .int (nI (i + 1))), (0, .ref tx), (1, .ref tb)]) hx dX5_readInto_50 hl 2 rfl (nI_addc i 1) (Nat.le_of_ble_eq_true rfl) rfl (fun ls hl => ?_)
          refine x_goto (tgt := 31) hx dX5_readInto_53 (by decide) ?_
          have e_36 : (i + 1 : Nat) = (i + 1) := by
            first | rfl | (rw [hqf, ← hE1])
          have e_37 : ((fCl LT len ((skipB LT len a_), n_, fz, m_) ztu zpd zhd zlo ze zhn zcu zSC zFG zTV zPR).1.2.2.1 : Int) = ((fCl LT len ((skipB LT len a_), n_, fz, m_) ztu zpd zhd zlo ze zhn zcu zSC zFG zTV zPR).1.2.2.1) := by
            clear e_36
            first | rfl | (rw [hqf, ← hE1])
          have e_38 : ((fCl LT len ((skipB LT len a_), n_, fz, m_) ztu zpd zhd zlo ze zhn zcu zSC zFG zTV zPR).1.2.1 : Nat) = ((fCl LT len ((skipB LT len a_), n_, fz, m_) ztu zpd zhd zlo ze zhn zcu zSC zFG zTV zPR).1.2.1) := by
            clear e_36 e_37
            first | rfl | (rw [hqf, ← hE1])
          have e_39 : ((fCl LT len ((skipB LT len a_), n_, fz, m_) ztu zpd zhd zlo ze zhn zcu zSC zFG zTV zPR).1.1 : Nat) = ((fCl LT len ((skipB LT len a_), n_, fz, m_) ztu zpd zhd zlo ze zhn zcu zSC zFG zTV zPR).1.1) := by
            clear e_36 e_37 e_38
            first | rfl | (rw [hqf, ← hE1])
          have e_40 : ((fCl LT len ((skipB LT len a_), n_, fz, m_) ztu zpd zhd zlo ze zhn zcu zSC zFG zTV zPR).1.2.2.2 : Nat) = ((fCl LT len ((skipB LT len a_), n_, fz, m_) ztu zpd zhd zlo ze zhn zcu zSC zFG zTV zPR).1.2.2.2) := by
            clear e_36 e_37 e_38 e_39
            first | rfl | (rw [hqf, ← hE1])
          have e_41 : ((fCl LT len ((skipB LT len a_), n_, fz, m_) ztu zpd zhd zlo ze zhn zcu zSC zFG zTV zPR).2.1 : Nat) = ((fCl LT len ((skipB LT len a_), n_, fz, m_) ztu zpd zhd zlo ze zhn zcu zSC zFG zTV zPR).2.1) := by
            clear e_36 e_37 e_38 e_39 e_40
            first | rfl | (rw [hqf, ← hE1])
          have e_42 : ((fCl LT len ((skipB LT len a_), n_, fz, m_) ztu zpd zhd zlo ze zhn zcu zSC zFG zTV zPR).2.2.1 : Nat) = ((fCl LT len ((skipB LT len a_), n_, fz, m_) ztu zpd zhd zlo ze zhn zcu zSC zFG zTV zPR).2.2.1) := by
            clear e_36 e_37 e_38 e_39 e_40 e_41
            first | rfl | (rw [hqf, ← hE1])
          have e_43 : ((fCl LT len ((skipB LT len a_), n_, fz, m_) ztu zpd zhd zlo ze zhn zcu zSC zFG zTV zPR).2.2.2.1 : Bool) = ((fCl LT len ((skipB LT len a_), n_, fz, m_) ztu zpd zhd zlo ze zhn zcu zSC zFG zTV zPR).2.2.2.1) := by
            clear e_36 e_37 e_38 e_39 e_40 e_41 e_42
            first | rfl | (rw [hqf, ← hE1])
          have e_44 : ((fCl LT len ((skipB LT len a_), n_, fz, m_) ztu zpd zhd zlo ze zhn zcu zSC zFG zTV zPR).2.2.2.2.1 : Nat) = ((fCl LT len ((skipB LT len a_), n_, fz, m_) ztu zpd zhd zlo ze zhn zcu zSC zFG zTV zPR).2.2.2.2.1) := by
            clear e_36 e_37 e_38 e_39 e_40 e_41 e_42 e_43
            first | rfl | (rw [hqf, ← hE1])
          have e_45 : ((fCl LT len ((skipB LT len a_), n_, fz, m_) ztu zpd zhd zlo ze zhn zcu zSC zFG zTV zPR).2.2.2.2.2.1 : Nat) = ((fCl LT len ((skipB LT len a_), n_, fz, m_) ztu zpd zhd zlo ze zhn zcu zSC zFG zTV zPR).2.2.2.2.2.1) := by
            clear e_36 e_37 e_38 e_39 e_40 e_41 e_42 e_43 e_44
            first | rfl | (rw [hqf, ← hE1])
          have e_46 : ((fCl LT len ((skipB LT len a_), n_, fz, m_) ztu zpd zhd zlo ze zhn zcu zSC zFG zTV zPR).2.2.2.2.2.2.1 : Bool) = ((fCl LT len ((skipB LT len a_), n_, fz, m_) ztu zpd zhd zlo ze zhn zcu zSC zFG zTV zPR).2.2.2.2.2.2.1) := by
            clear e_36 e_37 e_38 e_39 e_40 e_41 e_42 e_43 e_44 e_45
            first | rfl | (rw [hqf, ← hE1])
          have e_47 : ((fCl LT len ((skipB LT len a_), n_, fz, m_) ztu zpd zhd zlo ze zhn zcu zSC zFG zTV zPR).2.2.2.2.2.2.2.1 : Nat) = ((fCl LT len ((skipB LT len a_), n_, fz, m_) ztu zpd zhd zlo ze zhn zcu zSC zFG zTV zPR).2.2.2.2.2.2.2.1) := by
            clear e_36 e_37 e_38 e_39 e_40 e_41 e_42 e_43 e_44 e_45 e_46
            first | rfl | (rw [hqf, ← hE1])
          exact ihL31_1 (i + 1) ((fCl LT len ((skipB LT len a_), n_, fz, m_) ztu zpd zhd zlo ze zhn zcu zSC zFG zTV zPR).1.1) ((fCl LT len ((skipB LT len a_), n_, fz, m_) ztu zpd zhd zlo ze zhn zcu zSC zFG zTV zPR).1.2.1) ((fCl LT len ((skipB LT len a_), n_, fz, m_) ztu zpd zhd zlo ze zhn zcu zSC zFG zTV zPR).1.2.2.1) ((fCl LT len ((skipB LT len a_), n_, fz, m_) ztu zpd zhd zlo ze zhn zcu zSC zFG zTV zPR).1.2.2.2) ((fCl LT len ((skipB LT len a_), n_, fz, m_) ztu zpd zhd zlo ze zhn zcu zSC zFG zTV zPR).2.1) ((fCl LT len ((skipB LT len a_), n_, fz, m_) ztu zpd zhd zlo ze zhn zcu zSC zFG zTV zPR).2.2.1) ((fCl LT len ((skipB LT len a_), n_, fz, m_) ztu zpd zhd zlo ze zhn zcu zSC zFG zTV zPR).2.2.2.1) ((fCl LT len ((skipB LT len a_), n_, fz, m_) ztu zpd zhd zlo ze zhn zcu zSC zFG zTV zPR).2.2.2.2.1) ((fCl LT len ((skipB LT len a_), n_, fz, m_) ztu zpd zhd zlo ze zhn zcu zSC zFG zTV zPR).2.2.2.2.2.1) ((fCl LT len ((skipB LT len a_), n_, fz, m_) ztu zpd zhd zlo ze zhn zcu zSC zFG zTV zPR).2.2.2.2.2.2.1) ((fCl LT len ((skipB LT len a_), n_, fz, m_) ztu zpd zhd zlo ze zhn zcu zSC zFG zTV zPR).2.2.2.2.2.2.2.1) ((fCl LT len ((skipB LT len a_), n_, fz, m_) ztu zpd zhd zlo ze zhn zcu zSC zFG zTV zPR).2.2.2.2.2.2.2.2.1) ((fCl LT len ((skipB LT len a_), n_, fz, m_) ztu zpd zhd zlo ze zhn zcu zSC zFG zTV zPR).2.2.2.2.2.2.2.2.2.1) ((fCl LT len ((skipB LT len a_), n_, fz, m_) ztu zpd zhd zlo ze zhn zcu zSC zFG zTV zPR).2.2.2.2.2.2.2.2.2.2.1) ((fCl LT len ((skipB LT len a_), n_, fz, m_) ztu zpd zhd zlo ze zhn zcu zSC zFG zTV zPR).2.2.2.2.2.2.2.2.2.2.2) (by omega) (by exact hqN2) (by exact hoN) (by exact hstN) (by omega) _ _ (hW.conv [0, 1, 3, 4, 2, 5, 6] (w1 := [(tx, .inr (5, [.ref lt, .int (nI len), .int (iI ((fCl LT len ((skipB LT len a_), n_, fz, m_) ztu zpd zhd zlo ze zhn zcu zSC zFG zTV zPR).1.2.2.1)), .int (nI ((fCl LT len ((skipB LT len a_), n_, fz, m_) ztu zpd zhd zlo ze zhn zcu zSC zFG zTV zPR).1.2.1)), .int (nI ((fCl LT len ((skipB LT len a_), n_, fz, m_) ztu zpd zhd zlo ze zhn zcu zSC zFG zTV zPR).1.1)), .int (nI ((fCl LT len ((skipB LT len a_), n_, fz, m_) ztu zpd zhd zlo ze zhn zcu zSC zFG zTV zPR).1.2.2.2)), .int (nI ((fCl LT len ((skipB LT len a_), n_, fz, m_) ztu zpd zhd zlo ze zhn zcu zSC zFG zTV zPR).2.1)), .int (nI ((fCl LT len ((skipB LT len a_), n_, fz, m_) ztu zpd zhd zlo ze zhn zcu zSC zFG zTV zPR).2.2.1))])), (lt, .inl (D.2.2.2.1, 220, .inl (nA LT))), (tsc, .inl (D.2.1, 4, .inl (nA ((fCl LT len ((skipB LT len a_), n_, fz, m_) ztu zpd zhd zlo ze zhn zcu zSC zFG zTV zPR).2.2.2.2.2.2.2.2.1)))), (tfg, .inl (D.2.1, 24, .inl (nA ((fCl LT len ((skipB LT len a_), n_, fz, m_) ztu zpd zhd zlo ze zhn zcu zSC zFG zTV zPR).2.2.2.2.2.2.2.2.2.1)))), (tb, .inr (0, [.int (nI ((fCl LT len ((skipB LT len a_), n_, fz, m_) ztu zpd zhd zlo ze zhn zcu zSC zFG zTV zPR).2.2.2.1).toNat), .int (nI ((fCl LT len ((skipB LT len a_), n_, fz, m_) ztu zpd zhd zlo ze zhn zcu zSC zFG zTV zPR).2.2.2.2.1)), .int (iI ((((fCl LT len ((skipB LT len a_), n_, fz, m_) ztu zpd zhd zlo ze zhn zcu zSC zFG zTV zPR).2.2.2.2.2.1) : Int) - 1)), .int (nI ((fCl LT len ((skipB LT len a_), n_, fz, m_) ztu zpd zhd zlo ze zhn zcu zSC zFG zTV zPR).2.2.2.2.2.2.1).toNat), .int (nI ((fCl LT len ((skipB LT len a_), n_, fz, m_) ztu zpd zhd zlo ze zhn zcu zSC zFG zTV zPR).2.2.2.2.2.2.2.1)), .ref tsc, .ref tfg, .ref ttv, .ref tpr])), (ttv, .inl (D.2.1, 10, .inl (nA ((fCl LT len ((skipB LT len a_), n_, fz, m_) ztu zpd zhd zlo ze zhn zcu zSC zFG zTV zPR).2.2.2.2.2.2.2.2.2.2.1)))), (tpr, .inl (D.2.1, 10, .inl (nA ((fCl LT len ((skipB LT len a_), n_, fz, m_) ztu zpd zhd zlo ze zhn zcu zSC zFG zTV zPR).2.2.2.2.2.2.2.2.2.2.2))))]) (w2 := [(tx, .inr (5, [.ref lt, .int (nI len), .int (iI ((fCl LT len ((skipB LT len a_), n_, fz, m_) ztu zpd zhd zlo ze zhn zcu zSC zFG zTV zPR).1.2.2.1)), .int (nI ((fCl LT len ((skipB LT len a_), n_, fz, m_) ztu zpd zhd zlo ze zhn zcu zSC zFG zTV zPR).1.2.1)), .int (nI ((fCl LT len ((skipB LT len a_), n_, fz, m_) ztu zpd zhd zlo ze zhn zcu zSC zFG zTV zPR).1.1)), .int (nI ((fCl LT len ((skipB LT len a_), n_, fz, m_) ztu zpd zhd zlo ze zhn zcu zSC zFG zTV zPR).1.2.2.2)), .int (nI ((fCl LT len ((skipB LT len a_), n_, fz, m_) ztu zpd zhd zlo ze zhn zcu zSC zFG zTV zPR).2.1)), .int (nI ((fCl LT len ((skipB LT len a_), n_, fz, m_) ztu zpd zhd zlo ze zhn zcu zSC zFG zTV zPR).2.2.1))])), (lt, .inl (D.2.2.2.1, 220, .inl (nA LT))), (tsc, .inl (D.2.1, 4, .inl (nA ((fCl LT len ((skipB LT len a_), n_, fz, m_) ztu zpd zhd zlo ze zhn zcu zSC zFG zTV zPR).2.2.2.2.2.2.2.2.1)))), (tfg, .inl (D.2.1, 24, .inl (nA ((fCl LT len ((skipB LT len a_), n_, fz, m_) ztu zpd zhd zlo ze zhn zcu zSC zFG zTV zPR).2.2.2.2.2.2.2.2.2.1)))), (tb, .inr (0, [.int (nI (((fCl LT len ((skipB LT len a_), n_, fz, m_) ztu zpd zhd zlo ze zhn zcu zSC zFG zTV zPR).2.2.2.1)).toNat), .int (nI ((fCl LT len ((skipB LT len a_), n_, fz, m_) ztu zpd zhd zlo ze zhn zcu zSC zFG zTV zPR).2.2.2.2.1)), .int (iI ((((fCl LT len ((skipB LT len a_), n_, fz, m_) ztu zpd zhd zlo ze zhn zcu zSC zFG zTV zPR).2.2.2.2.2.1) : Int) - 1)), .int (nI (((fCl LT len ((skipB LT len a_), n_, fz, m_) ztu zpd zhd zlo ze zhn zcu zSC zFG zTV zPR).2.2.2.2.2.2.1)).toNat), .int (nI ((fCl LT len ((skipB LT len a_), n_, fz, m_) ztu zpd zhd zlo ze zhn zcu zSC zFG zTV zPR).2.2.2.2.2.2.2.1)), .ref tsc, .ref tfg, .ref ttv, .ref tpr])), (ttv, .inl (D.2.1, 10, .inl (nA ((fCl LT len ((skipB LT len a_), n_, fz, m_) ztu zpd zhd zlo ze zhn zcu zSC zFG zTV zPR).2.2.2.2.2.2.2.2.2.2.1)))), (tpr, .inl (D.2.1, 10, .inl (nA ((fCl LT len ((skipB LT len a_), n_, fz, m_) ztu zpd zhd zlo ze zhn zcu zSC zFG zTV zPR).2.2.2.2.2.2.2.2.2.2.2))))]) rfl rfl (cE (congrArg (fun z => ((tx, .inr (5, z)) : Nat × va_E)) (cE rfl (cE rfl (cE (congrArg Value.int (congrArg (fun z : Int => iI z) e_37)) (cE (congrArg Value.int (congrArg (fun z : Nat => nI z) e_38)) (cE (congrArg Value.int (congrArg (fun z : Nat => nI z) e_39)) (cE (congrArg Value.int (congrArg (fun z : Nat => nI z) e_40)) (cE (congrArg Value.int (congrArg (fun z : Nat => nI z) e_41)) (cE (congrArg Value.int (congrArg (fun z : Nat => nI z) e_42)) rfl))))))))) (cE rfl (cE rfl (cE rfl (cE (congrArg (fun z => ((tb, .inr (0, z)) : Nat × va_E)) (cE (congrArg Value.int (congrArg (fun z : Bool => nI z.toNat) e_43)) (cE (congrArg Value.int (congrArg (fun z : Nat => nI z) e_44)) (cE (congrArg Value.int (congrArg (fun z : Nat => iI ((z : Int) - 1)) e_45)) (cE (congrArg Value.int (congrArg (fun z : Bool => nI z.toNat) e_46)) (cE (congrArg Value.int (congrArg (fun z : Nat => nI z) e_47)) (cE rfl (cE rfl (cE rfl (cE rfl rfl)))))))))) (cE rfl (cE rfl rfl)))))))) _ (lv_to (l := [(0, .ref tx), (1, .ref tb), (2, .int (nI (i + 1)))]) (l2 := [(0, .ref tx), (1, .ref tb), (2, .int (nI (i + 1)))]) (lv_sub hl [1, 2, 0] rfl) (cE rfl (cE rfl (cE (congrArg (fun z => ((2, Value.int z) : Nat × Value)) (congrArg (fun z : Nat => nI z) e_36)) rfl))))
  exact L31_1 (220 - 0 + 1) 0 0 0 (-1) na 0 0 false 0 0 false 0 tSC tFG (fun k => k) (fun _ => 1) (by omega) (by rfl) (by exact ⟨⟨Nat.zero_le _, Nat.zero_le _, (show (-1 : Int) ≤ -1 from by decide), (show (-1 : Int) ≤ 220 from by decide), hna⟩, Nat.zero_le _, (show (0 : Nat) < 1024 from by decide), Nat.zero_le _, htSC, htFG, fun k h9 => h9, fun k _ => (show (1 : Nat) < 100 from by decide)⟩) (by rfl) (Nat.lt_succ_self _) _ _ hW _ (lv_sub hl [1, 2, 0] rfl)
