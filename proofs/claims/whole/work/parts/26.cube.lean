abbrev CS : Type := Bool × TS × (Nat → Nat) × (Nat → Nat)
/-- one figure of a cube, and the comma behind it -/
def cbT (LT : Nat → Nat) (len f : Nat) (t : TS) : TS := if f + 1 < 6 then (if skipB LT len t.1 < len ∧ LT (skipB LT len t.1) = 44 then (skipB LT len t.1 + 1, t.2.1, t.2.2.1, t.2.2.2) else (skipB LT len t.1, t.2.1, t.2.2.1, t.2.2.2)) else t
def cbG (LT : Nat → Nat) (len f : Nat) (t : TS) : Bool := decide (f + 1 < 6) && decide (skipB LT len t.1 < len ∧ LT (skipB LT len t.1) = 44)
def cbStep (LT : Nat → Nat) (len c f : Nat) (q : CS) : CS := (cbG LT len f (rnS LT len 9 q.2.1), cbT LT len f (rnS LT len 9 q.2.1), va_up q.2.2.1 (c * 6 + f) (rnV LT len 9 q.2.1), va_up q.2.2.2 c (f + 1))
def cbN (LT : Nat → Nat) (len c : Nat) (q0 : CS) : Nat → CS
  | 0 => q0
  | f + 1 => if (cbN LT len c q0 f).1 = true ∧ (cbN LT len c q0 f).2.1.2.1 = 0 then cbStep LT len c f (cbN LT len c q0 f) else cbN LT len c q0 f
theorem cbN_stay {LT : Nat → Nat} {len c : Nat} {q0 : CS} {f : Nat} (h : ¬ ((cbN LT len c q0 f).1 = true ∧ (cbN LT len c q0 f).2.1.2.1 = 0)) : ∀ m, cbN LT len c q0 (f + m) = cbN LT len c q0 f
  | 0 => rfl
  | m + 1 => by
    have ih := cbN_stay h m
    show cbN LT len c q0 (f + m + 1) = _
    rw [cbN, ih, if_neg h]
theorem cbN_go {LT : Nat → Nat} {len c : Nat} {q0 q : CS} {f : Nat} (e : q = cbN LT len c q0 f) (h1 : q.1 = true) (h2 : q.2.1.2.1 = 0) : cbStep LT len c f q = cbN LT len c q0 (f + 1) := by
  subst e
  rw [cbN, if_pos ⟨h1, h2⟩]
theorem cbN_end {LT : Nat → Nat} {len c : Nat} {q0 q : CS} {f : Nat} (e : q = cbN LT len c q0 f) (hf : f ≤ 6) (h : f = 6 ∨ q.1 = false ∨ ¬ q.2.1.2.1 = 0) : q = cbN LT len c q0 6 := by
  by_cases h6 : f = 6
  · rw [← h6]; exact e
  · have hn : ¬ ((cbN LT len c q0 f).1 = true ∧ (cbN LT len c q0 f).2.1.2.1 = 0) := by
      rw [← e]
      rcases h with h | h | h
      · exact absurd h h6
      · rw [h]; simp
      · exact fun g => h g.2
    have := cbN_stay hn (6 - f)
    rw [show f + (6 - f) = 6 by omega] at this
    rw [this]; exact e
theorem cbT_ok {LT : Nat → Nat} {len f : Nat} {t : TS} (h : tsOk len t) : tsOk len (cbT LT len f t) := by
  have h1 := skipB_rng LT h.1
  unfold cbT
  split
  · split
    · next h9 => exact ⟨by simp only; omega, h.2⟩
    · exact ⟨h1.2, h.2⟩
  · exact h
theorem cb_5 {LT : Nat → Nat} {len f : Nat} {t : TS} (h : 6 ≤ f + 1) : cbG LT len f t = false ∧ (cbT LT len f t).1 = t.1 := by
  have h1 : ¬ f + 1 < 6 := by omega
  simp [cbG, cbT, h1]
theorem cb_y {LT : Nat → Nat} {len f : Nat} {t : TS} (h : f + 1 < 6) (h2 : skipB LT len t.1 < len ∧ LT (skipB LT len t.1) = 44) : cbG LT len f t = true ∧ (cbT LT len f t).1 = skipB LT len t.1 + 1 := by
  simp [cbG, cbT, h, h2]
theorem cb_n {LT : Nat → Nat} {len f : Nat} {t : TS} (h : f + 1 < 6) (h2 : ¬ (skipB LT len t.1 < len ∧ LT (skipB LT len t.1) = 44)) : cbG LT len f t = false ∧ (cbT LT len f t).1 = skipB LT len t.1 := by
  unfold cbG cbT
  rw [if_pos h, if_neg h2, decide_eq_false h2]
  simp
def cq (LT : Nat → Nat) (len cu : Nat) (FG SC : Nat → Nat) (s : TS) : CS := cbN LT len cu (true, rwS (decide (4 ≤ cu)) s, FG, SC) 6
def cS6 (LT : Nat → Nat) (len cu : Nat) (FG SC : Nat → Nat) (s : TS) : TS := reS LT len (cq LT len cu FG SC s).2.1
theorem cbT_eq {LT : Nat → Nat} {len f a : Nat} {t : TS} (h : a = (cbT LT len f t).1) : cbT LT len f t = (a, t.2.1, t.2.2.1, t.2.2.2) := by
  subst h
  unfold cbT
  split
  · split <;> rfl
  · rfl
set_option maxHeartbeats 4000000 in
set_option maxRecDepth 100000 in
theorem c_X5_readCube (l : Launch) (D : KD) (tx : Nat) (lt : Nat) (len : Nat) (fa : Int) (fn : Nat) (at_ : Nat) (na : Nat) (tu : Nat) (pd : Nat) (LT : Nat → Nat) (tb : Nat) (thd : Bool) (tlo : Nat) (te : Nat) (thn : Bool) (tcu : Nat) (tsc : Nat) (tfg : Nat) (ttv : Nat) (tpr : Nat) (tSC : Nat → Nat) (tFG : Nat → Nat) (hlen : len ≤ 220) (hat : at_ ≤ len) (hLT : ∀ k, k < 220 → LT k < 256) (hfn : fn ≤ 4) (hfa : -1 ≤ fa ∧ fa ≤ 220) (hna : na ≤ 220) (hatl : at_ < len) (hf0 : fn = 0) (hcu : tcu ≤ 4) : cV l yX5_readCube cX5_readCube 5 rm_X5_readCube D [(tx, .inr (5, [.ref lt, .int (nI len), .int (iI fa), .int (nI fn), .int (nI at_), .int (nI na), .int (nI tu), .int (nI pd)])), (lt, .inl (D.2.2.2.1, 220, .inl (nA LT))), (tb, .inr (0, [.int (nI thd.toNat), .int (nI tlo), .int (iI ((te : Int) - 1)), .int (nI thn.toNat), .int (nI tcu), .ref tsc, .ref tfg, .ref ttv, .ref tpr])), (tsc, .inl (D.2.1, 4, .inl (nA tSC))), (tfg, .inl (D.2.1, 24, .inl (nA tFG)))] [.ref tx, .ref tb] [(tx, .inr (5, [.ref lt, .int (nI len), .int (iI ((cS6 LT len tcu tFG tSC (at_, fn, fa, na)).2.2.1)), .int (nI ((cS6 LT len tcu tFG tSC (at_, fn, fa, na)).2.1)), .int (nI ((cS6 LT len tcu tFG tSC (at_, fn, fa, na)).1)), .int (nI ((cS6 LT len tcu tFG tSC (at_, fn, fa, na)).2.2.2)), .int (nI tu), .int (nI pd)])), (lt, .inl (D.2.2.2.1, 220, .inl (nA LT))), (tb, .inr (0, [.int (nI thd.toNat), .int (nI tlo), .int (iI ((te : Int) - 1)), .int (nI thn.toNat), .int (nI (pk (decide ((cS6 LT len tcu tFG tSC (at_, fn, fa, na)).2.1 = 0)) (tcu + 1) tcu)), .ref tsc, .ref tfg, .ref ttv, .ref tpr])), (tsc, .inl (D.2.1, 4, .inl (nA ((cq LT len tcu tFG tSC (at_, fn, fa, na)).2.2.2)))), (tfg, .inl (D.2.1, 24, .inl (nA ((cq LT len tcu tFG tSC (at_, fn, fa, na)).2.2.1))))] := by
  refine cV.mk (by decide) (Nat.le_of_ble_eq_true rfl) ?_
  intro X A hx hL hA hW hret ls hl
  subst hL
  have hl : lv_has ls 5 [(0, .ref tx), (1, .ref tb)] := hl
  have ho_0 : tsOk len (at_, fn, fa, na) := ⟨by simp only; omega, by simp only; omega, by simp only; omega, by simp only; omega, by simp only; omega⟩
  refine x_aload_n hx dX5_readCube_0 hl 1 rfl ?_
  refine x_get0 hx hW.1 2 rfl 4 (Nat.le_of_ble_eq_true rfl) wf_RX5_100 rfl dX5_readCube_1 ?_
  refine x_istore_n (lv' := [(2, .int (nI tcu)), (0, .ref tx), (1, .ref tb)]) hx dX5_readCube_4 hl (Nat.le_of_ble_eq_true rfl) rfl (fun ls hl => ?_)
  refine x_aload_n hx dX5_readCube_5 hl 1 rfl ?_
  refine x_iload_n hx dX5_readCube_6 hl 0 rfl ?_
  refine x_iconst (v := nI 4) hx dX5_readCube_7 (by decide) ?_
  have J16_1 : ∀ (bb : Bool), (bb = decide (4 ≤ tcu)) → ∀ (H : Heap) (locs : List Loc), Wd X D A [(tx, .inr (5, [.ref lt, .int (nI len), .int (iI fa), .int (nI fn), .int (nI at_), .int (nI na), .int (nI tu), .int (nI pd)])), (lt, .inl (D.2.2.2.1, 220, .inl (nA LT))), (tb, .inr (0, [.int (nI thd.toNat), .int (nI tlo), .int (iI ((te : Int) - 1)), .int (nI thn.toNat), .int (nI tcu), .ref tsc, .ref tfg, .ref ttv, .ref tpr])), (tsc, .inl (D.2.1, 4, .inl (nA tSC))), (tfg, .inl (D.2.1, 24, .inl (nA tFG)))] H locs → ∀ ls : Array Slot, lv_has ls 5 [(0, .ref tx), (1, .ref tb), (2, .int (nI tcu))] → Wx X 0 0 H locs 16 ls [.int (nI bb.toNat), .ref tx] := by
    intro bb hbb H locs hW ls hl
    obtain ⟨s1, hs1⟩ : ∃ z : TS, z = rwS bb (at_, fn, fa, na) := ⟨_, rfl⟩
    refine x_callVV (As := [.int (nI bb.toNat)]) (rest := []) (wr := [(lt, .inl (D.2.2.2.1, 220, .inl (nA LT))), (tb, .inr (0, [.int (nI thd.toNat), .int (nI tlo), .int (iI ((te : Int) - 1)), .int (nI thn.toNat), .int (nI tcu), .ref tsc, .ref tfg, .ref ttv, .ref tpr])), (tsc, .inl (D.2.1, 4, .inl (nA tSC))), (tfg, .inl (D.2.1, 24, .inl (nA tFG)))]) hx yv_X5_readWord (c_X5_readWord _ D tx lt len fa fn at_ na tu pd bb (by first | assumption | omega | (simp [*]; done))) wm_RX5_80 hA hW [0] [1, 2, 3, 4] rfl rfl rfl rfl rfl 0 rfl rfl ⟨rfl, rfl⟩ ⟨Nat.le_of_ble_eq_true rfl, Nat.le_of_ble_eq_true rfl⟩ ⟨Nat.zero_le _, Nat.zero_le _⟩ hl rfl rfl (Nat.le_of_ble_eq_true rfl) dX5_readCube_16 [(lt, .inl (D.2.2.2.1, 220, .inl (nA LT))), (tb, .inr (0, [.int (nI thd.toNat), .int (nI tlo), .int (iI ((te : Int) - 1)), .int (nI thn.toNat), .int (nI tcu), .ref tsc, .ref tfg, .ref ttv, .ref tpr])), (tsc, .inl (D.2.1, 4, .inl (nA tSC))), (tfg, .inl (D.2.1, 24, .inl (nA tFG))), (tx, .inr (5, [.ref lt, .int (nI len), .int (iI s1.2.2.1), .int (nI s1.2.1), .int (nI s1.1), .int (nI s1.2.2.2), .int (nI tu), .int (nI pd)]))] (by subst hs1; rfl) (fun H locs hW => ?_)
    have ho_s1 : tsOk len s1 := by rw [hs1]; exact rwS_ok hlen ho_0 (by simp only; omega)
    obtain ⟨ho_s1a, ho_s1b, ho_s1c, ho_s1d, ho_s1e⟩ := ho_s1
    have ho_s1 : tsOk len s1 := ⟨ho_s1a, ho_s1b, ho_s1c, ho_s1d, ho_s1e⟩
    have hs1c : s1.2.1 = 0 → tcu < 4 := by
      intro h9
      rw [hs1, hbb] at h9
      by_cases h4 : 4 ≤ tcu
      · simp [rwS, blS, h4, hf0] at h9
      · omega
    refine x_iconst (v := nI 1) hx dX5_readCube_19 (by decide) ?_
    refine x_istore_n (lv' := [(3, .int (nI 1)), (0, .ref tx), (1, .ref tb), (2, .int (nI tcu))]) hx dX5_readCube_20 hl (Nat.le_of_ble_eq_true rfl) rfl (fun ls hl => ?_)
    refine x_iconst (v := nI 0) hx dX5_readCube_21 (by decide) ?_
    refine x_istore (lv' := [(4, .int (nI 0)), (3, .int (nI 1)), (0, .ref tx), (1, .ref tb), (2, .int (nI tcu))]) hx dX5_readCube_22 hl (Nat.le_of_ble_eq_true rfl) rfl (fun ls hl => ?_)
    have L24_2 : ∀ (L24_2n : Nat) (f : Nat) (go : Bool) (a_ : Nat) (n_ : Nat) (fz : Int) (m_ : Nat) (FGv : Nat → Nat) (SCv : Nat → Nat), (f ≤ 6) → ((go, ((a_, n_, fz, m_) : TS), FGv, SCv) = cbN LT len tcu (true, s1, tFG, tSC) f) → (tsOk len (a_, n_, fz, m_)) → (n_ = 0 → tcu < 4) → 6 - f < L24_2n → ∀ (H : Heap) (locs : List Loc), Wd X D A [(lt, .inl (D.2.2.2.1, 220, .inl (nA LT))), (tb, .inr (0, [.int (nI thd.toNat), .int (nI tlo), .int (iI ((te : Int) - 1)), .int (nI thn.toNat), .int (nI tcu), .ref tsc, .ref tfg, .ref ttv, .ref tpr])), (tsc, .inl (D.2.1, 4, .inl (nA SCv))), (tfg, .inl (D.2.1, 24, .inl (nA FGv))), (tx, .inr (5, [.ref lt, .int (nI len), .int (iI fz), .int (nI n_), .int (nI a_), .int (nI m_), .int (nI tu), .int (nI pd)]))] H locs → ∀ ls : Array Slot, lv_has ls 5 [(0, .ref tx), (1, .ref tb), (2, .int (nI tcu)), (3, .int (nI go.toNat)), (4, .int (nI f))] → Wx X 0 0 H locs 24 ls [] := by
      intro L24_2n
      induction L24_2n with
      | zero =>
        intro f go a_ n_ fz m_ FGv SCv h1 hq ho_q hc4 hm
        exact absurd hm (Nat.not_lt_zero _)
      | succ L24_2n ihL24_2 =>
        intro f go a_ n_ fz m_ FGv SCv h1 hq ho_q hc4 hm H locs hW ls hl
        obtain ⟨hqa, hqb, hqc, hqd, hqe⟩ := id ho_q
        simp only at hqa hqb hqc hqd hqe
        refine x_iload hx dX5_readCube_24 hl 4 rfl ?_
        refine x_bipush (v := nI 6) hx dX5_readCube_26 (by decide) ?_
        refine x_icmp_ge_N (a := f) (b := 6) (tgt := 113) hx dX5_readCube_28 (by decide) (by omega) (by omega) (fun h_3 => ?_) (fun h_3 => ?_)
        · have hQ6 : (go, ((a_, n_, fz, m_) : TS), FGv, SCv) = cq LT len tcu tFG tSC (at_, fn, fa, na) := by
            rw [cq, ← hbb, ← hs1]
            exact cbN_end hq (by omega) (by first | exact Or.inl (by omega) | exact Or.inr (Or.inl (by assumption)) | exact Or.inr (Or.inr (by assumption)))
          refine x_aload_n hx dX5_readCube_113 hl 0 rfl ?_
          obtain ⟨s6, hs6⟩ : ∃ z : TS, z = reS LT len (a_, n_, fz, m_) := ⟨_, rfl⟩
          refine x_callVV (As := []) (rest := []) (wr := [(tb, .inr (0, [.int (nI thd.toNat), .int (nI tlo), .int (iI ((te : Int) - 1)), .int (nI thn.toNat), .int (nI tcu), .ref tsc, .ref tfg, .ref ttv, .ref tpr])), (tsc, .inl (D.2.1, 4, .inl (nA SCv))), (tfg, .inl (D.2.1, 24, .inl (nA FGv)))]) hx yv_X5_readEnd (c_X5_readEnd _ D tx lt len fz n_ a_ m_ tu pd LT (by first | assumption | omega | (simp [*]; done)) (by first | assumption | omega | (simp [*]; done)) (by first | assumption | omega | (simp [*]; done)) (by first | assumption | omega | (simp [*]; done))) wm_RX5_88 hA hW [4, 0] [1, 2, 3] rfl rfl rfl rfl rfl 4 rfl rfl ⟨rfl, rfl⟩ ⟨Nat.le_of_ble_eq_true rfl, Nat.le_of_ble_eq_true rfl⟩ ⟨Nat.zero_le _, Nat.zero_le _⟩ hl rfl rfl (Nat.le_of_ble_eq_true rfl) dX5_readCube_114 [(tb, .inr (0, [.int (nI thd.toNat), .int (nI tlo), .int (iI ((te : Int) - 1)), .int (nI thn.toNat), .int (nI tcu), .ref tsc, .ref tfg, .ref ttv, .ref tpr])), (tsc, .inl (D.2.1, 4, .inl (nA SCv))), (tfg, .inl (D.2.1, 24, .inl (nA FGv))), (tx, .inr (5, [.ref lt, .int (nI len), .int (iI s6.2.2.1), .int (nI s6.2.1), .int (nI s6.1), .int (nI s6.2.2.2), .int (nI tu), .int (nI pd)])), (lt, .inl (D.2.2.2.1, 220, .inl (nA LT)))] (by subst hs6; rfl) (fun H locs hW => ?_)
          have ho_s6 : tsOk len s6 := by rw [hs6]; exact reS_ok hlen ho_q
          obtain ⟨ho_s6a, ho_s6b, ho_s6c, ho_s6d, ho_s6e⟩ := ho_s6
          have ho_s6 : tsOk len s6 := ⟨ho_s6a, ho_s6b, ho_s6c, ho_s6d, ho_s6e⟩
          have hS6 : s6 = cS6 LT len tcu tFG tSC (at_, fn, fa, na) := by rw [cS6, ← hQ6]; exact hs6
          refine x_aload_n hx dX5_readCube_117 hl 0 rfl ?_
          refine x_get5 hx hW.1 3 rfl 3 (Nat.le_of_ble_eq_true rfl) wf_RX5_22 rfl dX5_readCube_118 ?_
          refine x_if_ne_N (a := s6.2.1) (tgt := 131) hx dX5_readCube_121 (by decide) (by omega) (fun h_4 => ?_) (fun h_4 => ?_)
          · have e_5 : ∀ k, k < 4 → (SCv) k = ((cq LT len tcu tFG tSC (at_, fn, fa, na)).2.2.2) k := by
              intro k hk
              rw [← hQ6]
            have hW : Wd X D A [(tb, .inr (0, [.int (nI thd.toNat), .int (nI tlo), .int (iI ((te : Int) - 1)), .int (nI thn.toNat), .int (nI tcu), .ref tsc, .ref tfg, .ref ttv, .ref tpr])), (tsc, .inl (D.2.1, 4, .inl (nA ((cq LT len tcu tFG tSC (at_, fn, fa, na)).2.2.2)))), (tfg, .inl (D.2.1, 24, .inl (nA FGv))), (tx, .inr (5, [.ref lt, .int (nI len), .int (iI s6.2.2.1), .int (nI s6.2.1), .int (nI s6.1), .int (nI s6.2.2.2), .int (nI tu), .int (nI pd)])), (lt, .inl (D.2.2.2.1, 220, .inl (nA LT)))] _ _ := hW.row 1 rfl (fun j hj => congrArg (nI) (e_5 j hj)) rfl
            have e_6 : ∀ k, k < 24 → (FGv) k = ((cq LT len tcu tFG tSC (at_, fn, fa, na)).2.2.1) k := by
              intro k hk
              rw [← hQ6]
            have hW : Wd X D A [(tb, .inr (0, [.int (nI thd.toNat), .int (nI tlo), .int (iI ((te : Int) - 1)), .int (nI thn.toNat), .int (nI tcu), .ref tsc, .ref tfg, .ref ttv, .ref tpr])), (tsc, .inl (D.2.1, 4, .inl (nA ((cq LT len tcu tFG tSC (at_, fn, fa, na)).2.2.2)))), (tfg, .inl (D.2.1, 24, .inl (nA ((cq LT len tcu tFG tSC (at_, fn, fa, na)).2.2.1)))), (tx, .inr (5, [.ref lt, .int (nI len), .int (iI s6.2.2.1), .int (nI s6.2.1), .int (nI s6.1), .int (nI s6.2.2.2), .int (nI tu), .int (nI pd)])), (lt, .inl (D.2.2.2.1, 220, .inl (nA LT)))] _ _ := hW.row 2 rfl (fun j hj => congrArg (nI) (e_6 j hj)) rfl
            have e_7 : (s6.2.2.1 : Int) = (cS6 LT len tcu tFG tSC (at_, fn, fa, na)).2.2.1 := by
              rw [hS6]
            have e_8 : (s6.2.1 : Nat) = (cS6 LT len tcu tFG tSC (at_, fn, fa, na)).2.1 := by
              clear e_7
              rw [hS6]
            have e_9 : (s6.1 : Nat) = (cS6 LT len tcu tFG tSC (at_, fn, fa, na)).1 := by
              clear e_7 e_8
              rw [hS6]
            have e_10 : (s6.2.2.2 : Nat) = (cS6 LT len tcu tFG tSC (at_, fn, fa, na)).2.2.2 := by
              clear e_7 e_8 e_9
              rw [hS6]
            have e_11 : (tcu : Nat) = pk (decide ((cS6 LT len tcu tFG tSC (at_, fn, fa, na)).2.1 = 0)) (tcu + 1) tcu := by
              clear e_7 e_8 e_9 e_10
              rw [← hS6]; first | (rw [pk_t (decide_eq_true (by assumption))]; done) | (rw [pk_f (decide_eq_false (by assumption))]; done)
            exact hret _ _ _ _ dX5_readCube_131 (hW.conv [3, 4, 0, 1, 2] (w1 := [(tx, .inr (5, [.ref lt, .int (nI len), .int (iI s6.2.2.1), .int (nI s6.2.1), .int (nI s6.1), .int (nI s6.2.2.2), .int (nI tu), .int (nI pd)])), (lt, .inl (D.2.2.2.1, 220, .inl (nA LT))), (tb, .inr (0, [.int (nI thd.toNat), .int (nI tlo), .int (iI ((te : Int) - 1)), .int (nI thn.toNat), .int (nI tcu), .ref tsc, .ref tfg, .ref ttv, .ref tpr])), (tsc, .inl (D.2.1, 4, .inl (nA ((cq LT len tcu tFG tSC (at_, fn, fa, na)).2.2.2)))), (tfg, .inl (D.2.1, 24, .inl (nA ((cq LT len tcu tFG tSC (at_, fn, fa, na)).2.2.1))))]) (w2 := [(tx, .inr (5, [.ref lt, .int (nI len), .int (iI ((cS6 LT len tcu tFG tSC (at_, fn, fa, na)).2.2.1)), .int (nI ((cS6 LT len tcu tFG tSC (at_, fn, fa, na)).2.1)), .int (nI ((cS6 LT len tcu tFG tSC (at_, fn, fa, na)).1)), .int (nI ((cS6 LT len tcu tFG tSC (at_, fn, fa, na)).2.2.2)), .int (nI tu), .int (nI pd)])), (lt, .inl (D.2.2.2.1, 220, .inl (nA LT))), (tb, .inr (0, [.int (nI thd.toNat), .int (nI tlo), .int (iI ((te : Int) - 1)), .int (nI thn.toNat), .int (nI (pk (decide ((cS6 LT len tcu tFG tSC (at_, fn, fa, na)).2.1 = 0)) (tcu + 1) tcu)), .ref tsc, .ref tfg, .ref ttv, .ref tpr])), (tsc, .inl (D.2.1, 4, .inl (nA ((cq LT len tcu tFG tSC (at_, fn, fa, na)).2.2.2)))), (tfg, .inl (D.2.1, 24, .inl (nA ((cq LT len tcu tFG tSC (at_, fn, fa, na)).2.2.1))))]) rfl rfl (cE (congrArg (fun z => ((tx, .inr (5, z)) : Nat × va_E)) (cE rfl (cE rfl (cE (congrArg Value.int (congrArg (fun z : Int => iI z) e_7)) (cE (congrArg Value.int (congrArg (fun z : Nat => nI z) e_8)) (cE (congrArg Value.int (congrArg (fun z : Nat => nI z) e_9)) (cE (congrArg Value.int (congrArg (fun z : Nat => nI z) e_10)) (cE rfl (cE rfl rfl))))))))) (cE rfl (cE (congrArg (fun z => ((tb, .inr (0, z)) : Nat × va_E)) (cE rfl (cE rfl (cE rfl (cE rfl (cE (congrArg Value.int (congrArg (fun z : Nat => nI z) e_11)) (cE rfl (cE rfl (cE rfl (cE rfl rfl)))))))))) (cE rfl (cE rfl rfl))))))
          · refine x_aload_n hx dX5_readCube_124 hl 1 rfl ?_
            refine x_iload_n hx dX5_readCube_125 hl 2 rfl ?_
            refine x_iconst (v := nI 1) hx dX5_readCube_126 (by decide) ?_
            refine x_iadd (v := nI (tcu + 1)) hx dX5_readCube_127 (nI_add _ _) ?_
            refine x_put0 hx hW 0 rfl 4 (Nat.le_of_ble_eq_true rfl) wf_RX5_100 rfl rfl rfl (Nat.le_of_ble_eq_true rfl) dX5_readCube_128 [(tb, .inr (0, [.int (nI thd.toNat), .int (nI tlo), .int (iI ((te : Int) - 1)), .int (nI thn.toNat), .int (nI (tcu + 1)), .ref tsc, .ref tfg, .ref ttv, .ref tpr])), (tsc, .inl (D.2.1, 4, .inl (nA SCv))), (tfg, .inl (D.2.1, 24, .inl (nA FGv))), (tx, .inr (5, [.ref lt, .int (nI len), .int (iI s6.2.2.1), .int (nI s6.2.1), .int (nI s6.1), .int (nI s6.2.2.2), .int (nI tu), .int (nI pd)])), (lt, .inl (D.2.2.2.1, 220, .inl (nA LT)))] rfl (fun H locs hW => ?_)
            have e_12 : ∀ k, k < 4 → (SCv) k = ((cq LT len tcu tFG tSC (at_, fn, fa, na)).2.2.2) k := by
              intro k hk
              rw [← hQ6]
            have hW : Wd X D A [(tb, .inr (0, [.int (nI thd.toNat), .int (nI tlo), .int (iI ((te : Int) - 1)), .int (nI thn.toNat), .int (nI (tcu + 1)), .ref tsc, .ref tfg, .ref ttv, .ref tpr])), (tsc, .inl (D.2.1, 4, .inl (nA ((cq LT len tcu tFG tSC (at_, fn, fa, na)).2.2.2)))), (tfg, .inl (D.2.1, 24, .inl (nA FGv))), (tx, .inr (5, [.ref lt, .int (nI len), .int (iI s6.2.2.1), .int (nI s6.2.1), .int (nI s6.1), .int (nI s6.2.2.2), .int (nI tu), .int (nI pd)])), (lt, .inl (D.2.2.2.1, 220, .inl (nA LT)))] _ _ := hW.row 1 rfl (fun j hj => congrArg (nI) (e_12 j hj)) rfl
            have e_13 : ∀ k, k < 24 → (FGv) k = ((cq LT len tcu tFG tSC (at_, fn, fa, na)).2.2.1) k := by
              intro k hk
              rw [← hQ6]
            have hW : Wd X D A [(tb, .inr (0, [.int (nI thd.toNat), .int (nI tlo), .int (iI ((te : Int) - 1)), .int (nI thn.toNat), .int (nI (tcu + 1)), .ref tsc, .ref tfg, .ref ttv, .ref tpr])), (tsc, .inl (D.2.1, 4, .inl (nA ((cq LT len tcu tFG tSC (at_, fn, fa, na)).2.2.2)))), (tfg, .inl (D.2.1, 24, .inl (nA ((cq LT len tcu tFG tSC (at_, fn, fa, na)).2.2.1)))), (tx, .inr (5, [.ref lt, .int (nI len), .int (iI s6.2.2.1), .int (nI s6.2.1), .int (nI s6.1), .int (nI s6.2.2.2), .int (nI tu), .int (nI pd)])), (lt, .inl (D.2.2.2.1, 220, .inl (nA LT)))] _ _ := hW.row 2 rfl (fun j hj => congrArg (nI) (e_13 j hj)) rfl
            have e_14 : (s6.2.2.1 : Int) = (cS6 LT len tcu tFG tSC (at_, fn, fa, na)).2.2.1 := by
              rw [hS6]
            have e_15 : (s6.2.1 : Nat) = (cS6 LT len tcu tFG tSC (at_, fn, fa, na)).2.1 := by
              clear e_14
              rw [hS6]
            have e_16 : (s6.1 : Nat) = (cS6 LT len tcu tFG tSC (at_, fn, fa, na)).1 := by
              clear e_14 e_15
              rw [hS6]
            have e_17 : (s6.2.2.2 : Nat) = (cS6 LT len tcu tFG tSC (at_, fn, fa, na)).2.2.2 := by
              clear e_14 e_15 e_16
              rw [hS6]
            have e_18 : (tcu + 1 : Nat) = pk (decide ((cS6 LT len tcu tFG tSC (at_, fn, fa, na)).2.1 = 0)) (tcu + 1) tcu := by
              clear e_14 e_15 e_16 e_17
              rw [← hS6]; first | (rw [pk_t (decide_eq_true (by assumption))]; done) | (rw [pk_f (decide_eq_false (by assumption))]; done)
            exact hret _ _ _ _ dX5_readCube_131 (hW.conv [3, 4, 0, 1, 2] (w1 := [(tx, .inr (5, [.ref lt, .int (nI len), .int (iI s6.2.2.1), .int (nI s6.2.1), .int (nI s6.1), .int (nI s6.2.2.2), .int (nI tu), .int (nI pd)])), (lt, .inl (D.2.2.2.1, 220, .inl (nA LT))), (tb, .inr (0, [.int (nI thd.toNat), .int (nI tlo), .int (iI ((te : Int) - 1)), .int (nI thn.toNat), .int (nI (tcu + 1)), .ref tsc, .ref tfg, .ref ttv, .ref tpr])), (tsc, .inl (D.2.1, 4, .inl (nA ((cq LT len tcu tFG tSC (at_, fn, fa, na)).2.2.2)))), (tfg, .inl (D.2.1, 24, .inl (nA ((cq LT len tcu tFG tSC (at_, fn, fa, na)).2.2.1))))]) (w2 := [(tx, .inr (5, [.ref lt, .int (nI len), .int (iI ((cS6 LT len tcu tFG tSC (at_, fn, fa, na)).2.2.1)), .int (nI ((cS6 LT len tcu tFG tSC (at_, fn, fa, na)).2.1)), .int (nI ((cS6 LT len tcu tFG tSC (at_, fn, fa, na)).1)), .int (nI ((cS6 LT len tcu tFG tSC (at_, fn, fa, na)).2.2.2)), .int (nI tu), .int (nI pd)])), (lt, .inl (D.2.2.2.1, 220, .inl (nA LT))), (tb, .inr (0, [.int (nI thd.toNat), .int (nI tlo), .int (iI ((te : Int) - 1)), .int (nI thn.toNat), .int (nI (pk (decide ((cS6 LT len tcu tFG tSC (at_, fn, fa, na)).2.1 = 0)) (tcu + 1) tcu)), .ref tsc, .ref tfg, .ref ttv, .ref tpr])), (tsc, .inl (D.2.1, 4, .inl (nA ((cq LT len tcu tFG tSC (at_, fn, fa, na)).2.2.2)))), (tfg, .inl (D.2.1, 24, .inl (nA ((cq LT len tcu tFG tSC (at_, fn, fa, na)).2.2.1))))]) rfl rfl (cE (congrArg (fun z => ((tx, .inr (5, z)) : Nat × va_E)) (cE rfl (cE rfl (cE (congrArg Value.int (congrArg (fun z : Int => iI z) e_14)) (cE (congrArg Value.int (congrArg (fun z : Nat => nI z) e_15)) (cE (congrArg Value.int (congrArg (fun z : Nat => nI z) e_16)) (cE (congrArg Value.int (congrArg (fun z : Nat => nI z) e_17)) (cE rfl (cE rfl rfl))))))))) (cE rfl (cE (congrArg (fun z => ((tb, .inr (0, z)) : Nat × va_E)) (cE rfl (cE rfl (cE rfl (cE rfl (cE (congrArg Value.int (congrArg (fun z : Nat => nI z) e_18)) (cE rfl (cE rfl (cE rfl (cE rfl rfl)))))))))) (cE rfl (cE rfl rfl))))))
        · refine x_iload_n hx dX5_readCube_31 hl 3 rfl ?_
          refine x_if_eq_B (tgt := 113) hx dX5_readCube_32 (by decide) (fun h_19 => ?_) (fun h_19 => ?_)
          · have hQ6 : (go, ((a_, n_, fz, m_) : TS), FGv, SCv) = cq LT len tcu tFG tSC (at_, fn, fa, na) := by
              rw [cq, ← hbb, ← hs1]
              exact cbN_end hq (by omega) (by first | exact Or.inl (by omega) | exact Or.inr (Or.inl (by assumption)) | exact Or.inr (Or.inr (by assumption)))
            refine x_aload_n hx dX5_readCube_113 hl 0 rfl ?_
            obtain ⟨s6, hs6⟩ : ∃ z : TS, z = reS LT len (a_, n_, fz, m_) := ⟨_, rfl⟩
            refine x_callVV (As := []) (rest := []) (wr := [(tb, .inr (0, [.int (nI thd.toNat), .int (nI tlo), .int (iI ((te : Int) - 1)), .int (nI thn.toNat), .int (nI tcu), .ref tsc, .ref tfg, .ref ttv, .ref tpr])), (tsc, .inl (D.2.1, 4, .inl (nA SCv))), (tfg, .inl (D.2.1, 24, .inl (nA FGv)))]) hx yv_X5_readEnd (c_X5_readEnd _ D tx lt len fz n_ a_ m_ tu pd LT (by first | assumption | omega | (simp [*]; done)) (by first | assumption | omega | (simp [*]; done)) (by first | assumption | omega | (simp [*]; done)) (by first | assumption | omega | (simp [*]; done))) wm_RX5_88 hA hW [4, 0] [1, 2, 3] rfl rfl rfl rfl rfl 4 rfl rfl ⟨rfl, rfl⟩ ⟨Nat.le_of_ble_eq_true rfl, Nat.le_of_ble_eq_true rfl⟩ ⟨Nat.zero_le _, Nat.zero_le _⟩ hl rfl rfl (Nat.le_of_ble_eq_true rfl) dX5_readCube_114 [(tb, .inr (0, [.int (nI thd.toNat), .int (nI tlo), .int (iI ((te : Int) - 1)), .int (nI thn.toNat), .int (nI tcu), .ref tsc, .ref tfg, .ref ttv, .ref tpr])), (tsc, .inl (D.2.1, 4, .inl (nA SCv))), (tfg, .inl (D.2.1, 24, .inl (nA FGv))), (tx, .inr (5, [.ref lt, .int (nI len), .int (iI s6.2.2.1), .int (nI s6.2.1), .int (nI s6.1), .int (nI s6.2.2.2), .int (nI tu), .int (nI pd)])), (lt, .inl (D.2.2.2.1, 220, .inl (nA LT)))] (by subst hs6; rfl) (fun H locs hW => ?_)
            have ho_s6 : tsOk len s6 := by rw [hs6]; exact reS_ok hlen ho_q
            obtain ⟨ho_s6a, ho_s6b, ho_s6c, ho_s6d, ho_s6e⟩ := ho_s6
            have ho_s6 : tsOk len s6 := ⟨ho_s6a, ho_s6b, ho_s6c, ho_s6d, ho_s6e⟩
            have hS6 : s6 = cS6 LT len tcu tFG tSC (at_, fn, fa, na) := by rw [cS6, ← hQ6]; exact hs6
            refine x_aload_n hx dX5_readCube_117 hl 0 rfl ?_
            refine x_get5 hx hW.1 3 rfl 3 (Nat.le_of_ble_eq_true rfl) wf_RX5_22 rfl dX5_readCube_118 ?_
            refine x_if_ne_N (a := s6.2.1) (tgt := 131) hx dX5_readCube_121 (by decide) (by omega) (fun h_20 => ?_) (fun h_20 => ?_)
            · have e_21 : ∀ k, k < 4 → (SCv) k = ((cq LT len tcu tFG tSC (at_, fn, fa, na)).2.2.2) k := by
                intro k hk
                rw [← hQ6]
              have hW : Wd X D A [(tb, .inr (0, [.int (nI thd.toNat), .int (nI tlo), .int (iI ((te : Int) - 1)), .int (nI thn.toNat), .int (nI tcu), .ref tsc, .ref tfg, .ref ttv, .ref tpr])), (tsc, .inl (D.2.1, 4, .inl (nA ((cq LT len tcu tFG tSC (at_, fn, fa, na)).2.2.2)))), (tfg, .inl (D.2.1, 24, .inl (nA FGv))), (tx, .inr (5, [.ref lt, .int (nI len), .int (iI s6.2.2.1), .int (nI s6.2.1), .int (nI s6.1), .int (nI s6.2.2.2), .int (nI tu), .int (nI pd)])), (lt, .inl (D.2.2.2.1, 220, .inl (nA LT)))] _ _ := hW.row 1 rfl (fun j hj => congrArg (nI) (e_21 j hj)) rfl
              have e_22 : ∀ k, k < 24 → (FGv) k = ((cq LT len tcu tFG tSC (at_, fn, fa, na)).2.2.1) k := by
                intro k hk
                rw [← hQ6]
              have hW : Wd X D A [(tb, .inr (0, [.int (nI thd.toNat), .int (nI tlo), .int (iI ((te : Int) - 1)), .int (nI thn.toNat), .int (nI tcu), .ref tsc, .ref tfg, .ref ttv, .ref tpr])), (tsc, .inl (D.2.1, 4, .inl (nA ((cq LT len tcu tFG tSC (at_, fn, fa, na)).2.2.2)))), (tfg, .inl (D.2.1, 24, .inl (nA ((cq LT len tcu tFG tSC (at_, fn, fa, na)).2.2.1)))), (tx, .inr (5, [.ref lt, .int (nI len), .int (iI s6.2.2.1), .int (nI s6.2.1), .int (nI s6.1), .int (nI s6.2.2.2), .int (nI tu), .int (nI pd)])), (lt, .inl (D.2.2.2.1, 220, .inl (nA LT)))] _ _ := hW.row 2 rfl (fun j hj => congrArg (nI) (e_22 j hj)) rfl
              have e_23 : (s6.2.2.1 : Int) = (cS6 LT len tcu tFG tSC (at_, fn, fa, na)).2.2.1 := by
                rw [hS6]
              have e_24 : (s6.2.1 : Nat) = (cS6 LT len tcu tFG tSC (at_, fn, fa, na)).2.1 := by
                clear e_23
                rw [hS6]
              have e_25 : (s6.1 : Nat) = (cS6 LT len tcu tFG tSC (at_, fn, fa, na)).1 := by
                clear e_23 e_24
                rw [hS6]
              have e_26 : (s6.2.2.2 : Nat) = (cS6 LT len tcu tFG tSC (at_, fn, fa, na)).2.2.2 := by
                clear e_23 e_24 e_25
                rw [hS6]
              have e_27 : (tcu : Nat) = pk (decide ((cS6 LT len tcu tFG tSC (at_, fn, fa, na)).2.1 = 0)) (tcu + 1) tcu := by
                clear e_23 e_24 e_25 e_26
                rw [← hS6]; first | (rw [pk_t (decide_eq_true (by assumption))]; done) | (rw [pk_f (decide_eq_false (by assumption))]; done)
              exact hret _ _ _ _ dX5_readCube_131 (hW.conv [3, 4, 0, 1, 2] (w1 := [(tx, .inr (5, [.ref lt, .int (nI len), .int (iI s6.2.2.1), .int (nI s6.2.1), .int (nI s6.1), .int (nI s6.2.2.2), .int (nI tu), .int (nI pd)])), (lt, .inl (D.2.2.2.1, 220, .inl (nA LT))), (tb, .inr (0, [.int (nI thd.toNat), .int (nI tlo), .int (iI ((te : Int) - 1)), .int (nI thn.toNat), .int (nI tcu), .ref tsc, .ref tfg, .ref ttv, .ref tpr])), (tsc, .inl (D.2.1, 4, .inl (nA ((cq LT len tcu tFG tSC (at_, fn, fa, na)).2.2.2)))), (tfg, .inl (D.2.1, 24, .inl (nA ((cq LT len tcu tFG tSC (at_, fn, fa, na)).2.2.1))))]) (w2 := [(tx, .inr (5, [.ref lt, .int (nI len), .int (iI ((cS6 LT len tcu tFG tSC (at_, fn, fa, na)).2.2.1)), .int (nI ((cS6 LT len tcu tFG tSC (at_, fn, fa, na)).2.1)), .int (nI ((cS6 LT len tcu tFG tSC (at_, fn, fa, na)).1)), .int (nI ((cS6 LT len tcu tFG tSC (at_, fn, fa, na)).2.2.2)), .int (nI tu), .int (nI pd)])), (lt, .inl (D.2.2.2.1, 220, .inl (nA LT))), (tb, .inr (0, [.int (nI thd.toNat), .int (nI tlo), .int (iI ((te : Int) - 1)), .int (nI thn.toNat), .int (nI (pk (decide ((cS6 LT len tcu tFG tSC (at_, fn, fa, na)).2.1 = 0)) (tcu + 1) tcu)), .ref tsc, .ref tfg, .ref ttv, .ref tpr])), (tsc, .inl (D.2.1, 4, .inl (nA ((cq LT len tcu tFG tSC (at_, fn, fa, na)).2.2.2)))), (tfg, .inl (D.2.1, 24, .inl (nA ((cq LT len tcu tFG tSC (at_, fn, fa, na)).2.2.1))))]) rfl rfl (cE (congrArg (fun z => ((tx, .inr (5, z)) : Nat × va_E)) (cE rfl (cE rfl (cE (congrArg Value.int (congrArg (fun z : Int => iI z) e_23)) (cE (congrArg Value.int (congrArg (fun z : Nat => nI z) e_24)) (cE (congrArg Value.int (congrArg (fun z : Nat => nI z) e_25)) (cE (congrArg Value.int (congrArg (fun z : Nat => nI z) e_26)) (cE rfl (cE rfl rfl))))))))) (cE rfl (cE (congrArg (fun z => ((tb, .inr (0, z)) : Nat × va_E)) (cE rfl (cE rfl (cE rfl (cE rfl (cE (congrArg Value.int (congrArg (fun z : Nat => nI z) e_27)) (cE rfl (cE rfl (cE rfl (cE rfl rfl)))))))))) (cE rfl (cE rfl rfl))))))
            · refine x_aload_n hx dX5_readCube_124 hl 1 rfl ?_
              refine x_iload_n hx dX5_readCube_125 hl 2 rfl ?_
              refine x_iconst (v := nI 1) hx dX5_readCube_126 (by decide) ?_
              refine x_iadd (v := nI (tcu + 1)) hx dX5_readCube_127 (nI_add _ _) ?_
              refine x_put0 hx hW 0 rfl 4 (Nat.le_of_ble_eq_true rfl) wf_RX5_100 rfl rfl rfl (Nat.le_of_ble_eq_true rfl) dX5_readCube_128 [(tb, .inr (0, [.int (nI thd.toNat), .int (nI tlo), .int (iI ((te : Int) - 1)), .int (nI thn.toNat), .int (nI (tcu + 1)), .ref tsc, .ref tfg, .ref ttv, .ref tpr])), (tsc, .inl (D.2.1, 4, .inl (nA SCv))), (tfg, .inl (D.2.1, 24, .inl (nA FGv))), (tx, .inr (5, [.ref lt, .int (nI len), .int (iI s6.2.2.1), .int (nI s6.2.1), .int (nI s6.1), .int (nI s6.2.2.2), .int (nI tu), .int (nI pd)])), (lt, .inl (D.2.2.2.1, 220, .inl (nA LT)))] rfl (fun H locs hW => ?_)
              have e_28 : ∀ k, k < 4 → (SCv) k = ((cq LT len tcu tFG tSC (at_, fn, fa, na)).2.2.2) k := by
                intro k hk
                rw [← hQ6]
              have hW : Wd X D A [(tb, .inr (0, [.int (nI thd.toNat), .int (nI tlo), .int (iI ((te : Int) - 1)), .int (nI thn.toNat), .int (nI (tcu + 1)), .ref tsc, .ref tfg, .ref ttv, .ref tpr])), (tsc, .inl (D.2.1, 4, .inl (nA ((cq LT len tcu tFG tSC (at_, fn, fa, na)).2.2.2)))), (tfg, .inl (D.2.1, 24, .inl (nA FGv))), (tx, .inr (5, [.ref lt, .int (nI len), .int (iI s6.2.2.1), .int (nI s6.2.1), .int (nI s6.1), .int (nI s6.2.2.2), .int (nI tu), .int (nI pd)])), (lt, .inl (D.2.2.2.1, 220, .inl (nA LT)))] _ _ := hW.row 1 rfl (fun j hj => congrArg (nI) (e_28 j hj)) rfl
              have e_29 : ∀ k, k < 24 → (FGv) k = ((cq LT len tcu tFG tSC (at_, fn, fa, na)).2.2.1) k := by
                intro k hk
                rw [← hQ6]
              have hW : Wd X D A [(tb, .inr (0, [.int (nI thd.toNat), .int (nI tlo), .int (iI ((te : Int) - 1)), .int (nI thn.toNat), .int (nI (tcu + 1)), .ref tsc, .ref tfg, .ref ttv, .ref tpr])), (tsc, .inl (D.2.1, 4, .inl (nA ((cq LT len tcu tFG tSC (at_, fn, fa, na)).2.2.2)))), (tfg, .inl (D.2.1, 24, .inl (nA ((cq LT len tcu tFG tSC (at_, fn, fa, na)).2.2.1)))), (tx, .inr (5, [.ref lt, .int (nI len), .int (iI s6.2.2.1), .int (nI s6.2.1), .int (nI s6.1), .int (nI s6.2.2.2), .int (nI tu), .int (nI pd)])), (lt, .inl (D.2.2.2.1, 220, .inl (nA LT)))] _ _ := hW.row 2 rfl (fun j hj => congrArg (nI) (e_29 j hj)) rfl
              have e_30 : (s6.2.2.1 : Int) = (cS6 LT len tcu tFG tSC (at_, fn, fa, na)).2.2.1 := by
                rw [hS6]
              have e_31 : (s6.2.1 : Nat) = (cS6 LT len tcu tFG tSC (at_, fn, fa, na)).2.1 := by
                clear e_30
                rw [hS6]
              have e_32 : (s6.1 : Nat) = (cS6 LT len tcu tFG tSC (at_, fn, fa, na)).1 := by
                clear e_30 e_31
                rw [hS6]
              have e_33 : (s6.2.2.2 : Nat) = (cS6 LT len tcu tFG tSC (at_, fn, fa, na)).2.2.2 := by
                clear e_30 e_31 e_32
                rw [hS6]
              have e_34 : (tcu + 1 : Nat) = pk (decide ((cS6 LT len tcu tFG tSC (at_, fn, fa, na)).2.1 = 0)) (tcu + 1) tcu := by
                clear e_30 e_31 e_32 e_33
                rw [← hS6]; first | (rw [pk_t (decide_eq_true (by assumption))]; done) | (rw [pk_f (decide_eq_false (by assumption))]; done)
              exact hret _ _ _ _ dX5_readCube_131 (hW.conv [3, 4, 0, 1, 2] (w1 := [(tx, .inr (5, [.ref lt, .int (nI len), .int (iI s6.2.2.1), .int (nI s6.2.1), .int (nI s6.1), .int (nI s6.2.2.2), .int (nI tu), .int (nI pd)])), (lt, .inl (D.2.2.2.1, 220, .inl (nA LT))), (tb, .inr (0, [.int (nI thd.toNat), .int (nI tlo), .int (iI ((te : Int) - 1)), .int (nI thn.toNat), .int (nI (tcu + 1)), .ref tsc, .ref tfg, .ref ttv, .ref tpr])), (tsc, .inl (D.2.1, 4, .inl (nA ((cq LT len tcu tFG tSC (at_, fn, fa, na)).2.2.2)))), (tfg, .inl (D.2.1, 24, .inl (nA ((cq LT len tcu tFG tSC (at_, fn, fa, na)).2.2.1))))]) (w2 := [(tx, .inr (5, [.ref lt, .int (nI len), .int (iI ((cS6 LT len tcu tFG tSC (at_, fn, fa, na)).2.2.1)), .int (nI ((cS6 LT len tcu tFG tSC (at_, fn, fa, na)).2.1)), .int (nI ((cS6 LT len tcu tFG tSC (at_, fn, fa, na)).1)), .int (nI ((cS6 LT len tcu tFG tSC (at_, fn, fa, na)).2.2.2)), .int (nI tu), .int (nI pd)])), (lt, .inl (D.2.2.2.1, 220, .inl (nA LT))), (tb, .inr (0, [.int (nI thd.toNat), .int (nI tlo), .int (iI ((te : Int) - 1)), .int (nI thn.toNat), .int (nI (pk (decide ((cS6 LT len tcu tFG tSC (at_, fn, fa, na)).2.1 = 0)) (tcu + 1) tcu)), .ref tsc, .ref tfg, .ref ttv, .ref tpr])), (tsc, .inl (D.2.1, 4, .inl (nA ((cq LT len tcu tFG tSC (at_, fn, fa, na)).2.2.2)))), (tfg, .inl (D.2.1, 24, .inl (nA ((cq LT len tcu tFG tSC (at_, fn, fa, na)).2.2.1))))]) rfl rfl (cE (congrArg (fun z => ((tx, .inr (5, z)) : Nat × va_E)) (cE rfl (cE rfl (cE (congrArg Value.int (congrArg (fun z : Int => iI z) e_30)) (cE (congrArg Value.int (congrArg (fun z : Nat => nI z) e_31)) (cE (congrArg Value.int (congrArg (fun z : Nat => nI z) e_32)) (cE (congrArg Value.int (congrArg (fun z : Nat => nI z) e_33)) (cE rfl (cE rfl rfl))))))))) (cE rfl (cE (congrArg (fun z => ((tb, .inr (0, z)) : Nat × va_E)) (cE rfl (cE rfl (cE rfl (cE rfl (cE (congrArg Value.int (congrArg (fun z : Nat => nI z) e_34)) (cE rfl (cE rfl (cE rfl (cE rfl rfl)))))))))) (cE rfl (cE rfl rfl))))))
          · refine x_aload_n hx dX5_readCube_35 hl 0 rfl ?_
            refine x_get5 hx hW.1 4 rfl 3 (Nat.le_of_ble_eq_true rfl) wf_RX5_22 rfl dX5_readCube_36 ?_
            refine x_if_ne_N (a := n_) (tgt := 113) hx dX5_readCube_39 (by decide) (by omega) (fun h_35 => ?_) (fun h_35 => ?_)
            · have hQ6 : (go, ((a_, n_, fz, m_) : TS), FGv, SCv) = cq LT len tcu tFG tSC (at_, fn, fa, na) := by
                rw [cq, ← hbb, ← hs1]
                exact cbN_end hq (by omega) (by first | exact Or.inl (by omega) | exact Or.inr (Or.inl (by assumption)) | exact Or.inr (Or.inr (by assumption)))
              refine x_aload_n hx dX5_readCube_113 hl 0 rfl ?_
              obtain ⟨s6, hs6⟩ : ∃ z : TS, z = reS LT len (a_, n_, fz, m_) := ⟨_, rfl⟩
              refine x_callVV (As := []) (rest := []) (wr := [(tb, .inr (0, [.int (nI thd.toNat), .int (nI tlo), .int (iI ((te : Int) - 1)), .int (nI thn.toNat), .int (nI tcu), .ref tsc, .ref tfg, .ref ttv, .ref tpr])), (tsc, .inl (D.2.1, 4, .inl (nA SCv))), (tfg, .inl (D.2.1, 24, .inl (nA FGv)))]) hx yv_X5_readEnd (c_X5_readEnd _ D tx lt len fz n_ a_ m_ tu pd LT (by first | assumption | omega | (simp [*]; done)) (by first | assumption | omega | (simp [*]; done)) (by first | assumption | omega | (simp [*]; done)) (by first | assumption | omega | (simp [*]; done))) wm_RX5_88 hA hW [4, 0] [1, 2, 3] rfl rfl rfl rfl rfl 4 rfl rfl ⟨rfl, rfl⟩ ⟨Nat.le_of_ble_eq_true rfl, Nat.le_of_ble_eq_true rfl⟩ ⟨Nat.zero_le _, Nat.zero_le _⟩ hl rfl rfl (Nat.le_of_ble_eq_true rfl) dX5_readCube_114 [(tb, .inr (0, [.int (nI thd.toNat), .int (nI tlo), .int (iI ((te : Int) - 1)), .int (nI thn.toNat), .int (nI tcu), .ref tsc, .ref tfg, .ref ttv, .ref tpr])), (tsc, .inl (D.2.1, 4, .inl (nA SCv))), (tfg, .inl (D.2.1, 24, .inl (nA FGv))), (tx, .inr (5, [.ref lt, .int (nI len), .int (iI s6.2.2.1), .int (nI s6.2.1), .int (nI s6.1), .int (nI s6.2.2.2), .int (nI tu), .int (nI pd)])), (lt, .inl (D.2.2.2.1, 220, .inl (nA LT)))] (by subst hs6; rfl) (fun H locs hW => ?_)
              have ho_s6 : tsOk len s6 := by rw [hs6]; exact reS_ok hlen ho_q
              obtain ⟨ho_s6a, ho_s6b, ho_s6c, ho_s6d, ho_s6e⟩ := ho_s6
              have ho_s6 : tsOk len s6 := ⟨ho_s6a, ho_s6b, ho_s6c, ho_s6d, ho_s6e⟩
              have hS6 : s6 = cS6 LT len tcu tFG tSC (at_, fn, fa, na) := by rw [cS6, ← hQ6]; exact hs6
              refine x_aload_n hx dX5_readCube_117 hl 0 rfl ?_
              refine x_get5 hx hW.1 3 rfl 3 (Nat.le_of_ble_eq_true rfl) wf_RX5_22 rfl dX5_readCube_118 ?_
              refine x_if_ne_N (a := s6.2.1) (tgt := 131) hx dX5_readCube_121 (by decide) (by omega) (fun h_36 => ?_) (fun h_36 => ?_)
              · have e_37 : ∀ k, k < 4 → (SCv) k = ((cq LT len tcu tFG tSC (at_, fn, fa, na)).2.2.2) k := by
                  intro k hk
                  rw [← hQ6]
                have hW : Wd X D A [(tb, .inr (0, [.int (nI thd.toNat), .int (nI tlo), .int (iI ((te : Int) - 1)), .int (nI thn.toNat), .int (nI tcu), .ref tsc, .ref tfg, .ref ttv, .ref tpr])), (tsc, .inl (D.2.1, 4, .inl (nA ((cq LT len tcu tFG tSC (at_, fn, fa, na)).2.2.2)))), (tfg, .inl (D.2.1, 24, .inl (nA FGv))), (tx, .inr (5, [.ref lt, .int (nI len), .int (iI s6.2.2.1), .int (nI s6.2.1), .int (nI s6.1), .int (nI s6.2.2.2), .int (nI tu), .int (nI pd)])), (lt, .inl (D.2.2.2.1, 220, .inl (nA LT)))] _ _ := hW.row 1 rfl (fun j hj => congrArg (nI) (e_37 j hj)) rfl
                have e_38 : ∀ k, k < 24 → (FGv) k = ((cq LT len tcu tFG tSC (at_, fn, fa, na)).2.2.1) k := by
                  intro k hk
                  rw [← hQ6]
                have hW : Wd X D A [(tb, .inr (0, [.int (nI thd.toNat), .int (nI tlo), .int (iI ((te : Int) - 1)), .int (nI thn.toNat), .int (nI tcu), .ref tsc, .ref tfg, .ref ttv, .ref tpr])), (tsc, .inl (D.2.1, 4, .inl (nA ((cq LT len tcu tFG tSC (at_, fn, fa, na)).2.2.2)))), (tfg, .inl (D.2.1, 24, .inl (nA ((cq LT len tcu tFG tSC (at_, fn, fa, na)).2.2.1)))), (tx, .inr (5, [.ref lt, .int (nI len), .int (iI s6.2.2.1), .int (nI s6.2.1), .int (nI s6.1), .int (nI s6.2.2.2), .int (nI tu), .int (nI pd)])), (lt, .inl (D.2.2.2.1, 220, .inl (nA LT)))] _ _ := hW.row 2 rfl (fun j hj => congrArg (nI) (e_38 j hj)) rfl
                have e_39 : (s6.2.2.1 : Int) = (cS6 LT len tcu tFG tSC (at_, fn, fa, na)).2.2.1 := by
                  rw [hS6]
                have e_40 : (s6.2.1 : Nat) = (cS6 LT len tcu tFG tSC (at_, fn, fa, na)).2.1 := by
                  clear e_39
                  rw [hS6]
                have e_41 : (s6.1 : Nat) = (cS6 LT len tcu tFG tSC (at_, fn, fa, na)).1 := by
                  clear e_39 e_40
                  rw [hS6]
                have e_42 : (s6.2.2.2 : Nat) = (cS6 LT len tcu tFG tSC (at_, fn, fa, na)).2.2.2 := by
                  clear e_39 e_40 e_41
                  rw [hS6]
                have e_43 : (tcu : Nat) = pk (decide ((cS6 LT len tcu tFG tSC (at_, fn, fa, na)).2.1 = 0)) (tcu + 1) tcu := by
                  clear e_39 e_40 e_41 e_42
                  rw [← hS6]; first | (rw [pk_t (decide_eq_true (by assumption))]; done) | (rw [pk_f (decide_eq_false (by assumption))]; done)
                exact hret _ _ _ _ dX5_readCube_131 (hW.conv [3, 4, 0, 1, 2] (w1 := [(tx, .inr (5, [.ref lt, .int (nI len), .int (iI s6.2.2.1), .int (nI s6.2.1), .int (nI s6.1), .int (nI s6.2.2.2), .int (nI tu), .int (nI pd)])), (lt, .inl (D.2.2.2.1, 220, .inl (nA LT))), (tb, .inr (0, [.int (nI thd.toNat), .int (nI tlo), .int (iI ((te : Int) - 1)), .int (nI thn.toNat), .int (nI tcu), .ref tsc, .ref tfg, .ref ttv, .ref tpr])), (tsc, .inl (D.2.1, 4, .inl (nA ((cq LT len tcu tFG tSC (at_, fn, fa, na)).2.2.2)))), (tfg, .inl (D.2.1, 24, .inl (nA ((cq LT len tcu tFG tSC (at_, fn, fa, na)).2.2.1))))]) (w2 := [(tx, .inr (5, [.ref lt, .int (nI len), .int (iI ((cS6 LT len tcu tFG tSC (at_, fn, fa, na)).2.2.1)), .int (nI ((cS6 LT len tcu tFG tSC (at_, fn, fa, na)).2.1)), .int (nI ((cS6 LT len tcu tFG tSC (at_, fn, fa, na)).1)), .int (nI ((cS6 LT len tcu tFG tSC (at_, fn, fa, na)).2.2.2)), .int (nI tu), .int (nI pd)])), (lt, .inl (D.2.2.2.1, 220, .inl (nA LT))), (tb, .inr (0, [.int (nI thd.toNat), .int (nI tlo), .int (iI ((te : Int) - 1)), .int (nI thn.toNat), .int (nI (pk (decide ((cS6 LT len tcu tFG tSC (at_, fn, fa, na)).2.1 = 0)) (tcu + 1) tcu)), .ref tsc, .ref tfg, .ref ttv, .ref tpr])), (tsc, .inl (D.2.1, 4, .inl (nA ((cq LT len tcu tFG tSC (at_, fn, fa, na)).2.2.2)))), (tfg, .inl (D.2.1, 24, .inl (nA ((cq LT len tcu tFG tSC (at_, fn, fa, na)).2.2.1))))]) rfl rfl (cE (congrArg (fun z => ((tx, .inr (5, z)) : Nat × va_E)) (cE rfl (cE rfl (cE (congrArg Value.int (congrArg (fun z : Int => iI z) e_39)) (cE (congrArg Value.int (congrArg (fun z : Nat => nI z) e_40)) (cE (congrArg Value.int (congrArg (fun z : Nat => nI z) e_41)) (cE (congrArg Value.int (congrArg (fun z : Nat => nI z) e_42)) (cE rfl (cE rfl rfl))))))))) (cE rfl (cE (congrArg (fun z => ((tb, .inr (0, z)) : Nat × va_E)) (cE rfl (cE rfl (cE rfl (cE rfl (cE (congrArg Value.int (congrArg (fun z : Nat => nI z) e_43)) (cE rfl (cE rfl (cE rfl (cE rfl rfl)))))))))) (cE rfl (cE rfl rfl))))))
              · refine x_aload_n hx dX5_readCube_124 hl 1 rfl ?_
                refine x_iload_n hx dX5_readCube_125 hl 2 rfl ?_
                refine x_iconst (v := nI 1) hx dX5_readCube_126 (by decide) ?_
                refine x_iadd (v := nI (tcu + 1)) hx dX5_readCube_127 (nI_add _ _) ?_
                refine x_put0 hx hW 0 rfl 4 (Nat.le_of_ble_eq_true rfl) wf_RX5_100 rfl rfl rfl (Nat.le_of_ble_eq_true rfl) dX5_readCube_128 [(tb, .inr (0, [.int (nI thd.toNat), .int (nI tlo), .int (iI ((te : Int) - 1)), .int (nI thn.toNat), .int (nI (tcu + 1)), .ref tsc, .ref tfg, .ref ttv, .ref tpr])), (tsc, .inl (D.2.1, 4, .inl (nA SCv))), (tfg, .inl (D.2.1, 24, .inl (nA FGv))), (tx, .inr (5, [.ref lt, .int (nI len), .int (iI s6.2.2.1), .int (nI s6.2.1), .int (nI s6.1), .int (nI s6.2.2.2), .int (nI tu), .int (nI pd)])), (lt, .inl (D.2.2.2.1, 220, .inl (nA LT)))] rfl (fun H locs hW => ?_)
                have e_44 : ∀ k, k < 4 → (SCv) k = ((cq LT len tcu tFG tSC (at_, fn, fa, na)).2.2.2) k := by
                  intro k hk
                  rw [← hQ6]
                have hW : Wd X D A [(tb, .inr (0, [.int (nI thd.toNat), .int (nI tlo), .int (iI ((te : Int) - 1)), .int (nI thn.toNat), .int (nI (tcu + 1)), .ref tsc, .ref tfg, .ref ttv, .ref tpr])), (tsc, .inl (D.2.1, 4, .inl (nA ((cq LT len tcu tFG tSC (at_, fn, fa, na)).2.2.2)))), (tfg, .inl (D.2.1, 24, .inl (nA FGv))), (tx, .inr (5, [.ref lt, .int (nI len), .int (iI s6.2.2.1), .int (nI s6.2.1), .int (nI s6.1), .int (nI s6.2.2.2), .int (nI tu), .int (nI pd)])), (lt, .inl (D.2.2.2.1, 220, .inl (nA LT)))] _ _ := hW.row 1 rfl (fun j hj => congrArg (nI) (e_44 j hj)) rfl
                have e_45 : ∀ k, k < 24 → (FGv) k = ((cq LT len tcu tFG tSC (at_, fn, fa, na)).2.2.1) k := by
                  intro k hk
                  rw [← hQ6]
                have hW : Wd X D A [(tb, .inr (0, [.int (nI thd.toNat), .int (nI tlo), .int (iI ((te : Int) - 1)), .int (nI thn.toNat), .int (nI (tcu + 1)), .ref tsc, .ref tfg, .ref ttv, .ref tpr])), (tsc, .inl (D.2.1, 4, .inl (nA ((cq LT len tcu tFG tSC (at_, fn, fa, na)).2.2.2)))), (tfg, .inl (D.2.1, 24, .inl (nA ((cq LT len tcu tFG tSC (at_, fn, fa, na)).2.2.1)))), (tx, .inr (5, [.ref lt, .int (nI len), .int (iI s6.2.2.1), .int (nI s6.2.1), .int (nI s6.1), .int (nI s6.2.2.2), .int (nI tu), .int (nI pd)])), (lt, .inl (D.2.2.2.1, 220, .inl (nA LT)))] _ _ := hW.row 2 rfl (fun j hj => congrArg (nI) (e_45 j hj)) rfl
                have e_46 : (s6.2.2.1 : Int) = (cS6 LT len tcu tFG tSC (at_, fn, fa, na)).2.2.1 := by
                  rw [hS6]
                have e_47 : (s6.2.1 : Nat) = (cS6 LT len tcu tFG tSC (at_, fn, fa, na)).2.1 := by
                  clear e_46
                  rw [hS6]
                have e_48 : (s6.1 : Nat) = (cS6 LT len tcu tFG tSC (at_, fn, fa, na)).1 := by
                  clear e_46 e_47
                  rw [hS6]
                have e_49 : (s6.2.2.2 : Nat) = (cS6 LT len tcu tFG tSC (at_, fn, fa, na)).2.2.2 := by
                  clear e_46 e_47 e_48
                  rw [hS6]
                have e_50 : (tcu + 1 : Nat) = pk (decide ((cS6 LT len tcu tFG tSC (at_, fn, fa, na)).2.1 = 0)) (tcu + 1) tcu := by
                  clear e_46 e_47 e_48 e_49
                  rw [← hS6]; first | (rw [pk_t (decide_eq_true (by assumption))]; done) | (rw [pk_f (decide_eq_false (by assumption))]; done)
                exact hret _ _ _ _ dX5_readCube_131 (hW.conv [3, 4, 0, 1, 2] (w1 := [(tx, .inr (5, [.ref lt, .int (nI len), .int (iI s6.2.2.1), .int (nI s6.2.1), .int (nI s6.1), .int (nI s6.2.2.2), .int (nI tu), .int (nI pd)])), (lt, .inl (D.2.2.2.1, 220, .inl (nA LT))), (tb, .inr (0, [.int (nI thd.toNat), .int (nI tlo), .int (iI ((te : Int) - 1)), .int (nI thn.toNat), .int (nI (tcu + 1)), .ref tsc, .ref tfg, .ref ttv, .ref tpr])), (tsc, .inl (D.2.1, 4, .inl (nA ((cq LT len tcu tFG tSC (at_, fn, fa, na)).2.2.2)))), (tfg, .inl (D.2.1, 24, .inl (nA ((cq LT len tcu tFG tSC (at_, fn, fa, na)).2.2.1))))]) (w2 := [(tx, .inr (5, [.ref lt, .int (nI len), .int (iI ((cS6 LT len tcu tFG tSC (at_, fn, fa, na)).2.2.1)), .int (nI ((cS6 LT len tcu tFG tSC (at_, fn, fa, na)).2.1)), .int (nI ((cS6 LT len tcu tFG tSC (at_, fn, fa, na)).1)), .int (nI ((cS6 LT len tcu tFG tSC (at_, fn, fa, na)).2.2.2)), .int (nI tu), .int (nI pd)])), (lt, .inl (D.2.2.2.1, 220, .inl (nA LT))), (tb, .inr (0, [.int (nI thd.toNat), .int (nI tlo), .int (iI ((te : Int) - 1)), .int (nI thn.toNat), .int (nI (pk (decide ((cS6 LT len tcu tFG tSC (at_, fn, fa, na)).2.1 = 0)) (tcu + 1) tcu)), .ref tsc, .ref tfg, .ref ttv, .ref tpr])), (tsc, .inl (D.2.1, 4, .inl (nA ((cq LT len tcu tFG tSC (at_, fn, fa, na)).2.2.2)))), (tfg, .inl (D.2.1, 24, .inl (nA ((cq LT len tcu tFG tSC (at_, fn, fa, na)).2.2.1))))]) rfl rfl (cE (congrArg (fun z => ((tx, .inr (5, z)) : Nat × va_E)) (cE rfl (cE rfl (cE (congrArg Value.int (congrArg (fun z : Int => iI z) e_46)) (cE (congrArg Value.int (congrArg (fun z : Nat => nI z) e_47)) (cE (congrArg Value.int (congrArg (fun z : Nat => nI z) e_48)) (cE (congrArg Value.int (congrArg (fun z : Nat => nI z) e_49)) (cE rfl (cE rfl rfl))))))))) (cE rfl (cE (congrArg (fun z => ((tb, .inr (0, z)) : Nat × va_E)) (cE rfl (cE rfl (cE rfl (cE rfl (cE (congrArg Value.int (congrArg (fun z : Nat => nI z) e_50)) (cE rfl (cE rfl (cE rfl (cE rfl rfl)))))))))) (cE rfl (cE rfl rfl))))))
            · have hc9 := hc4 (by assumption)
              refine x_aload_n hx dX5_readCube_42 hl 1 rfl ?_
              refine x_get0 hx hW.1 1 rfl 6 (Nat.le_of_ble_eq_true rfl) wf_RX5_103 rfl dX5_readCube_43 ?_
              refine x_iload_n hx dX5_readCube_46 hl 2 rfl ?_
              refine x_iload hx dX5_readCube_47 hl 4 rfl ?_
              refine x_callRN (As := [.int (nI tcu), .int (nI f)]) (rest := [.ref tfg]) hx yv_X7_place (c_X7_place _ D tcu f (by first | assumption | omega | (simp [*]; done)) (by first | assumption | omega | (simp [*]; done))) (List.mem_of_getElem? (i := 7) rfl) hW.1 [] rfl ⟨rfl, rfl⟩ ⟨Nat.le_of_ble_eq_true rfl, Nat.le_of_ble_eq_true rfl⟩ ⟨Nat.zero_le _, Nat.zero_le _⟩ hl rfl rfl (Nat.le_of_ble_eq_true rfl) dX5_readCube_49 ?_
              refine x_aload_n hx dX5_readCube_52 hl 0 rfl ?_
              refine x_bipush (v := nI 9) hx dX5_readCube_53 (by decide) ?_
              obtain ⟨t1, ht1⟩ : ∃ z : TS, z = rnS LT len 9 (a_, n_, fz, m_) := ⟨_, rfl⟩
              refine x_callMV (As := [.int (nI 9)]) (rest := [.int (nI (tcu * 6 + f)), .ref tfg]) (wr := [(tb, .inr (0, [.int (nI thd.toNat), .int (nI tlo), .int (iI ((te : Int) - 1)), .int (nI thn.toNat), .int (nI tcu), .ref tsc, .ref tfg, .ref ttv, .ref tpr])), (tsc, .inl (D.2.1, 4, .inl (nA SCv))), (tfg, .inl (D.2.1, 24, .inl (nA FGv)))]) hx yv_X5_readNumber (c_X5_readNumber _ D tx lt len fz n_ a_ m_ tu pd LT 9 (by first | assumption | omega | (simp [*]; done)) (by first | assumption | omega | (simp [*]; done)) (by first | assumption | omega | (simp [*]; done)) (by first | assumption | omega | (simp [*]; done)) (by first | assumption | omega | (simp [*]; done))) wm_RX5_84 hA hW [4, 0] [1, 2, 3] rfl rfl rfl rfl rfl 4 rfl rfl ⟨rfl, rfl⟩ ⟨Nat.le_of_ble_eq_true rfl, Nat.le_of_ble_eq_true rfl⟩ ⟨Nat.zero_le _, Nat.zero_le _⟩ hl rfl rfl (Nat.le_of_ble_eq_true rfl) dX5_readCube_55 [(tb, .inr (0, [.int (nI thd.toNat), .int (nI tlo), .int (iI ((te : Int) - 1)), .int (nI thn.toNat), .int (nI tcu), .ref tsc, .ref tfg, .ref ttv, .ref tpr])), (tsc, .inl (D.2.1, 4, .inl (nA SCv))), (tfg, .inl (D.2.1, 24, .inl (nA FGv))), (tx, .inr (5, [.ref lt, .int (nI len), .int (iI t1.2.2.1), .int (nI t1.2.1), .int (nI t1.1), .int (nI t1.2.2.2), .int (nI tu), .int (nI pd)])), (lt, .inl (D.2.2.2.1, 220, .inl (nA LT)))] (by subst ht1; rfl) (fun H locs hW => ?_)
              obtain ⟨v1, hv1⟩ : ∃ z : Nat, z = rnV LT len 9 (a_, n_, fz, m_) := ⟨_, rfl⟩
              have hle_v1 : v1 ≤ 9 := by rw [hv1]; exact rnV_le
              refine x_top (u := nI v1) (congrArg nI hv1.symm) ?_
              have ho_t1 : tsOk len t1 := by rw [ht1]; exact rnS_ok hlen ho_q
              obtain ⟨ho_t1a, ho_t1b, ho_t1c, ho_t1d, ho_t1e⟩ := ho_t1
              have ho_t1 : tsOk len t1 := ⟨ho_t1a, ho_t1b, ho_t1c, ho_t1d, ho_t1e⟩
              have hj_58 : tcu * 6 + f < 24 := by omega
              refine x_iast hx hW 2 rfl hj_58 (by decide) (upd_nA _ _ _) dX5_readCube_58 [(tb, .inr (0, [.int (nI thd.toNat), .int (nI tlo), .int (iI ((te : Int) - 1)), .int (nI thn.toNat), .int (nI tcu), .ref tsc, .ref tfg, .ref ttv, .ref tpr])), (tsc, .inl (D.2.1, 4, .inl (nA SCv))), (tfg, .inl (D.2.1, 24, .inl (nA (va_up FGv (tcu * 6 + f) v1)))), (tx, .inr (5, [.ref lt, .int (nI len), .int (iI t1.2.2.1), .int (nI t1.2.1), .int (nI t1.1), .int (nI t1.2.2.2), .int (nI tu), .int (nI pd)])), (lt, .inl (D.2.2.2.1, 220, .inl (nA LT)))] rfl (fun H locs hW => ?_)
              refine x_aload_n hx dX5_readCube_59 hl 1 rfl ?_
              refine x_get0 hx hW.1 0 rfl 5 (Nat.le_of_ble_eq_true rfl) wf_RX5_111 rfl dX5_readCube_60 ?_
              refine x_iload_n hx dX5_readCube_63 hl 2 rfl ?_
              refine x_iload hx dX5_readCube_64 hl 4 rfl ?_
              refine x_iconst (v := nI 1) hx dX5_readCube_66 (by decide) ?_
              refine x_iadd (v := nI (f + 1)) hx dX5_readCube_67 (nI_add _ _) ?_
              have hj_68 : tcu < 4 := by omega
              refine x_iast hx hW 1 rfl hj_68 (by decide) (upd_nA _ _ _) dX5_readCube_68 [(tb, .inr (0, [.int (nI thd.toNat), .int (nI tlo), .int (iI ((te : Int) - 1)), .int (nI thn.toNat), .int (nI tcu), .ref tsc, .ref tfg, .ref ttv, .ref tpr])), (tsc, .inl (D.2.1, 4, .inl (nA (va_up SCv tcu (f + 1))))), (tfg, .inl (D.2.1, 24, .inl (nA (va_up FGv (tcu * 6 + f) v1)))), (tx, .inr (5, [.ref lt, .int (nI len), .int (iI t1.2.2.1), .int (nI t1.2.1), .int (nI t1.1), .int (nI t1.2.2.2), .int (nI tu), .int (nI pd)])), (lt, .inl (D.2.2.2.1, 220, .inl (nA LT)))] rfl (fun H locs hW => ?_)
              refine x_iload hx dX5_readCube_69 hl 4 rfl ?_
              refine x_iconst (v := nI 1) hx dX5_readCube_71 (by decide) ?_
              refine x_iadd (v := nI (f + 1)) hx dX5_readCube_72 (nI_add _ _) ?_
              refine x_bipush (v := nI 6) hx dX5_readCube_73 (by decide) ?_
              have J92_51 : ∀ (gn : Bool) (az : Nat), (gn = cbG LT len f t1) → ((if gn then az + 1 else az) = (cbT LT len f t1).1) → (az < len ∨ (gn = false ∧ az ≤ len)) → ∀ (H : Heap) (locs : List Loc), Wd X D A [(tb, .inr (0, [.int (nI thd.toNat), .int (nI tlo), .int (iI ((te : Int) - 1)), .int (nI thn.toNat), .int (nI tcu), .ref tsc, .ref tfg, .ref ttv, .ref tpr])), (tsc, .inl (D.2.1, 4, .inl (nA (va_up SCv tcu (f + 1))))), (tfg, .inl (D.2.1, 24, .inl (nA (va_up FGv (tcu * 6 + f) v1)))), (tx, .inr (5, [.ref lt, .int (nI len), .int (iI t1.2.2.1), .int (nI t1.2.1), .int (nI az), .int (nI t1.2.2.2), .int (nI tu), .int (nI pd)])), (lt, .inl (D.2.2.2.1, 220, .inl (nA LT)))] H locs → ∀ ls : Array Slot, lv_has ls 5 [(0, .ref tx), (1, .ref tb), (2, .int (nI tcu)), (3, .int (nI go.toNat)), (4, .int (nI f))] → Wx X 0 0 H locs 92 ls [.int (nI gn.toNat)] := by
                intro gn az hgn haz haz2 H locs hW ls hl
                refine x_istore_n (lv' := [(3, .int (nI gn.toNat)), (0, .ref tx), (1, .ref tb), (2, .int (nI tcu)), (4, .int (nI f))]) hx dX5_readCube_92 hl (Nat.le_of_ble_eq_true rfl) rfl (fun ls hl => ?_)
                refine x_iload_n hx dX5_readCube_93 hl 0 rfl ?_
                refine x_if_eq_B (tgt := 107) hx dX5_readCube_94 (by decide) (fun h_52 => ?_) (fun h_52 => ?_)
                · have hoN : tsOk len (az, t1.2.1, t1.2.2.1, t1.2.2.2) := ⟨by simp only; omega, ho_t1b, ho_t1c, ho_t1d, ho_t1e⟩
                  have hqN : (gn, ((az, t1.2.1, t1.2.2.1, t1.2.2.2) : TS), va_up FGv (tcu * 6 + f) v1, va_up SCv tcu (f + 1)) = cbN LT len tcu (true, s1, tFG, tSC) (f + 1) := by
                    rw [← cbN_go hq (by assumption) (by assumption), cbStep, ← ht1, ← hv1, ← hgn, cbT_eq (a := az) (by rw [← haz, if_neg (by rw [show gn = false from by assumption]; decide)])]
                  refine x_iinc (v := nI (f + 1)) (lv' := [(4, .int (nI (f + 1))), (3, .int (nI gn.toNat)), (0, .ref tx), (1, .ref tb), (2, .int (nI tcu))]) hx dX5_readCube_107 hl 4 rfl (nI_addc f 1) (Nat.le_of_ble_eq_true rfl) rfl (fun ls hl => ?_)
                  refine x_goto (tgt := 24) hx dX5_readCube_110 (by decide) ?_
                  have e_53 : (f + 1 : Nat) = (f + 1) := by
                    first | rfl | omega | (simp [*]; done) | (simp [*]; omega)
                  exact ihL24_2 (f + 1) gn az t1.2.1 t1.2.2.1 t1.2.2.2 (va_up FGv (tcu * 6 + f) v1) (va_up SCv tcu (f + 1)) (by omega) (by exact hqN) (by exact hoN) (by omega) (by omega) _ _ (hW.conv [4, 0, 1, 2, 3] (w1 := [(lt, .inl (D.2.2.2.1, 220, .inl (nA LT))), (tb, .inr (0, [.int (nI thd.toNat), .int (nI tlo), .int (iI ((te : Int) - 1)), .int (nI thn.toNat), .int (nI tcu), .ref tsc, .ref tfg, .ref ttv, .ref tpr])), (tsc, .inl (D.2.1, 4, .inl (nA (va_up SCv tcu (f + 1))))), (tfg, .inl (D.2.1, 24, .inl (nA (va_up FGv (tcu * 6 + f) v1)))), (tx, .inr (5, [.ref lt, .int (nI len), .int (iI t1.2.2.1), .int (nI t1.2.1), .int (nI az), .int (nI t1.2.2.2), .int (nI tu), .int (nI pd)]))]) (w2 := [(lt, .inl (D.2.2.2.1, 220, .inl (nA LT))), (tb, .inr (0, [.int (nI thd.toNat), .int (nI tlo), .int (iI ((te : Int) - 1)), .int (nI thn.toNat), .int (nI tcu), .ref tsc, .ref tfg, .ref ttv, .ref tpr])), (tsc, .inl (D.2.1, 4, .inl (nA (va_up SCv tcu (f + 1))))), (tfg, .inl (D.2.1, 24, .inl (nA (va_up FGv (tcu * 6 + f) v1)))), (tx, .inr (5, [.ref lt, .int (nI len), .int (iI t1.2.2.1), .int (nI t1.2.1), .int (nI az), .int (nI t1.2.2.2), .int (nI tu), .int (nI pd)]))]) rfl rfl rfl) _ (lv_to (l := [(0, .ref tx), (1, .ref tb), (2, .int (nI tcu)), (3, .int (nI gn.toNat)), (4, .int (nI (f + 1)))]) (l2 := [(0, .ref tx), (1, .ref tb), (2, .int (nI tcu)), (3, .int (nI gn.toNat)), (4, .int (nI (f + 1)))]) (lv_sub hl [2, 3, 4, 1, 0] rfl) (cE rfl (cE rfl (cE rfl (cE rfl (cE (congrArg (fun z => ((4, Value.int z) : Nat × Value)) (congrArg (fun z : Nat => nI z) e_53)) rfl))))))
                · have hazl : az < len := haz2.elim id (fun h9 => absurd h9.1 (by rw [show gn = true from by assumption]; decide))
                  have hoN : tsOk len (az + 1, t1.2.1, t1.2.2.1, t1.2.2.2) := ⟨by simp only; omega, ho_t1b, ho_t1c, ho_t1d, ho_t1e⟩
                  have hqN : (gn, ((az + 1, t1.2.1, t1.2.2.1, t1.2.2.2) : TS), va_up FGv (tcu * 6 + f) v1, va_up SCv tcu (f + 1)) = cbN LT len tcu (true, s1, tFG, tSC) (f + 1) := by
                    rw [← cbN_go hq (by assumption) (by assumption), cbStep, ← ht1, ← hv1, ← hgn, cbT_eq (a := az + 1) (by rw [← haz, if_pos (by assumption)])]
                  refine x_aload_n hx dX5_readCube_97 hl 1 rfl ?_
                  refine x_dup hx dX5_readCube_98 rfl ?_
                  refine x_get5 hx hW.1 3 rfl 4 (Nat.le_of_ble_eq_true rfl) wf_RX5_25 rfl dX5_readCube_99 ?_
                  refine x_iconst (v := nI 1) hx dX5_readCube_102 (by decide) ?_
                  refine x_iadd (v := nI (az + 1)) hx dX5_readCube_103 (nI_add _ _) ?_
                  refine x_put5 hx hW 3 rfl 4 (Nat.le_of_ble_eq_true rfl) wf_RX5_25 rfl rfl rfl (Nat.le_of_ble_eq_true rfl) dX5_readCube_104 [(tb, .inr (0, [.int (nI thd.toNat), .int (nI tlo), .int (iI ((te : Int) - 1)), .int (nI thn.toNat), .int (nI tcu), .ref tsc, .ref tfg, .ref ttv, .ref tpr])), (tsc, .inl (D.2.1, 4, .inl (nA (va_up SCv tcu (f + 1))))), (tfg, .inl (D.2.1, 24, .inl (nA (va_up FGv (tcu * 6 + f) v1)))), (tx, .inr (5, [.ref lt, .int (nI len), .int (iI t1.2.2.1), .int (nI t1.2.1), .int (nI (az + 1)), .int (nI t1.2.2.2), .int (nI tu), .int (nI pd)])), (lt, .inl (D.2.2.2.1, 220, .inl (nA LT)))] rfl (fun H locs hW => ?_)
                  refine x_iinc (v := nI (f + 1)) (lv' := [(4, .int (nI (f + 1))), (3, .int (nI gn.toNat)), (0, .ref tx), (1, .ref tb), (2, .int (nI tcu))]) hx dX5_readCube_107 hl 4 rfl (nI_addc f 1) (Nat.le_of_ble_eq_true rfl) rfl (fun ls hl => ?_)
                  refine x_goto (tgt := 24) hx dX5_readCube_110 (by decide) ?_
                  have e_54 : (f + 1 : Nat) = (f + 1) := by
                    first | rfl | omega | (simp [*]; done) | (simp [*]; omega)
                  have e_55 : (az + 1 : Nat) = (az + 1) := by
                    clear e_54
                    first | rfl | omega | (simp [*]; done) | (simp [*]; omega)
                  exact ihL24_2 (f + 1) gn (az + 1) t1.2.1 t1.2.2.1 t1.2.2.2 (va_up FGv (tcu * 6 + f) v1) (va_up SCv tcu (f + 1)) (by omega) (by exact hqN) (by exact hoN) (by omega) (by omega) _ _ (hW.conv [4, 0, 1, 2, 3] (w1 := [(lt, .inl (D.2.2.2.1, 220, .inl (nA LT))), (tb, .inr (0, [.int (nI thd.toNat), .int (nI tlo), .int (iI ((te : Int) - 1)), .int (nI thn.toNat), .int (nI tcu), .ref tsc, .ref tfg, .ref ttv, .ref tpr])), (tsc, .inl (D.2.1, 4, .inl (nA (va_up SCv tcu (f + 1))))), (tfg, .inl (D.2.1, 24, .inl (nA (va_up FGv (tcu * 6 + f) v1)))), (tx, .inr (5, [.ref lt, .int (nI len), .int (iI t1.2.2.1), .int (nI t1.2.1), .int (nI (az + 1)), .int (nI t1.2.2.2), .int (nI tu), .int (nI pd)]))]) (w2 := [(lt, .inl (D.2.2.2.1, 220, .inl (nA LT))), (tb, .inr (0, [.int (nI thd.toNat), .int (nI tlo), .int (iI ((te : Int) - 1)), .int (nI thn.toNat), .int (nI tcu), .ref tsc, .ref tfg, .ref ttv, .ref tpr])), (tsc, .inl (D.2.1, 4, .inl (nA (va_up SCv tcu (f + 1))))), (tfg, .inl (D.2.1, 24, .inl (nA (va_up FGv (tcu * 6 + f) v1)))), (tx, .inr (5, [.ref lt, .int (nI len), .int (iI t1.2.2.1), .int (nI t1.2.1), .int (nI (az + 1)), .int (nI t1.2.2.2), .int (nI tu), .int (nI pd)]))]) rfl rfl (cE rfl (cE rfl (cE rfl (cE rfl (cE (congrArg (fun z => ((tx, .inr (5, z)) : Nat × va_E)) (cE rfl (cE rfl (cE rfl (cE rfl (cE (congrArg Value.int (congrArg (fun z : Nat => nI z) e_55)) (cE rfl (cE rfl (cE rfl rfl))))))))) rfl)))))) _ (lv_to (l := [(0, .ref tx), (1, .ref tb), (2, .int (nI tcu)), (3, .int (nI gn.toNat)), (4, .int (nI (f + 1)))]) (l2 := [(0, .ref tx), (1, .ref tb), (2, .int (nI tcu)), (3, .int (nI gn.toNat)), (4, .int (nI (f + 1)))]) (lv_sub hl [2, 3, 4, 1, 0] rfl) (cE rfl (cE rfl (cE rfl (cE rfl (cE (congrArg (fun z => ((4, Value.int z) : Nat × Value)) (congrArg (fun z : Nat => nI z) e_54)) rfl))))))
              refine x_icmp_ge_N (a := (f + 1)) (b := 6) (tgt := 91) hx dX5_readCube_75 (by decide) (by omega) (by omega) (fun h_56 => ?_) (fun h_56 => ?_)
              · refine x_iconst (v := nI 0) hx dX5_readCube_91 (by decide) ?_
                -- stack differs: .int (nI false.toNat) / .int (nI 0)
                exact J92_51 false t1.1 (by first | exact (cb_5 (by assumption)).1.symm | exact (cb_y (by assumption) (by assumption)).1.symm | exact (cb_n (by assumption) (by assumption)).1.symm) (by first | (rw [if_pos rfl]; exact (cb_y (by assumption) (by assumption)).2.symm) | (rw [if_neg (by decide)]; exact (cb_5 (by assumption)).2.symm) | (rw [if_neg (by decide)]; exact (cb_n (by assumption) (by assumption)).2.symm)) (by first | exact Or.inr ⟨rfl, by omega⟩ | exact Or.inl (by omega)) _ _ hW _ (lv_sub hl [0, 1, 2, 3, 4] rfl)
              · have hsk := skipB_rng LT ho_t1a
                refine x_aload_n hx dX5_readCube_78 hl 0 rfl ?_
                refine x_bipush (v := nI 44) hx dX5_readCube_79 (by decide) ?_
                refine x_callMV (As := [.int (nI 44)]) (rest := []) (wr := [(tb, .inr (0, [.int (nI thd.toNat), .int (nI tlo), .int (iI ((te : Int) - 1)), .int (nI thn.toNat), .int (nI tcu), .ref tsc, .ref tfg, .ref ttv, .ref tpr])), (tsc, .inl (D.2.1, 4, .inl (nA (va_up SCv tcu (f + 1))))), (tfg, .inl (D.2.1, 24, .inl (nA (va_up FGv (tcu * 6 + f) v1))))]) hx yv_X5_isNext (c_X5_isNext _ D tx lt len t1.2.2.1 t1.2.1 t1.1 t1.2.2.2 tu pd LT 44 (by first | assumption | omega | (simp [*]; done)) (by first | assumption | omega | (simp [*]; done)) (by first | assumption | omega | (simp [*]; done)) (by first | assumption | omega | (simp [*]; done))) wm_RX5_56 hA hW [3, 4] [0, 1, 2] rfl rfl rfl rfl rfl 3 rfl rfl ⟨rfl, rfl⟩ ⟨Nat.le_of_ble_eq_true rfl, Nat.le_of_ble_eq_true rfl⟩ ⟨Nat.zero_le _, Nat.zero_le _⟩ hl rfl rfl (Nat.le_of_ble_eq_true rfl) dX5_readCube_81 [(tb, .inr (0, [.int (nI thd.toNat), .int (nI tlo), .int (iI ((te : Int) - 1)), .int (nI thn.toNat), .int (nI tcu), .ref tsc, .ref tfg, .ref ttv, .ref tpr])), (tsc, .inl (D.2.1, 4, .inl (nA (va_up SCv tcu (f + 1))))), (tfg, .inl (D.2.1, 24, .inl (nA (va_up FGv (tcu * 6 + f) v1)))), (tx, .inr (5, [.ref lt, .int (nI len), .int (iI t1.2.2.1), .int (nI t1.2.1), .int (nI (skipB LT len t1.1)), .int (nI t1.2.2.2), .int (nI tu), .int (nI pd)])), (lt, .inl (D.2.2.2.1, 220, .inl (nA LT)))] rfl (fun H locs hW => ?_)
                refine x_if_eq_B (tgt := 91) hx dX5_readCube_84 (by decide) (fun h_57 => ?_) (fun h_57 => ?_)
                · have hd_58 := of_decide_eq_false h_57
                  refine x_iconst (v := nI 0) hx dX5_readCube_91 (by decide) ?_
                  have e_59 : (skipB LT len t1.1 : Nat) = (skipB LT len t1.1) := by
                    first | rfl | omega | (simp [*]; done) | (simp [*]; omega)
                  -- stack differs: .int (nI false.toNat) / .int (nI 0)
                  exact J92_51 false (skipB LT len t1.1) (by first | exact (cb_5 (by assumption)).1.symm | exact (cb_y (by assumption) (by assumption)).1.symm | exact (cb_n (by assumption) (by assumption)).1.symm) (by first | (rw [if_pos rfl]; exact (cb_y (by assumption) (by assumption)).2.symm) | (rw [if_neg (by decide)]; exact (cb_5 (by assumption)).2.symm) | (rw [if_neg (by decide)]; exact (cb_n (by assumption) (by assumption)).2.symm)) (by first | exact Or.inr ⟨rfl, by omega⟩ | exact Or.inl (by omega)) _ _ (hW.conv [0, 1, 2, 3, 4] (w1 := [(tb, .inr (0, [.int (nI thd.toNat), .int (nI tlo), .int (iI ((te : Int) - 1)), .int (nI thn.toNat), .int (nI tcu), .ref tsc, .ref tfg, .ref ttv, .ref tpr])), (tsc, .inl (D.2.1, 4, .inl (nA (va_up SCv tcu (f + 1))))), (tfg, .inl (D.2.1, 24, .inl (nA (va_up FGv (tcu * 6 + f) v1)))), (tx, .inr (5, [.ref lt, .int (nI len), .int (iI t1.2.2.1), .int (nI t1.2.1), .int (nI (skipB LT len t1.1)), .int (nI t1.2.2.2), .int (nI tu), .int (nI pd)])), (lt, .inl (D.2.2.2.1, 220, .inl (nA LT)))]) (w2 := [(tb, .inr (0, [.int (nI thd.toNat), .int (nI tlo), .int (iI ((te : Int) - 1)), .int (nI thn.toNat), .int (nI tcu), .ref tsc, .ref tfg, .ref ttv, .ref tpr])), (tsc, .inl (D.2.1, 4, .inl (nA (va_up SCv tcu (f + 1))))), (tfg, .inl (D.2.1, 24, .inl (nA (va_up FGv (tcu * 6 + f) v1)))), (tx, .inr (5, [.ref lt, .int (nI len), .int (iI t1.2.2.1), .int (nI t1.2.1), .int (nI (skipB LT len t1.1)), .int (nI t1.2.2.2), .int (nI tu), .int (nI pd)])), (lt, .inl (D.2.2.2.1, 220, .inl (nA LT)))]) rfl rfl (cE rfl (cE rfl (cE rfl (cE (congrArg (fun z => ((tx, .inr (5, z)) : Nat × va_E)) (cE rfl (cE rfl (cE rfl (cE rfl (cE (congrArg Value.int (congrArg (fun z : Nat => nI z) e_59)) (cE rfl (cE rfl (cE rfl rfl))))))))) (cE rfl rfl)))))) _ (lv_sub hl [0, 1, 2, 3, 4] rfl)
                · have hd_60 := of_decide_eq_true h_57
                  refine x_iconst (v := nI 1) hx dX5_readCube_87 (by decide) ?_
                  refine x_goto (tgt := 92) hx dX5_readCube_88 (by decide) ?_
                  have e_61 : (skipB LT len t1.1 : Nat) = (skipB LT len t1.1) := by
                    first | rfl | omega | (simp [*]; done) | (simp [*]; omega)
                  -- stack differs: .int (nI true.toNat) / .int (nI 1)
                  exact J92_51 true (skipB LT len t1.1) (by first | exact (cb_5 (by assumption)).1.symm | exact (cb_y (by assumption) (by assumption)).1.symm | exact (cb_n (by assumption) (by assumption)).1.symm) (by first | (rw [if_pos rfl]; exact (cb_y (by assumption) (by assumption)).2.symm) | (rw [if_neg (by decide)]; exact (cb_5 (by assumption)).2.symm) | (rw [if_neg (by decide)]; exact (cb_n (by assumption) (by assumption)).2.symm)) (by first | exact Or.inr ⟨rfl, by omega⟩ | exact Or.inl (by omega)) _ _ (hW.conv [0, 1, 2, 3, 4] (w1 := [(tb, .inr (0, [.int (nI thd.toNat), .int (nI tlo), .int (iI ((te : Int) - 1)), .int (nI thn.toNat), .int (nI tcu), .ref tsc, .ref tfg, .ref ttv, .ref tpr])), (tsc, .inl (D.2.1, 4, .inl (nA (va_up SCv tcu (f + 1))))), (tfg, .inl (D.2.1, 24, .inl (nA (va_up FGv (tcu * 6 + f) v1)))), (tx, .inr (5, [.ref lt, .int (nI len), .int (iI t1.2.2.1), .int (nI t1.2.1), .int (nI (skipB LT len t1.1)), .int (nI t1.2.2.2), .int (nI tu), .int (nI pd)])), (lt, .inl (D.2.2.2.1, 220, .inl (nA LT)))]) (w2 := [(tb, .inr (0, [.int (nI thd.toNat), .int (nI tlo), .int (iI ((te : Int) - 1)), .int (nI thn.toNat), .int (nI tcu), .ref tsc, .ref tfg, .ref ttv, .ref tpr])), (tsc, .inl (D.2.1, 4, .inl (nA (va_up SCv tcu (f + 1))))), (tfg, .inl (D.2.1, 24, .inl (nA (va_up FGv (tcu * 6 + f) v1)))), (tx, .inr (5, [.ref lt, .int (nI len), .int (iI t1.2.2.1), .int (nI t1.2.1), .int (nI (skipB LT len t1.1)), .int (nI t1.2.2.2), .int (nI tu), .int (nI pd)])), (lt, .inl (D.2.2.2.1, 220, .inl (nA LT)))]) rfl rfl (cE rfl (cE rfl (cE rfl (cE (congrArg (fun z => ((tx, .inr (5, z)) : Nat × va_E)) (cE rfl (cE rfl (cE rfl (cE rfl (cE (congrArg Value.int (congrArg (fun z : Nat => nI z) e_61)) (cE rfl (cE rfl (cE rfl rfl))))))))) (cE rfl rfl)))))) _ (lv_sub hl [0, 1, 2, 3, 4] rfl)
    have e_62 : nI 1 = nI true.toNat := by
      first | rfl | omega | (simp [*]; done) | (simp [*]; omega)
    exact L24_2 (6 - 0 + 1) 0 true s1.1 s1.2.1 s1.2.2.1 s1.2.2.2 tFG tSC (by omega) (by rfl) (by exact ho_s1) (by exact hs1c) (Nat.lt_succ_self _) _ _ hW _ (lv_to (l := [(0, .ref tx), (1, .ref tb), (2, .int (nI tcu)), (3, .int (nI 1)), (4, .int (nI 0))]) (l2 := [(0, .ref tx), (1, .ref tb), (2, .int (nI tcu)), (3, .int (nI true.toNat)), (4, .int (nI 0))]) (lv_sub hl [2, 3, 4, 1, 0] rfl) (cE rfl (cE rfl (cE rfl (cE (congrArg (fun z => ((3, Value.int z) : Nat × Value)) (e_62)) (cE rfl rfl))))))
  refine x_icmp_lt_N (a := tcu) (b := 4) (tgt := 15) hx dX5_readCube_8 (by decide) (by omega) (by omega) (fun h_63 => ?_) (fun h_63 => ?_)
  · refine x_iconst (v := nI 0) hx dX5_readCube_15 (by decide) ?_
    -- stack differs: .int (nI false.toNat) / .int (nI 0)
    exact J16_1 false (by first | exact (decide_eq_true (by assumption)).symm | exact (decide_eq_false (by omega)).symm) _ _ hW _ (lv_sub hl [1, 2, 0] rfl)
  · refine x_iconst (v := nI 1) hx dX5_readCube_11 (by decide) ?_
    refine x_goto (tgt := 16) hx dX5_readCube_12 (by decide) ?_
    -- stack differs: .int (nI true.toNat) / .int (nI 1)
    exact J16_1 true (by first | exact (decide_eq_true (by assumption)).symm | exact (decide_eq_false (by omega)).symm) _ _ hW _ (lv_sub hl [1, 2, 0] rfl)
