/-! reading a text -/
abbrev TS : Type := Nat × Nat × Int × Nat
def skp (LT : Nat → Nat) : Nat → Nat → Nat
  | 0, a => a
  | n + 1, a => if LT a = 32 then skp LT n (a + 1) else a
def skipB (LT : Nat → Nat) (len a : Nat) : Nat := skp LT (len - a) a
theorem skipB_y {LT : Nat → Nat} {len a : Nat} (h : a < len) (e : LT a = 32) : skipB LT len a = skipB LT len (a + 1) := by
  unfold skipB
  rw [show len - a = (len - (a + 1)) + 1 by omega, skp, if_pos e]
theorem skipB_n {LT : Nat → Nat} {len a : Nat} (e : ¬ LT a = 32) : skipB LT len a = a := by
  unfold skipB
  cases len - a with
  | zero => rfl
  | succ n => rw [skp, if_neg e]
theorem skipB_e {LT : Nat → Nat} {len a : Nat} (h : len ≤ a) : skipB LT len a = a := by
  unfold skipB
  rw [show len - a = 0 by omega, skp]
theorem skp_rng (LT : Nat → Nat) : ∀ n a, a ≤ skp LT n a ∧ skp LT n a ≤ a + n
  | 0, a => ⟨Nat.le_refl _, Nat.le_refl _⟩
  | n + 1, a => by
    have h := skp_rng LT n (a + 1)
    simp only [skp]
    split <;> omega
theorem skipB_rng (LT : Nat → Nat) {len a : Nat} (h : a ≤ len) : a ≤ skipB LT len a ∧ skipB LT len a ≤ len := by
  have := skp_rng LT (len - a) a
  unfold skipB
  omega
def dgN (LT : Nat → Nat) : Nat → Nat → Nat
  | 0, a => a
  | n + 1, a => if 48 ≤ LT a ∧ LT a ≤ 57 then dgN LT n (a + 1) else a
def dgE (LT : Nat → Nat) (len a : Nat) : Nat := dgN LT (len - a) a
theorem dgE_y {LT : Nat → Nat} {len a : Nat} (h : a < len) (e : 48 ≤ LT a ∧ LT a ≤ 57) : dgE LT len a = dgE LT len (a + 1) := by
  unfold dgE
  rw [show len - a = (len - (a + 1)) + 1 by omega, dgN, if_pos e]
theorem dgE_n {LT : Nat → Nat} {len a : Nat} (e : ¬ (48 ≤ LT a ∧ LT a ≤ 57)) : dgE LT len a = a := by
  unfold dgE
  cases len - a with
  | zero => rfl
  | succ n => rw [dgN, if_neg e]
theorem dgE_e {LT : Nat → Nat} {len a : Nat} (h : len ≤ a) : dgE LT len a = a := by
  unfold dgE
  rw [show len - a = 0 by omega, dgN]
theorem dgN_rng (LT : Nat → Nat) : ∀ n a, a ≤ dgN LT n a ∧ dgN LT n a ≤ a + n
  | 0, a => ⟨Nat.le_refl _, Nat.le_refl _⟩
  | n + 1, a => by
    have h := dgN_rng LT n (a + 1)
    simp only [dgN]
    split <;> omega
theorem dgE_rng (LT : Nat → Nat) {len a : Nat} (h : a ≤ len) : a ≤ dgE LT len a ∧ dgE LT len a ≤ len := by
  have := dgN_rng LT (len - a) a
  unfold dgE
  omega
/-- the number of m figures from a on -/
def dvN (LT : Nat → Nat) (a : Nat) : Nat → Nat
  | 0 => 0
  | m + 1 => 10 * dvN LT a m + (LT (a + m) - 48)
theorem dvN_le {LT : Nat → Nat} (hL : ∀ k, k < 220 → LT k < 256) {a : Nat} : ∀ m, m ≤ 3 → a + m ≤ 220 → dvN LT a m ≤ 22977
  | 0, _, _ => by simp [dvN]
  | 1, _, h => by have := hL (a + 0) (by omega); simp only [dvN]; omega
  | 2, _, h => by have := hL (a + 0) (by omega); have := hL (a + 1) (by omega); simp only [dvN]; omega
  | 3, _, h => by have := hL (a + 0) (by omega); have := hL (a + 1) (by omega); have := hL (a + 2) (by omega); simp only [dvN]; omega
  | m + 4, h, _ => by omega
def nval (LT : Nat → Nat) (len a : Nat) : Nat := dvN LT a (min (dgE LT len a - a) 3)
def nfC (LT : Nat → Nat) (len a top : Nat) : Nat := if dgE LT len a = a then 1 else if 3 < dgE LT len a - a ∨ top < nval LT len a then 2 else 0
abbrev tsOk (len : Nat) (s : TS) : Prop := s.1 ≤ len ∧ s.2.1 ≤ 4 ∧ -1 ≤ s.2.2.1 ∧ s.2.2.1 ≤ 220 ∧ s.2.2.2 ≤ 220
def rnS (LT : Nat → Nat) (len top : Nat) (s : TS) : TS := if s.2.1 = 0 then (dgE LT len (skipB LT len s.1), nfC LT len (skipB LT len s.1) top, if nfC LT len (skipB LT len s.1) top = 0 then s.2.2.1 else (skipB LT len s.1 : Int), skipB LT len s.1) else s
def rnV (LT : Nat → Nat) (len top : Nat) (s : TS) : Nat := if s.2.1 = 0 ∧ nfC LT len (skipB LT len s.1) top = 0 then nval LT len (skipB LT len s.1) else 0
def blS (n : Nat) (wh : Int) (s : TS) : TS := if s.2.1 = 0 then (s.1, n, wh, s.2.2.2) else s
def reS (LT : Nat → Nat) (len : Nat) (s : TS) : TS := if skipB LT len s.1 < len ∧ LT (skipB LT len s.1) = 59 then (skipB LT len s.1 + 1, s.2.1, s.2.2.1, s.2.2.2) else blS 1 (skipB LT len s.1) (skipB LT len s.1, s.2.1, s.2.2.1, s.2.2.2)
def rwS (b : Bool) (s : TS) : TS := if b then blS 3 s.1 s else (s.1 + 1, s.2.1, s.2.2.1, s.2.2.2)
theorem nfC_le (LT : Nat → Nat) (len a top : Nat) : nfC LT len a top ≤ 2 := by
  unfold nfC
  split
  · omega
  · split <;> omega
theorem rnS_ok {LT : Nat → Nat} {len top : Nat} {s : TS} (hl : len ≤ 220) (h : tsOk len s) : tsOk len (rnS LT len top s) := by
  unfold rnS
  split
  · have h1 := skipB_rng LT h.1
    have h2 := dgE_rng LT h1.2
    have h3 := nfC_le LT len (skipB LT len s.1) top
    refine ⟨h2.2, by simp only; omega, ?_, ?_, by simp only; omega⟩
    · simp only; split
      · exact h.2.2.1
      · omega
    · simp only; split
      · exact h.2.2.2.1
      · omega
  · exact h
theorem blS_ok {len n : Nat} {wh : Int} {s : TS} (hn : n ≤ 4) (hw : -1 ≤ wh ∧ wh ≤ 220) (h : tsOk len s) : tsOk len (blS n wh s) := by
  unfold blS
  split
  · exact ⟨h.1, hn, hw.1, hw.2, h.2.2.2.2⟩
  · exact h
theorem reS_ok {LT : Nat → Nat} {len : Nat} {s : TS} (hl : len ≤ 220) (h : tsOk len s) : tsOk len (reS LT len s) := by
  have h1 := skipB_rng LT h.1
  unfold reS
  split
  · next h9 => exact ⟨by simp only; omega, h.2⟩
  · exact blS_ok (by decide) (by omega) ⟨h1.2, h.2⟩
theorem rnV_le {LT : Nat → Nat} {len top : Nat} {s : TS} : rnV LT len top s ≤ top := by
  unfold rnV
  split
  · next h =>
    have h2 := h.2
    unfold nfC at h2
    split at h2
    · omega
    · split at h2
      · omega
      · omega
  · omega
set_option maxHeartbeats 4000000 in
set_option maxRecDepth 100000 in
theorem c_X5_skipBlanks (l : Launch) (D : KD) (tx : Nat) (lt : Nat) (len : Nat) (fa : Int) (fn : Nat) (at_ : Nat) (na : Nat) (tu : Nat) (pd : Nat) (LT : Nat → Nat) (hlen : len ≤ 220) (hat : at_ ≤ len) (hLT : ∀ k, k < 220 → LT k < 256) : cV l yX5_skipBlanks cX5_skipBlanks 1 rm_X5_skipBlanks D [(tx, .inr (5, [.ref lt, .int (nI len), .int (iI fa), .int (nI fn), .int (nI at_), .int (nI na), .int (nI tu), .int (nI pd)])), (lt, .inl (D.2.2.2.1, 220, .inl (nA LT)))] [.ref tx] [(tx, .inr (5, [.ref lt, .int (nI len), .int (iI fa), .int (nI fn), .int (nI (skipB LT len at_)), .int (nI na), .int (nI tu), .int (nI pd)])), (lt, .inl (D.2.2.2.1, 220, .inl (nA LT)))] := by
  refine cV.mk (by decide) (Nat.le_of_ble_eq_true rfl) ?_
  intro X A hx hL hA hW hret ls hl
  subst hL
  have hl : lv_has ls 1 [(0, .ref tx)] := hl
  have L0_1 : ∀ (L0_1n : Nat) (a : Nat), (a ≤ len) → (skipB LT len at_ = skipB LT len a) → len - a < L0_1n → ∀ (H : Heap) (locs : List Loc), Wd X D A [(tx, .inr (5, [.ref lt, .int (nI len), .int (iI fa), .int (nI fn), .int (nI a), .int (nI na), .int (nI tu), .int (nI pd)])), (lt, .inl (D.2.2.2.1, 220, .inl (nA LT)))] H locs → ∀ ls : Array Slot, lv_has ls 1 [(0, .ref tx)] → Wx X 0 0 H locs 0 ls [] := by
    intro L0_1n
    induction L0_1n with
    | zero =>
      intro a h1 h2 hm
      exact absurd hm (Nat.not_lt_zero _)
    | succ L0_1n ihL0_1 =>
      intro a h1 h2 hm H locs hW ls hl
      refine x_aload_n hx dX5_skipBlanks_0 hl 0 rfl ?_
      refine x_get5 hx hW.1 0 rfl 4 (Nat.le_of_ble_eq_true rfl) wf_RX5_25 rfl dX5_skipBlanks_1 ?_
      refine x_aload_n hx dX5_skipBlanks_4 hl 0 rfl ?_
      refine x_get5 hx hW.1 0 rfl 1 (Nat.le_of_ble_eq_true rfl) wf_RX5_15 rfl dX5_skipBlanks_5 ?_
      refine x_icmp_ge_N (a := a) (b := len) (tgt := 38) hx dX5_skipBlanks_8 (by decide) (by omega) (by omega) (fun h_2 => ?_) (fun h_2 => ?_)
      · have e_3 : (a : Nat) = skipB LT len at_ := by
          rw [h2]; first | exact (skipB_e (by assumption)).symm | exact (skipB_n (by assumption)).symm
        exact hret _ _ _ _ dX5_skipBlanks_38 (hW.conv [0, 1] (w1 := [(tx, .inr (5, [.ref lt, .int (nI len), .int (iI fa), .int (nI fn), .int (nI a), .int (nI na), .int (nI tu), .int (nI pd)])), (lt, .inl (D.2.2.2.1, 220, .inl (nA LT)))]) (w2 := [(tx, .inr (5, [.ref lt, .int (nI len), .int (iI fa), .int (nI fn), .int (nI (skipB LT len at_)), .int (nI na), .int (nI tu), .int (nI pd)])), (lt, .inl (D.2.2.2.1, 220, .inl (nA LT)))]) rfl rfl (cE (congrArg (fun z => ((tx, .inr (5, z)) : Nat × va_E)) (cE rfl (cE rfl (cE rfl (cE rfl (cE (congrArg Value.int (congrArg (fun z : Nat => nI z) e_3)) (cE rfl (cE rfl (cE rfl rfl))))))))) (cE rfl rfl)))
      · refine x_aload_n hx dX5_skipBlanks_11 hl 0 rfl ?_
        refine x_get5 hx hW.1 0 rfl 0 (Nat.le_of_ble_eq_true rfl) wf_RX5_9 rfl dX5_skipBlanks_12 ?_
        refine x_aload_n hx dX5_skipBlanks_15 hl 0 rfl ?_
        refine x_get5 hx hW.1 0 rfl 4 (Nat.le_of_ble_eq_true rfl) wf_RX5_25 rfl dX5_skipBlanks_16 ?_
        have hj_19 : a < 220 := by omega
        refine x_cald (v := nI (LT a)) hx hW.1 1 rfl hj_19 (by decide) (rfl) dX5_skipBlanks_19 ?_
        have b_4 := hLT a hj_19
        refine x_bipush (v := nI 32) hx dX5_skipBlanks_20 (by decide) ?_
        refine x_icmp_ne_N (a := (LT a)) (b := 32) (tgt := 38) hx dX5_skipBlanks_22 (by decide) (by omega) (by omega) (fun h_5 => ?_) (fun h_5 => ?_)
        · have e_6 : (a : Nat) = skipB LT len at_ := by
            rw [h2]; first | exact (skipB_e (by assumption)).symm | exact (skipB_n (by assumption)).symm
          exact hret _ _ _ _ dX5_skipBlanks_38 (hW.conv [0, 1] (w1 := [(tx, .inr (5, [.ref lt, .int (nI len), .int (iI fa), .int (nI fn), .int (nI a), .int (nI na), .int (nI tu), .int (nI pd)])), (lt, .inl (D.2.2.2.1, 220, .inl (nA LT)))]) (w2 := [(tx, .inr (5, [.ref lt, .int (nI len), .int (iI fa), .int (nI fn), .int (nI (skipB LT len at_)), .int (nI na), .int (nI tu), .int (nI pd)])), (lt, .inl (D.2.2.2.1, 220, .inl (nA LT)))]) rfl rfl (cE (congrArg (fun z => ((tx, .inr (5, z)) : Nat × va_E)) (cE rfl (cE rfl (cE rfl (cE rfl (cE (congrArg Value.int (congrArg (fun z : Nat => nI z) e_6)) (cE rfl (cE rfl (cE rfl rfl))))))))) (cE rfl rfl)))
        · refine x_aload_n hx dX5_skipBlanks_25 hl 0 rfl ?_
          refine x_dup hx dX5_skipBlanks_26 rfl ?_
          refine x_get5 hx hW.1 0 rfl 4 (Nat.le_of_ble_eq_true rfl) wf_RX5_25 rfl dX5_skipBlanks_27 ?_
          refine x_iconst (v := nI 1) hx dX5_skipBlanks_30 (by decide) ?_
          refine x_iadd (v := nI (a + 1)) hx dX5_skipBlanks_31 (nI_add _ _) ?_
          refine x_put5 hx hW 0 rfl 4 (Nat.le_of_ble_eq_true rfl) wf_RX5_25 rfl rfl rfl (Nat.le_of_ble_eq_true rfl) dX5_skipBlanks_32 [(tx, .inr (5, [.ref lt, .int (nI len), .int (iI fa), .int (nI fn), .int (nI (a + 1)), .int (nI na), .int (nI tu), .int (nI pd)])), (lt, .inl (D.2.2.2.1, 220, .inl (nA LT)))] rfl (fun H locs hW => ?_)
          refine x_goto (tgt := 0) hx dX5_skipBlanks_35 (by decide) ?_
          have e_7 : (a + 1 : Nat) = (a + 1) := by
            first | rfl | omega | (simp [*]; done) | (simp [*]; omega)
          exact ihL0_1 (a + 1) (by first | assumption | omega | (simp [*]; done)) (by first | rfl | exact h2.trans (skipB_y (by assumption) (by assumption))) (by omega) _ _ (hW.conv [0, 1] (w1 := [(tx, .inr (5, [.ref lt, .int (nI len), .int (iI fa), .int (nI fn), .int (nI (a + 1)), .int (nI na), .int (nI tu), .int (nI pd)])), (lt, .inl (D.2.2.2.1, 220, .inl (nA LT)))]) (w2 := [(tx, .inr (5, [.ref lt, .int (nI len), .int (iI fa), .int (nI fn), .int (nI (a + 1)), .int (nI na), .int (nI tu), .int (nI pd)])), (lt, .inl (D.2.2.2.1, 220, .inl (nA LT)))]) rfl rfl (cE (congrArg (fun z => ((tx, .inr (5, z)) : Nat × va_E)) (cE rfl (cE rfl (cE rfl (cE rfl (cE (congrArg Value.int (congrArg (fun z : Nat => nI z) e_7)) (cE rfl (cE rfl (cE rfl rfl))))))))) (cE rfl rfl))) _ (lv_sub hl [0] rfl)
  exact L0_1 (len - at_ + 1) at_ (by first | assumption | omega | (simp [*]; done)) (by first | rfl | exact h2.trans (skipB_y (by assumption) (by assumption))) (Nat.lt_succ_self _) _ _ hW _ (lv_sub hl [0] rfl)
set_option maxHeartbeats 4000000 in
set_option maxRecDepth 100000 in
theorem c_X5_hasMore (l : Launch) (D : KD) (tx : Nat) (lt : Nat) (len : Nat) (fa : Int) (fn : Nat) (at_ : Nat) (na : Nat) (tu : Nat) (pd : Nat) (LT : Nat → Nat) (hlen : len ≤ 220) (hat : at_ ≤ len) (hLT : ∀ k, k < 220 → LT k < 256) (hfn : fn ≤ 4) : cM l yX5_hasMore cX5_hasMore 1 (some .boolean) rm_X5_hasMore D [(tx, .inr (5, [.ref lt, .int (nI len), .int (iI fa), .int (nI fn), .int (nI at_), .int (nI na), .int (nI tu), .int (nI pd)])), (lt, .inl (D.2.2.2.1, 220, .inl (nA LT)))] [.ref tx] (nI (decide (fn = 0 ∧ skipB LT len at_ < len)).toNat) [(tx, .inr (5, [.ref lt, .int (nI len), .int (iI fa), .int (nI fn), .int (nI (skipB LT len at_)), .int (nI na), .int (nI tu), .int (nI pd)])), (lt, .inl (D.2.2.2.1, 220, .inl (nA LT)))] := by
  refine cM.mk (by decide) (retZ _) (Nat.le_of_ble_eq_true rfl) ?_
  intro X A hx hL hA hW hret ls hl
  subst hL
  have hl : lv_has ls 1 [(0, .ref tx)] := hl
  have hsk := skipB_rng LT hat
  refine x_aload_n hx dX5_hasMore_0 hl 0 rfl ?_
  refine x_callVV (As := []) (rest := []) (wr := []) hx yv_X5_skipBlanks (c_X5_skipBlanks _ D tx lt len fa fn at_ na tu pd LT (by first | assumption | omega | (simp [*]; done)) (by first | assumption | omega | (simp [*]; done)) (by first | assumption | omega | (simp [*]; done))) wm_RX5_53 hA hW [0, 1] [] rfl rfl rfl rfl rfl 0 rfl rfl ⟨rfl, rfl⟩ ⟨Nat.le_of_ble_eq_true rfl, Nat.le_of_ble_eq_true rfl⟩ ⟨Nat.zero_le _, Nat.zero_le _⟩ hl rfl rfl (Nat.le_of_ble_eq_true rfl) dX5_hasMore_1 [(tx, .inr (5, [.ref lt, .int (nI len), .int (iI fa), .int (nI fn), .int (nI (skipB LT len at_)), .int (nI na), .int (nI tu), .int (nI pd)])), (lt, .inl (D.2.2.2.1, 220, .inl (nA LT)))] rfl (fun H locs hW => ?_)
  refine x_aload_n hx dX5_hasMore_4 hl 0 rfl ?_
  refine x_get5 hx hW.1 0 rfl 3 (Nat.le_of_ble_eq_true rfl) wf_RX5_22 rfl dX5_hasMore_5 ?_
  refine x_if_ne_N (a := fn) (tgt := 26) hx dX5_hasMore_8 (by decide) (by omega) (fun h_1 => ?_) (fun h_1 => ?_)
  · refine x_iconst (v := nI 0) hx dX5_hasMore_26 (by decide) ?_
    exact hret _ _ _ _ _ dX5_hasMore_27 (by first | exact retF _ (by first | omega | (simp [*]; done)) | (simp [*]; done)) hW
  · refine x_aload_n hx dX5_hasMore_11 hl 0 rfl ?_
    refine x_get5 hx hW.1 0 rfl 4 (Nat.le_of_ble_eq_true rfl) wf_RX5_25 rfl dX5_hasMore_12 ?_
    refine x_aload_n hx dX5_hasMore_15 hl 0 rfl ?_
    refine x_get5 hx hW.1 0 rfl 1 (Nat.le_of_ble_eq_true rfl) wf_RX5_15 rfl dX5_hasMore_16 ?_
    refine x_icmp_ge_N (a := (skipB LT len at_)) (b := len) (tgt := 26) hx dX5_hasMore_19 (by decide) (by omega) (by omega) (fun h_2 => ?_) (fun h_2 => ?_)
    · refine x_iconst (v := nI 0) hx dX5_hasMore_26 (by decide) ?_
      exact hret _ _ _ _ _ dX5_hasMore_27 (by first | exact retF _ (by first | omega | (simp [*]; done)) | (simp [*]; done)) hW
    · refine x_iconst (v := nI 1) hx dX5_hasMore_22 (by decide) ?_
      refine x_goto (tgt := 27) hx dX5_hasMore_23 (by decide) ?_
      exact hret _ _ _ _ _ dX5_hasMore_27 (by first | exact retT _ (by first | omega | (simp [*]; done)) | (simp [*]; done)) hW
set_option maxHeartbeats 4000000 in
set_option maxRecDepth 100000 in
theorem c_X5_isNext (l : Launch) (D : KD) (tx : Nat) (lt : Nat) (len : Nat) (fa : Int) (fn : Nat) (at_ : Nat) (na : Nat) (tu : Nat) (pd : Nat) (LT : Nat → Nat) (ch : Nat) (hlen : len ≤ 220) (hat : at_ ≤ len) (hLT : ∀ k, k < 220 → LT k < 256) (hch : ch < 256) : cM l yX5_isNext cX5_isNext 2 (some .boolean) rm_X5_isNext D [(tx, .inr (5, [.ref lt, .int (nI len), .int (iI fa), .int (nI fn), .int (nI at_), .int (nI na), .int (nI tu), .int (nI pd)])), (lt, .inl (D.2.2.2.1, 220, .inl (nA LT)))] [.ref tx, .int (nI ch)] (nI (decide (skipB LT len at_ < len ∧ LT (skipB LT len at_) = ch)).toNat) [(tx, .inr (5, [.ref lt, .int (nI len), .int (iI fa), .int (nI fn), .int (nI (skipB LT len at_)), .int (nI na), .int (nI tu), .int (nI pd)])), (lt, .inl (D.2.2.2.1, 220, .inl (nA LT)))] := by
  refine cM.mk (by decide) (retZ _) (Nat.le_of_ble_eq_true rfl) ?_
  intro X A hx hL hA hW hret ls hl
  subst hL
  have hl : lv_has ls 2 [(0, .ref tx), (1, .int (nI ch))] := hl
  have hsk := skipB_rng LT hat
  refine x_aload_n hx dX5_isNext_0 hl 0 rfl ?_
  refine x_callVV (As := []) (rest := []) (wr := []) hx yv_X5_skipBlanks (c_X5_skipBlanks _ D tx lt len fa fn at_ na tu pd LT (by first | assumption | omega | (simp [*]; done)) (by first | assumption | omega | (simp [*]; done)) (by first | assumption | omega | (simp [*]; done))) wm_RX5_53 hA hW [0, 1] [] rfl rfl rfl rfl rfl 0 rfl rfl ⟨rfl, rfl⟩ ⟨Nat.le_of_ble_eq_true rfl, Nat.le_of_ble_eq_true rfl⟩ ⟨Nat.zero_le _, Nat.zero_le _⟩ hl rfl rfl (Nat.le_of_ble_eq_true rfl) dX5_isNext_1 [(tx, .inr (5, [.ref lt, .int (nI len), .int (iI fa), .int (nI fn), .int (nI (skipB LT len at_)), .int (nI na), .int (nI tu), .int (nI pd)])), (lt, .inl (D.2.2.2.1, 220, .inl (nA LT)))] rfl (fun H locs hW => ?_)
  refine x_aload_n hx dX5_isNext_4 hl 0 rfl ?_
  refine x_get5 hx hW.1 0 rfl 4 (Nat.le_of_ble_eq_true rfl) wf_RX5_25 rfl dX5_isNext_5 ?_
  refine x_aload_n hx dX5_isNext_8 hl 0 rfl ?_
  refine x_get5 hx hW.1 0 rfl 1 (Nat.le_of_ble_eq_true rfl) wf_RX5_15 rfl dX5_isNext_9 ?_
  refine x_icmp_ge_N (a := (skipB LT len at_)) (b := len) (tgt := 32) hx dX5_isNext_12 (by decide) (by omega) (by omega) (fun h_1 => ?_) (fun h_1 => ?_)
  · refine x_iconst (v := nI 0) hx dX5_isNext_32 (by decide) ?_
    exact hret _ _ _ _ _ dX5_isNext_33 (by first | exact retF _ (by first | omega | (simp [*]; done)) | (simp [*]; done)) hW
  · refine x_aload_n hx dX5_isNext_15 hl 0 rfl ?_
    refine x_get5 hx hW.1 0 rfl 0 (Nat.le_of_ble_eq_true rfl) wf_RX5_9 rfl dX5_isNext_16 ?_
    refine x_aload_n hx dX5_isNext_19 hl 0 rfl ?_
    refine x_get5 hx hW.1 0 rfl 4 (Nat.le_of_ble_eq_true rfl) wf_RX5_25 rfl dX5_isNext_20 ?_
    have hj_23 : skipB LT len at_ < 220 := by omega
    refine x_cald (v := nI (LT (skipB LT len at_))) hx hW.1 1 rfl hj_23 (by decide) (rfl) dX5_isNext_23 ?_
    have b_2 := hLT (skipB LT len at_) hj_23
    refine x_iload_n hx dX5_isNext_24 hl 1 rfl ?_
    refine x_icmp_ne_N (a := (LT (skipB LT len at_))) (b := ch) (tgt := 32) hx dX5_isNext_25 (by decide) (by omega) (by omega) (fun h_3 => ?_) (fun h_3 => ?_)
    · refine x_iconst (v := nI 0) hx dX5_isNext_32 (by decide) ?_
      exact hret _ _ _ _ _ dX5_isNext_33 (by first | exact retF _ (by first | omega | (simp [*]; done)) | (simp [*]; done)) hW
    · refine x_iconst (v := nI 1) hx dX5_isNext_28 (by decide) ?_
      refine x_goto (tgt := 33) hx dX5_isNext_29 (by decide) ?_
      exact hret _ _ _ _ _ dX5_isNext_33 (by first | exact retT _ (by first | omega | (simp [*]; done)) | (simp [*]; done)) hW
set_option maxHeartbeats 4000000 in
set_option maxRecDepth 100000 in
theorem c_X5_blame (l : Launch) (D : KD) (tx : Nat) (lt : Nat) (len : Nat) (fa : Int) (fn : Nat) (at_ : Nat) (na : Nat) (tu : Nat) (pd : Nat) (nu : Nat) (wh : Int) (hfn : fn ≤ 4) : cV l yX5_blame cX5_blame 3 rm_X5_blame D [(tx, .inr (5, [.ref lt, .int (nI len), .int (iI fa), .int (nI fn), .int (nI at_), .int (nI na), .int (nI tu), .int (nI pd)]))] [.ref tx, .int (nI nu), .int (iI wh)] [(tx, .inr (5, [.ref lt, .int (nI len), .int (iI ((blS nu wh (at_, fn, fa, na)).2.2.1)), .int (nI ((blS nu wh (at_, fn, fa, na)).2.1)), .int (nI ((blS nu wh (at_, fn, fa, na)).1)), .int (nI ((blS nu wh (at_, fn, fa, na)).2.2.2)), .int (nI tu), .int (nI pd)]))] := by
  refine cV.mk (by decide) (Nat.le_of_ble_eq_true rfl) ?_
  intro X A hx hL hA hW hret ls hl
  subst hL
  have hl : lv_has ls 3 [(0, .ref tx), (1, .int (nI nu)), (2, .int (iI wh))] := hl
  refine x_aload_n hx dX5_blame_0 hl 0 rfl ?_
  refine x_get5 hx hW.1 0 rfl 3 (Nat.le_of_ble_eq_true rfl) wf_RX5_22 rfl dX5_blame_1 ?_
  refine x_if_ne_N (a := fn) (tgt := 17) hx dX5_blame_4 (by decide) (by omega) (fun h_1 => ?_) (fun h_1 => ?_)
  · have e_2 : (fa : Int) = (blS nu wh (at_, fn, fa, na)).2.2.1 := by
      simp [blS, *]
    have e_3 : (fn : Nat) = (blS nu wh (at_, fn, fa, na)).2.1 := by
      clear e_2
      simp [blS, *]
    have e_4 : (at_ : Nat) = (blS nu wh (at_, fn, fa, na)).1 := by
      clear e_2 e_3
      simp [blS, *]
    have e_5 : (na : Nat) = (blS nu wh (at_, fn, fa, na)).2.2.2 := by
      clear e_2 e_3 e_4
      simp [blS, *]
    exact hret _ _ _ _ dX5_blame_17 (hW.conv [0] (w1 := [(tx, .inr (5, [.ref lt, .int (nI len), .int (iI fa), .int (nI fn), .int (nI at_), .int (nI na), .int (nI tu), .int (nI pd)]))]) (w2 := [(tx, .inr (5, [.ref lt, .int (nI len), .int (iI ((blS nu wh (at_, fn, fa, na)).2.2.1)), .int (nI ((blS nu wh (at_, fn, fa, na)).2.1)), .int (nI ((blS nu wh (at_, fn, fa, na)).1)), .int (nI ((blS nu wh (at_, fn, fa, na)).2.2.2)), .int (nI tu), .int (nI pd)]))]) rfl rfl (cE (congrArg (fun z => ((tx, .inr (5, z)) : Nat × va_E)) (cE rfl (cE rfl (cE (congrArg Value.int (congrArg (fun z : Int => iI z) e_2)) (cE (congrArg Value.int (congrArg (fun z : Nat => nI z) e_3)) (cE (congrArg Value.int (congrArg (fun z : Nat => nI z) e_4)) (cE (congrArg Value.int (congrArg (fun z : Nat => nI z) e_5)) (cE rfl (cE rfl rfl))))))))) rfl))
  · refine x_aload_n hx dX5_blame_7 hl 0 rfl ?_
    refine x_iload_n hx dX5_blame_8 hl 1 rfl ?_
    refine x_put5 hx hW 0 rfl 3 (Nat.le_of_ble_eq_true rfl) wf_RX5_22 rfl rfl rfl (Nat.le_of_ble_eq_true rfl) dX5_blame_9 [(tx, .inr (5, [.ref lt, .int (nI len), .int (iI fa), .int (nI nu), .int (nI at_), .int (nI na), .int (nI tu), .int (nI pd)]))] rfl (fun H locs hW => ?_)
    refine x_aload_n hx dX5_blame_12 hl 0 rfl ?_
    refine x_iload_n hx dX5_blame_13 hl 2 rfl ?_
    refine x_put5 hx hW 0 rfl 2 (Nat.le_of_ble_eq_true rfl) wf_RX5_19 rfl rfl rfl (Nat.le_of_ble_eq_true rfl) dX5_blame_14 [(tx, .inr (5, [.ref lt, .int (nI len), .int (iI wh), .int (nI nu), .int (nI at_), .int (nI na), .int (nI tu), .int (nI pd)]))] rfl (fun H locs hW => ?_)
    have e_6 : (wh : Int) = (blS nu wh (at_, fn, fa, na)).2.2.1 := by
      simp [blS, *]
    have e_7 : (nu : Nat) = (blS nu wh (at_, fn, fa, na)).2.1 := by
      clear e_6
      simp [blS, *]
    have e_8 : (at_ : Nat) = (blS nu wh (at_, fn, fa, na)).1 := by
      clear e_6 e_7
      simp [blS, *]
    have e_9 : (na : Nat) = (blS nu wh (at_, fn, fa, na)).2.2.2 := by
      clear e_6 e_7 e_8
      simp [blS, *]
    exact hret _ _ _ _ dX5_blame_17 (hW.conv [0] (w1 := [(tx, .inr (5, [.ref lt, .int (nI len), .int (iI wh), .int (nI nu), .int (nI at_), .int (nI na), .int (nI tu), .int (nI pd)]))]) (w2 := [(tx, .inr (5, [.ref lt, .int (nI len), .int (iI ((blS nu wh (at_, fn, fa, na)).2.2.1)), .int (nI ((blS nu wh (at_, fn, fa, na)).2.1)), .int (nI ((blS nu wh (at_, fn, fa, na)).1)), .int (nI ((blS nu wh (at_, fn, fa, na)).2.2.2)), .int (nI tu), .int (nI pd)]))]) rfl rfl (cE (congrArg (fun z => ((tx, .inr (5, z)) : Nat × va_E)) (cE rfl (cE rfl (cE (congrArg Value.int (congrArg (fun z : Int => iI z) e_6)) (cE (congrArg Value.int (congrArg (fun z : Nat => nI z) e_7)) (cE (congrArg Value.int (congrArg (fun z : Nat => nI z) e_8)) (cE (congrArg Value.int (congrArg (fun z : Nat => nI z) e_9)) (cE rfl (cE rfl rfl))))))))) rfl))
set_option maxHeartbeats 4000000 in
set_option maxRecDepth 100000 in
theorem c_X5_readWord (l : Launch) (D : KD) (tx : Nat) (lt : Nat) (len : Nat) (fa : Int) (fn : Nat) (at_ : Nat) (na : Nat) (tu : Nat) (pd : Nat) (b : Bool) (hfn : fn ≤ 4) : cV l yX5_readWord cX5_readWord 2 rm_X5_readWord D [(tx, .inr (5, [.ref lt, .int (nI len), .int (iI fa), .int (nI fn), .int (nI at_), .int (nI na), .int (nI tu), .int (nI pd)]))] [.ref tx, .int (nI b.toNat)] [(tx, .inr (5, [.ref lt, .int (nI len), .int (iI ((rwS b (at_, fn, fa, na)).2.2.1)), .int (nI ((rwS b (at_, fn, fa, na)).2.1)), .int (nI ((rwS b (at_, fn, fa, na)).1)), .int (nI ((rwS b (at_, fn, fa, na)).2.2.2)), .int (nI tu), .int (nI pd)]))] := by
  refine cV.mk (by decide) (Nat.le_of_ble_eq_true rfl) ?_
  intro X A hx hL hA hW hret ls hl
  subst hL
  have hl : lv_has ls 2 [(0, .ref tx), (1, .int (nI b.toNat))] := hl
  refine x_iload_n hx dX5_readWord_0 hl 1 rfl ?_
  refine x_if_eq_B (tgt := 16) hx dX5_readWord_1 (by decide) (fun h_1 => ?_) (fun h_1 => ?_)
  · refine x_aload_n hx dX5_readWord_16 hl 0 rfl ?_
    refine x_dup hx dX5_readWord_17 rfl ?_
    refine x_get5 hx hW.1 0 rfl 4 (Nat.le_of_ble_eq_true rfl) wf_RX5_25 rfl dX5_readWord_18 ?_
    refine x_iconst (v := nI 1) hx dX5_readWord_21 (by decide) ?_
    refine x_iadd (v := nI (at_ + 1)) hx dX5_readWord_22 (nI_add _ _) ?_
    refine x_put5 hx hW 0 rfl 4 (Nat.le_of_ble_eq_true rfl) wf_RX5_25 rfl rfl rfl (Nat.le_of_ble_eq_true rfl) dX5_readWord_23 [(tx, .inr (5, [.ref lt, .int (nI len), .int (iI fa), .int (nI fn), .int (nI (at_ + 1)), .int (nI na), .int (nI tu), .int (nI pd)]))] rfl (fun H locs hW => ?_)
    have e_2 : (fa : Int) = (rwS b (at_, fn, fa, na)).2.2.1 := by
      simp [rwS, *]
    have e_3 : (fn : Nat) = (rwS b (at_, fn, fa, na)).2.1 := by
      clear e_2
      simp [rwS, *]
    have e_4 : (at_ + 1 : Nat) = (rwS b (at_, fn, fa, na)).1 := by
      clear e_2 e_3
      simp [rwS, *]
    have e_5 : (na : Nat) = (rwS b (at_, fn, fa, na)).2.2.2 := by
      clear e_2 e_3 e_4
      simp [rwS, *]
    exact hret _ _ _ _ dX5_readWord_26 (hW.conv [0] (w1 := [(tx, .inr (5, [.ref lt, .int (nI len), .int (iI fa), .int (nI fn), .int (nI (at_ + 1)), .int (nI na), .int (nI tu), .int (nI pd)]))]) (w2 := [(tx, .inr (5, [.ref lt, .int (nI len), .int (iI ((rwS b (at_, fn, fa, na)).2.2.1)), .int (nI ((rwS b (at_, fn, fa, na)).2.1)), .int (nI ((rwS b (at_, fn, fa, na)).1)), .int (nI ((rwS b (at_, fn, fa, na)).2.2.2)), .int (nI tu), .int (nI pd)]))]) rfl rfl (cE (congrArg (fun z => ((tx, .inr (5, z)) : Nat × va_E)) (cE rfl (cE rfl (cE (congrArg Value.int (congrArg (fun z : Int => iI z) e_2)) (cE (congrArg Value.int (congrArg (fun z : Nat => nI z) e_3)) (cE (congrArg Value.int (congrArg (fun z : Nat => nI z) e_4)) (cE (congrArg Value.int (congrArg (fun z : Nat => nI z) e_5)) (cE rfl (cE rfl rfl))))))))) rfl))
  · refine x_aload_n hx dX5_readWord_4 hl 0 rfl ?_
    refine x_iconst (v := nI 3) hx dX5_readWord_5 (by decide) ?_
    refine x_aload_n hx dX5_readWord_6 hl 0 rfl ?_
    refine x_get5 hx hW.1 0 rfl 4 (Nat.le_of_ble_eq_true rfl) wf_RX5_25 rfl dX5_readWord_7 ?_
    refine x_callVV (As := [.int (nI 3), .int (nI at_)]) (rest := []) (wr := []) hx yv_X5_blame (c_X5_blame _ D tx lt len fa fn at_ na tu pd 3 (at_ : Int) (by first | assumption | omega | (simp [*]; done))) wm_RX5_67 hA hW [0] [] rfl rfl rfl rfl rfl 0 rfl rfl ⟨rfl, rfl⟩ ⟨Nat.le_of_ble_eq_true rfl, Nat.le_of_ble_eq_true rfl⟩ ⟨Nat.zero_le _, Nat.zero_le _⟩ hl rfl rfl (Nat.le_of_ble_eq_true rfl) dX5_readWord_10 [(tx, .inr (5, [.ref lt, .int (nI len), .int (iI ((blS 3 (at_ : Int) (at_, fn, fa, na)).2.2.1)), .int (nI ((blS 3 (at_ : Int) (at_, fn, fa, na)).2.1)), .int (nI ((blS 3 (at_ : Int) (at_, fn, fa, na)).1)), .int (nI ((blS 3 (at_ : Int) (at_, fn, fa, na)).2.2.2)), .int (nI tu), .int (nI pd)]))] rfl (fun H locs hW => ?_)
    refine x_goto (tgt := 26) hx dX5_readWord_13 (by decide) ?_
    have e_6 : ((blS 3 (at_ : Int) (at_, fn, fa, na)).2.2.1 : Int) = (rwS b (at_, fn, fa, na)).2.2.1 := by
      simp [rwS, *]
    have e_7 : ((blS 3 (at_ : Int) (at_, fn, fa, na)).2.1 : Nat) = (rwS b (at_, fn, fa, na)).2.1 := by
      clear e_6
      simp [rwS, *]
    have e_8 : ((blS 3 (at_ : Int) (at_, fn, fa, na)).1 : Nat) = (rwS b (at_, fn, fa, na)).1 := by
      clear e_6 e_7
      simp [rwS, *]
    have e_9 : ((blS 3 (at_ : Int) (at_, fn, fa, na)).2.2.2 : Nat) = (rwS b (at_, fn, fa, na)).2.2.2 := by
      clear e_6 e_7 e_8
      simp [rwS, *]
    exact hret _ _ _ _ dX5_readWord_26 (hW.conv [0] (w1 := [(tx, .inr (5, [.ref lt, .int (nI len), .int (iI ((blS 3 (at_ : Int) (at_, fn, fa, na)).2.2.1)), .int (nI ((blS 3 (at_ : Int) (at_, fn, fa, na)).2.1)), .int (nI ((blS 3 (at_ : Int) (at_, fn, fa, na)).1)), .int (nI ((blS 3 (at_ : Int) (at_, fn, fa, na)).2.2.2)), .int (nI tu), .int (nI pd)]))]) (w2 := [(tx, .inr (5, [.ref lt, .int (nI len), .int (iI ((rwS b (at_, fn, fa, na)).2.2.1)), .int (nI ((rwS b (at_, fn, fa, na)).2.1)), .int (nI ((rwS b (at_, fn, fa, na)).1)), .int (nI ((rwS b (at_, fn, fa, na)).2.2.2)), .int (nI tu), .int (nI pd)]))]) rfl rfl (cE (congrArg (fun z => ((tx, .inr (5, z)) : Nat × va_E)) (cE rfl (cE rfl (cE (congrArg Value.int (congrArg (fun z : Int => iI z) e_6)) (cE (congrArg Value.int (congrArg (fun z : Nat => nI z) e_7)) (cE (congrArg Value.int (congrArg (fun z : Nat => nI z) e_8)) (cE (congrArg Value.int (congrArg (fun z : Nat => nI z) e_9)) (cE rfl (cE rfl rfl))))))))) rfl))
set_option maxHeartbeats 4000000 in
set_option maxRecDepth 100000 in
theorem c_X5_readEnd (l : Launch) (D : KD) (tx : Nat) (lt : Nat) (len : Nat) (fa : Int) (fn : Nat) (at_ : Nat) (na : Nat) (tu : Nat) (pd : Nat) (LT : Nat → Nat) (hlen : len ≤ 220) (hat : at_ ≤ len) (hLT : ∀ k, k < 220 → LT k < 256) (hfn : fn ≤ 4) : cV l yX5_readEnd cX5_readEnd 1 rm_X5_readEnd D [(tx, .inr (5, [.ref lt, .int (nI len), .int (iI fa), .int (nI fn), .int (nI at_), .int (nI na), .int (nI tu), .int (nI pd)])), (lt, .inl (D.2.2.2.1, 220, .inl (nA LT)))] [.ref tx] [(tx, .inr (5, [.ref lt, .int (nI len), .int (iI ((reS LT len (at_, fn, fa, na)).2.2.1)), .int (nI ((reS LT len (at_, fn, fa, na)).2.1)), .int (nI ((reS LT len (at_, fn, fa, na)).1)), .int (nI ((reS LT len (at_, fn, fa, na)).2.2.2)), .int (nI tu), .int (nI pd)])), (lt, .inl (D.2.2.2.1, 220, .inl (nA LT)))] := by
  refine cV.mk (by decide) (Nat.le_of_ble_eq_true rfl) ?_
  intro X A hx hL hA hW hret ls hl
  subst hL
  have hl : lv_has ls 1 [(0, .ref tx)] := hl
  have hsk := skipB_rng LT hat
  refine x_aload_n hx dX5_readEnd_0 hl 0 rfl ?_
  refine x_bipush (v := nI 59) hx dX5_readEnd_1 (by decide) ?_
  refine x_callMV (As := [.int (nI 59)]) (rest := []) (wr := []) hx yv_X5_isNext (c_X5_isNext _ D tx lt len fa fn at_ na tu pd LT 59 (by first | assumption | omega | (simp [*]; done)) (by first | assumption | omega | (simp [*]; done)) (by first | assumption | omega | (simp [*]; done)) (by first | assumption | omega | (simp [*]; done))) wm_RX5_56 hA hW [0, 1] [] rfl rfl rfl rfl rfl 0 rfl rfl ⟨rfl, rfl⟩ ⟨Nat.le_of_ble_eq_true rfl, Nat.le_of_ble_eq_true rfl⟩ ⟨Nat.zero_le _, Nat.zero_le _⟩ hl rfl rfl (Nat.le_of_ble_eq_true rfl) dX5_readEnd_3 [(tx, .inr (5, [.ref lt, .int (nI len), .int (iI fa), .int (nI fn), .int (nI (skipB LT len at_)), .int (nI na), .int (nI tu), .int (nI pd)])), (lt, .inl (D.2.2.2.1, 220, .inl (nA LT)))] rfl (fun H locs hW => ?_)
  refine x_if_eq_B (tgt := 22) hx dX5_readEnd_6 (by decide) (fun h_1 => ?_) (fun h_1 => ?_)
  · have hd_2 := of_decide_eq_false h_1
    refine x_aload_n hx dX5_readEnd_22 hl 0 rfl ?_
    refine x_iconst (v := nI 1) hx dX5_readEnd_23 (by decide) ?_
    refine x_aload_n hx dX5_readEnd_24 hl 0 rfl ?_
    refine x_get5 hx hW.1 0 rfl 4 (Nat.le_of_ble_eq_true rfl) wf_RX5_25 rfl dX5_readEnd_25 ?_
    refine x_callVV (As := [.int (nI 1), .int (nI (skipB LT len at_))]) (rest := []) (wr := [(lt, .inl (D.2.2.2.1, 220, .inl (nA LT)))]) hx yv_X5_blame (c_X5_blame _ D tx lt len fa fn (skipB LT len at_) na tu pd 1 ((skipB LT len at_ : Nat) : Int) (by first | assumption | omega | (simp [*]; done))) wm_RX5_67 hA hW [0] [1] rfl rfl rfl rfl rfl 0 rfl rfl ⟨rfl, rfl⟩ ⟨Nat.le_of_ble_eq_true rfl, Nat.le_of_ble_eq_true rfl⟩ ⟨Nat.zero_le _, Nat.zero_le _⟩ hl rfl rfl (Nat.le_of_ble_eq_true rfl) dX5_readEnd_28 [(lt, .inl (D.2.2.2.1, 220, .inl (nA LT))), (tx, .inr (5, [.ref lt, .int (nI len), .int (iI ((blS 1 ((skipB LT len at_ : Nat) : Int) ((skipB LT len at_), fn, fa, na)).2.2.1)), .int (nI ((blS 1 ((skipB LT len at_ : Nat) : Int) ((skipB LT len at_), fn, fa, na)).2.1)), .int (nI ((blS 1 ((skipB LT len at_ : Nat) : Int) ((skipB LT len at_), fn, fa, na)).1)), .int (nI ((blS 1 ((skipB LT len at_ : Nat) : Int) ((skipB LT len at_), fn, fa, na)).2.2.2)), .int (nI tu), .int (nI pd)]))] rfl (fun H locs hW => ?_)
    have e_3 : ((blS 1 ((skipB LT len at_ : Nat) : Int) ((skipB LT len at_), fn, fa, na)).2.2.1 : Int) = (reS LT len (at_, fn, fa, na)).2.2.1 := by
      simp [reS, *]
    have e_4 : ((blS 1 ((skipB LT len at_ : Nat) : Int) ((skipB LT len at_), fn, fa, na)).2.1 : Nat) = (reS LT len (at_, fn, fa, na)).2.1 := by
      clear e_3
      simp [reS, *]
    have e_5 : ((blS 1 ((skipB LT len at_ : Nat) : Int) ((skipB LT len at_), fn, fa, na)).1 : Nat) = (reS LT len (at_, fn, fa, na)).1 := by
      clear e_3 e_4
      simp [reS, *]
    have e_6 : ((blS 1 ((skipB LT len at_ : Nat) : Int) ((skipB LT len at_), fn, fa, na)).2.2.2 : Nat) = (reS LT len (at_, fn, fa, na)).2.2.2 := by
      clear e_3 e_4 e_5
      simp [reS, *]
    exact hret _ _ _ _ dX5_readEnd_31 (hW.conv [1, 0] (w1 := [(tx, .inr (5, [.ref lt, .int (nI len), .int (iI ((blS 1 ((skipB LT len at_ : Nat) : Int) ((skipB LT len at_), fn, fa, na)).2.2.1)), .int (nI ((blS 1 ((skipB LT len at_ : Nat) : Int) ((skipB LT len at_), fn, fa, na)).2.1)), .int (nI ((blS 1 ((skipB LT len at_ : Nat) : Int) ((skipB LT len at_), fn, fa, na)).1)), .int (nI ((blS 1 ((skipB LT len at_ : Nat) : Int) ((skipB LT len at_), fn, fa, na)).2.2.2)), .int (nI tu), .int (nI pd)])), (lt, .inl (D.2.2.2.1, 220, .inl (nA LT)))]) (w2 := [(tx, .inr (5, [.ref lt, .int (nI len), .int (iI ((reS LT len (at_, fn, fa, na)).2.2.1)), .int (nI ((reS LT len (at_, fn, fa, na)).2.1)), .int (nI ((reS LT len (at_, fn, fa, na)).1)), .int (nI ((reS LT len (at_, fn, fa, na)).2.2.2)), .int (nI tu), .int (nI pd)])), (lt, .inl (D.2.2.2.1, 220, .inl (nA LT)))]) rfl rfl (cE (congrArg (fun z => ((tx, .inr (5, z)) : Nat × va_E)) (cE rfl (cE rfl (cE (congrArg Value.int (congrArg (fun z : Int => iI z) e_3)) (cE (congrArg Value.int (congrArg (fun z : Nat => nI z) e_4)) (cE (congrArg Value.int (congrArg (fun z : Nat => nI z) e_5)) (cE (congrArg Value.int (congrArg (fun z : Nat => nI z) e_6)) (cE rfl (cE rfl rfl))))))))) (cE rfl rfl)))
  · have hd_7 := of_decide_eq_true h_1
    refine x_aload_n hx dX5_readEnd_9 hl 0 rfl ?_
    refine x_dup hx dX5_readEnd_10 rfl ?_
    refine x_get5 hx hW.1 0 rfl 4 (Nat.le_of_ble_eq_true rfl) wf_RX5_25 rfl dX5_readEnd_11 ?_
    refine x_iconst (v := nI 1) hx dX5_readEnd_14 (by decide) ?_
    refine x_iadd (v := nI (skipB LT len at_ + 1)) hx dX5_readEnd_15 (nI_add _ _) ?_
    refine x_put5 hx hW 0 rfl 4 (Nat.le_of_ble_eq_true rfl) wf_RX5_25 rfl rfl rfl (Nat.le_of_ble_eq_true rfl) dX5_readEnd_16 [(tx, .inr (5, [.ref lt, .int (nI len), .int (iI fa), .int (nI fn), .int (nI (skipB LT len at_ + 1)), .int (nI na), .int (nI tu), .int (nI pd)])), (lt, .inl (D.2.2.2.1, 220, .inl (nA LT)))] rfl (fun H locs hW => ?_)
    refine x_goto (tgt := 31) hx dX5_readEnd_19 (by decide) ?_
    have e_8 : (fa : Int) = (reS LT len (at_, fn, fa, na)).2.2.1 := by
      simp [reS, *]
    have e_9 : (fn : Nat) = (reS LT len (at_, fn, fa, na)).2.1 := by
      clear e_8
      simp [reS, *]
    have e_10 : (skipB LT len at_ + 1 : Nat) = (reS LT len (at_, fn, fa, na)).1 := by
      clear e_8 e_9
      simp [reS, *]
    have e_11 : (na : Nat) = (reS LT len (at_, fn, fa, na)).2.2.2 := by
      clear e_8 e_9 e_10
      simp [reS, *]
    exact hret _ _ _ _ dX5_readEnd_31 (hW.conv [0, 1] (w1 := [(tx, .inr (5, [.ref lt, .int (nI len), .int (iI fa), .int (nI fn), .int (nI (skipB LT len at_ + 1)), .int (nI na), .int (nI tu), .int (nI pd)])), (lt, .inl (D.2.2.2.1, 220, .inl (nA LT)))]) (w2 := [(tx, .inr (5, [.ref lt, .int (nI len), .int (iI ((reS LT len (at_, fn, fa, na)).2.2.1)), .int (nI ((reS LT len (at_, fn, fa, na)).2.1)), .int (nI ((reS LT len (at_, fn, fa, na)).1)), .int (nI ((reS LT len (at_, fn, fa, na)).2.2.2)), .int (nI tu), .int (nI pd)])), (lt, .inl (D.2.2.2.1, 220, .inl (nA LT)))]) rfl rfl (cE (congrArg (fun z => ((tx, .inr (5, z)) : Nat × va_E)) (cE rfl (cE rfl (cE (congrArg Value.int (congrArg (fun z : Int => iI z) e_8)) (cE (congrArg Value.int (congrArg (fun z : Nat => nI z) e_9)) (cE (congrArg Value.int (congrArg (fun z : Nat => nI z) e_10)) (cE (congrArg Value.int (congrArg (fun z : Nat => nI z) e_11)) (cE rfl (cE rfl rfl))))))))) (cE rfl rfl)))
set_option maxHeartbeats 4000000 in
set_option maxRecDepth 100000 in
theorem c_X5_readNumber (l : Launch) (D : KD) (tx : Nat) (lt : Nat) (len : Nat) (fa : Int) (fn : Nat) (at_ : Nat) (na : Nat) (tu : Nat) (pd : Nat) (LT : Nat → Nat) (top : Nat) (hlen : len ≤ 220) (hat : at_ ≤ len) (hLT : ∀ k, k < 220 → LT k < 256) (hfn : fn ≤ 4) (htop : top < 1000) : cM l yX5_readNumber cX5_readNumber 3 (some .int) rm_X5_readNumber D [(tx, .inr (5, [.ref lt, .int (nI len), .int (iI fa), .int (nI fn), .int (nI at_), .int (nI na), .int (nI tu), .int (nI pd)])), (lt, .inl (D.2.2.2.1, 220, .inl (nA LT)))] [.ref tx, .int (nI top)] (nI (rnV LT len top (at_, fn, fa, na))) [(tx, .inr (5, [.ref lt, .int (nI len), .int (iI ((rnS LT len top (at_, fn, fa, na)).2.2.1)), .int (nI ((rnS LT len top (at_, fn, fa, na)).2.1)), .int (nI ((rnS LT len top (at_, fn, fa, na)).1)), .int (nI ((rnS LT len top (at_, fn, fa, na)).2.2.2)), .int (nI tu), .int (nI pd)])), (lt, .inl (D.2.2.2.1, 220, .inl (nA LT)))] := by
  refine cM.mk (by decide) (retI _) (Nat.le_of_ble_eq_true rfl) ?_
  intro X A hx hL hA hW hret ls hl
  subst hL
  have hl : lv_has ls 3 [(0, .ref tx), (1, .int (nI top))] := hl
  have hsk := skipB_rng LT hat
  refine x_aload_n hx dX5_readNumber_0 hl 0 rfl ?_
  refine x_get5 hx hW.1 0 rfl 3 (Nat.le_of_ble_eq_true rfl) wf_RX5_22 rfl dX5_readNumber_1 ?_
  refine x_if_eq_N (a := fn) (tgt := 9) hx dX5_readNumber_4 (by decide) (by omega) (fun h_1 => ?_) (fun h_1 => ?_)
  · have h0 := h_1
    refine x_aload_n hx dX5_readNumber_9 hl 0 rfl ?_
    refine x_callVV (As := []) (rest := []) (wr := []) hx yv_X5_skipBlanks (c_X5_skipBlanks _ D tx lt len fa fn at_ na tu pd LT (by first | assumption | omega | (simp [*]; done)) (by first | assumption | omega | (simp [*]; done)) (by first | assumption | omega | (simp [*]; done))) wm_RX5_53 hA hW [0, 1] [] rfl rfl rfl rfl rfl 0 rfl rfl ⟨rfl, rfl⟩ ⟨Nat.le_of_ble_eq_true rfl, Nat.le_of_ble_eq_true rfl⟩ ⟨Nat.zero_le _, Nat.zero_le _⟩ hl rfl rfl (Nat.le_of_ble_eq_true rfl) dX5_readNumber_10 [(tx, .inr (5, [.ref lt, .int (nI len), .int (iI fa), .int (nI fn), .int (nI (skipB LT len at_)), .int (nI na), .int (nI tu), .int (nI pd)])), (lt, .inl (D.2.2.2.1, 220, .inl (nA LT)))] rfl (fun H locs hW => ?_)
    refine x_aload_n hx dX5_readNumber_13 hl 0 rfl ?_
    refine x_aload_n hx dX5_readNumber_14 hl 0 rfl ?_
    refine x_get5 hx hW.1 0 rfl 4 (Nat.le_of_ble_eq_true rfl) wf_RX5_25 rfl dX5_readNumber_15 ?_
    refine x_put5 hx hW 0 rfl 5 (Nat.le_of_ble_eq_true rfl) wf_RX5_28 rfl rfl rfl (Nat.le_of_ble_eq_true rfl) dX5_readNumber_18 [(tx, .inr (5, [.ref lt, .int (nI len), .int (iI fa), .int (nI fn), .int (nI (skipB LT len at_)), .int (nI (skipB LT len at_)), .int (nI tu), .int (nI pd)])), (lt, .inl (D.2.2.2.1, 220, .inl (nA LT)))] rfl (fun H locs hW => ?_)
    refine x_iconst (v := nI 0) hx dX5_readNumber_21 (by decide) ?_
    refine x_istore_n (lv' := [(2, .int (nI 0)), (0, .ref tx), (1, .int (nI top))]) hx dX5_readNumber_22 hl (Nat.le_of_ble_eq_true rfl) rfl (fun ls hl => ?_)
    have L23_2 : ∀ (L23_2n : Nat) (b : Nat), (skipB LT len at_ ≤ b) → (b ≤ len) → (dgE LT len (skipB LT len at_) = dgE LT len b) → len - b < L23_2n → ∀ (H : Heap) (locs : List Loc), Wd X D A [(tx, .inr (5, [.ref lt, .int (nI len), .int (iI fa), .int (nI fn), .int (nI b), .int (nI (skipB LT len at_)), .int (nI tu), .int (nI pd)])), (lt, .inl (D.2.2.2.1, 220, .inl (nA LT)))] H locs → ∀ ls : Array Slot, lv_has ls 3 [(0, .ref tx), (1, .int (nI top)), (2, .int (nI (dvN LT (skipB LT len at_) (min (b - skipB LT len at_) 3))))] → Wx X 0 0 H locs 23 ls [] := by
      intro L23_2n
      induction L23_2n with
      | zero =>
        intro b h1 h2 h3 hm
        exact absurd hm (Nat.not_lt_zero _)
      | succ L23_2n ihL23_2 =>
        intro b h1 h2 h3 hm H locs hW ls hl
        have hdv := dvN_le hLT (a := skipB LT len at_) (min (b - skipB LT len at_) 3) (by omega) (by omega)
        refine x_aload_n hx dX5_readNumber_23 hl 0 rfl ?_
        refine x_get5 hx hW.1 0 rfl 4 (Nat.le_of_ble_eq_true rfl) wf_RX5_25 rfl dX5_readNumber_24 ?_
        refine x_aload_n hx dX5_readNumber_27 hl 0 rfl ?_
        refine x_get5 hx hW.1 0 rfl 1 (Nat.le_of_ble_eq_true rfl) wf_RX5_15 rfl dX5_readNumber_28 ?_
        have J106_3 : (dgE LT len b = b) → ∀ (H : Heap) (locs : List Loc), Wd X D A [(tx, .inr (5, [.ref lt, .int (nI len), .int (iI fa), .int (nI fn), .int (nI b), .int (nI (skipB LT len at_)), .int (nI tu), .int (nI pd)])), (lt, .inl (D.2.2.2.1, 220, .inl (nA LT)))] H locs → ∀ ls : Array Slot, lv_has ls 3 [(0, .ref tx), (1, .int (nI top)), (2, .int (nI (dvN LT (skipB LT len at_) (min (b - skipB LT len at_) 3))))] → Wx X 0 0 H locs 106 ls [] := by
          intro  hend H locs hW ls hl
          have hD : dgE LT len (skipB LT len at_) = b := h3.trans hend
          refine x_aload_n hx dX5_readNumber_106 hl 0 rfl ?_
          refine x_get5 hx hW.1 0 rfl 4 (Nat.le_of_ble_eq_true rfl) wf_RX5_25 rfl dX5_readNumber_107 ?_
          refine x_aload_n hx dX5_readNumber_110 hl 0 rfl ?_
          refine x_get5 hx hW.1 0 rfl 5 (Nat.le_of_ble_eq_true rfl) wf_RX5_28 rfl dX5_readNumber_111 ?_
          refine x_icmp_ne_N (a := b) (b := (skipB LT len at_)) (tgt := 129) hx dX5_readNumber_114 (by decide) (by omega) (by omega) (fun h_4 => ?_) (fun h_4 => ?_)
          · refine x_aload_n hx dX5_readNumber_129 hl 0 rfl ?_
            refine x_get5 hx hW.1 0 rfl 4 (Nat.le_of_ble_eq_true rfl) wf_RX5_25 rfl dX5_readNumber_130 ?_
            refine x_aload_n hx dX5_readNumber_133 hl 0 rfl ?_
            refine x_get5 hx hW.1 0 rfl 5 (Nat.le_of_ble_eq_true rfl) wf_RX5_28 rfl dX5_readNumber_134 ?_
            refine x_isub (v := nI (b - (skipB LT len at_))) hx dX5_readNumber_137 (pk_sub (by omega)) ?_
            refine x_iconst (v := nI 3) hx dX5_readNumber_138 (by decide) ?_
            refine x_icmp_gt_N (a := (b - (skipB LT len at_))) (b := 3) (tgt := 147) hx dX5_readNumber_139 (by decide) (by omega) (by omega) (fun h_5 => ?_) (fun h_5 => ?_)
            · have hnf : nfC LT len (skipB LT len at_) top = 2 := by
                unfold nfC nval
                rw [hD, if_neg (by omega), if_pos (by omega)]
              refine x_aload_n hx dX5_readNumber_147 hl 0 rfl ?_
              refine x_iconst (v := nI 2) hx dX5_readNumber_148 (by decide) ?_
              refine x_aload_n hx dX5_readNumber_149 hl 0 rfl ?_
              refine x_get5 hx hW.1 0 rfl 5 (Nat.le_of_ble_eq_true rfl) wf_RX5_28 rfl dX5_readNumber_150 ?_
              refine x_callVV (As := [.int (nI 2), .int (nI (skipB LT len at_))]) (rest := []) (wr := [(lt, .inl (D.2.2.2.1, 220, .inl (nA LT)))]) hx yv_X5_blame (c_X5_blame _ D tx lt len fa fn b (skipB LT len at_) tu pd 2 ((skipB LT len at_ : Nat) : Int) (by first | assumption | omega | (simp [*]; done))) wm_RX5_67 hA hW [0] [1] rfl rfl rfl rfl rfl 0 rfl rfl ⟨rfl, rfl⟩ ⟨Nat.le_of_ble_eq_true rfl, Nat.le_of_ble_eq_true rfl⟩ ⟨Nat.zero_le _, Nat.zero_le _⟩ hl rfl rfl (Nat.le_of_ble_eq_true rfl) dX5_readNumber_153 [(lt, .inl (D.2.2.2.1, 220, .inl (nA LT))), (tx, .inr (5, [.ref lt, .int (nI len), .int (iI ((blS 2 ((skipB LT len at_ : Nat) : Int) (b, fn, fa, (skipB LT len at_))).2.2.1)), .int (nI ((blS 2 ((skipB LT len at_ : Nat) : Int) (b, fn, fa, (skipB LT len at_))).2.1)), .int (nI ((blS 2 ((skipB LT len at_ : Nat) : Int) (b, fn, fa, (skipB LT len at_))).1)), .int (nI ((blS 2 ((skipB LT len at_ : Nat) : Int) (b, fn, fa, (skipB LT len at_))).2.2.2)), .int (nI tu), .int (nI pd)]))] rfl (fun H locs hW => ?_)
              refine x_aload_n hx dX5_readNumber_156 hl 0 rfl ?_
              refine x_get5 hx hW.1 1 rfl 3 (Nat.le_of_ble_eq_true rfl) wf_RX5_22 rfl dX5_readNumber_157 ?_
              have hb9 : (blS 2 ((skipB LT len at_ : Nat) : Int) (b, fn, fa, (skipB LT len at_))).2.1 = 2 := by simp [blS, h0]
              refine x_if_ne_N (a := ((blS 2 ((skipB LT len at_ : Nat) : Int) (b, fn, fa, (skipB LT len at_))).2.1)) (tgt := 167) hx dX5_readNumber_160 (by decide) (by omega) (fun h_6 => ?_) (fun h_6 => ?_)
              · refine x_iconst (v := nI 0) hx dX5_readNumber_167 (by decide) ?_
                have hrv : nI 0 = nI (rnV LT len top (at_, fn, fa, na)) := by first | (exfalso; omega) | (simp [rnV, nval, hnf, hD, h0]; done) | (simp [rnV, *]; done)
                have e_7 : ((blS 2 ((skipB LT len at_ : Nat) : Int) (b, fn, fa, (skipB LT len at_))).2.2.1 : Int) = (rnS LT len top (at_, fn, fa, na)).2.2.1 := by
                  clear hrv
                  first | (exfalso; omega) | (simp [rnS, blS, hnf, hD, h0]; done) | (simp [rnS, blS, hnf, hD, h0]; omega) | (simp [rnS, *]; done)
                have e_8 : ((blS 2 ((skipB LT len at_ : Nat) : Int) (b, fn, fa, (skipB LT len at_))).2.1 : Nat) = (rnS LT len top (at_, fn, fa, na)).2.1 := by
                  clear hrv e_7
                  first | (exfalso; omega) | (simp [rnS, blS, hnf, hD, h0]; done) | (simp [rnS, blS, hnf, hD, h0]; omega) | (simp [rnS, *]; done)
                have e_9 : ((blS 2 ((skipB LT len at_ : Nat) : Int) (b, fn, fa, (skipB LT len at_))).1 : Nat) = (rnS LT len top (at_, fn, fa, na)).1 := by
                  clear hrv e_7 e_8
                  first | (exfalso; omega) | (simp [rnS, blS, hnf, hD, h0]; done) | (simp [rnS, blS, hnf, hD, h0]; omega) | (simp [rnS, *]; done)
                have e_10 : ((blS 2 ((skipB LT len at_ : Nat) : Int) (b, fn, fa, (skipB LT len at_))).2.2.2 : Nat) = (rnS LT len top (at_, fn, fa, na)).2.2.2 := by
                  clear hrv e_7 e_8 e_9
                  first | (exfalso; omega) | (simp [rnS, blS, hnf, hD, h0]; done) | (simp [rnS, blS, hnf, hD, h0]; omega) | (simp [rnS, *]; done)
                exact hret _ _ _ _ _ dX5_readNumber_168 (hrv) (hW.conv [1, 0] (w1 := [(tx, .inr (5, [.ref lt, .int (nI len), .int (iI ((blS 2 ((skipB LT len at_ : Nat) : Int) (b, fn, fa, (skipB LT len at_))).2.2.1)), .int (nI ((blS 2 ((skipB LT len at_ : Nat) : Int) (b, fn, fa, (skipB LT len at_))).2.1)), .int (nI ((blS 2 ((skipB LT len at_ : Nat) : Int) (b, fn, fa, (skipB LT len at_))).1)), .int (nI ((blS 2 ((skipB LT len at_ : Nat) : Int) (b, fn, fa, (skipB LT len at_))).2.2.2)), .int (nI tu), .int (nI pd)])), (lt, .inl (D.2.2.2.1, 220, .inl (nA LT)))]) (w2 := [(tx, .inr (5, [.ref lt, .int (nI len), .int (iI ((rnS LT len top (at_, fn, fa, na)).2.2.1)), .int (nI ((rnS LT len top (at_, fn, fa, na)).2.1)), .int (nI ((rnS LT len top (at_, fn, fa, na)).1)), .int (nI ((rnS LT len top (at_, fn, fa, na)).2.2.2)), .int (nI tu), .int (nI pd)])), (lt, .inl (D.2.2.2.1, 220, .inl (nA LT)))]) rfl rfl (cE (congrArg (fun z => ((tx, .inr (5, z)) : Nat × va_E)) (cE rfl (cE rfl (cE (congrArg Value.int (congrArg (fun z : Int => iI z) e_7)) (cE (congrArg Value.int (congrArg (fun z : Nat => nI z) e_8)) (cE (congrArg Value.int (congrArg (fun z : Nat => nI z) e_9)) (cE (congrArg Value.int (congrArg (fun z : Nat => nI z) e_10)) (cE rfl (cE rfl rfl))))))))) (cE rfl rfl)))
              · refine x_iload_n hx dX5_readNumber_163 hl 2 rfl ?_
                refine x_goto (tgt := 168) hx dX5_readNumber_164 (by decide) ?_
                have hrv : nI (dvN LT (skipB LT len at_) (min (b - skipB LT len at_) 3)) = nI (rnV LT len top (at_, fn, fa, na)) := by first | (exfalso; omega) | (simp [rnV, nval, hnf, hD, h0]; done) | (simp [rnV, *]; done)
                have e_11 : ((blS 2 ((skipB LT len at_ : Nat) : Int) (b, fn, fa, (skipB LT len at_))).2.2.1 : Int) = (rnS LT len top (at_, fn, fa, na)).2.2.1 := by
                  clear hrv
                  first | (exfalso; omega) | (simp [rnS, blS, hnf, hD, h0]; done) | (simp [rnS, blS, hnf, hD, h0]; omega) | (simp [rnS, *]; done)
                have e_12 : ((blS 2 ((skipB LT len at_ : Nat) : Int) (b, fn, fa, (skipB LT len at_))).2.1 : Nat) = (rnS LT len top (at_, fn, fa, na)).2.1 := by
                  clear hrv e_11
                  first | (exfalso; omega) | (simp [rnS, blS, hnf, hD, h0]; done) | (simp [rnS, blS, hnf, hD, h0]; omega) | (simp [rnS, *]; done)
                have e_13 : ((blS 2 ((skipB LT len at_ : Nat) : Int) (b, fn, fa, (skipB LT len at_))).1 : Nat) = (rnS LT len top (at_, fn, fa, na)).1 := by
                  clear hrv e_11 e_12
                  first | (exfalso; omega) | (simp [rnS, blS, hnf, hD, h0]; done) | (simp [rnS, blS, hnf, hD, h0]; omega) | (simp [rnS, *]; done)
                have e_14 : ((blS 2 ((skipB LT len at_ : Nat) : Int) (b, fn, fa, (skipB LT len at_))).2.2.2 : Nat) = (rnS LT len top (at_, fn, fa, na)).2.2.2 := by
                  clear hrv e_11 e_12 e_13
                  first | (exfalso; omega) | (simp [rnS, blS, hnf, hD, h0]; done) | (simp [rnS, blS, hnf, hD, h0]; omega) | (simp [rnS, *]; done)
                exact hret _ _ _ _ _ dX5_readNumber_168 (hrv) (hW.conv [1, 0] (w1 := [(tx, .inr (5, [.ref lt, .int (nI len), .int (iI ((blS 2 ((skipB LT len at_ : Nat) : Int) (b, fn, fa, (skipB LT len at_))).2.2.1)), .int (nI ((blS 2 ((skipB LT len at_ : Nat) : Int) (b, fn, fa, (skipB LT len at_))).2.1)), .int (nI ((blS 2 ((skipB LT len at_ : Nat) : Int) (b, fn, fa, (skipB LT len at_))).1)), .int (nI ((blS 2 ((skipB LT len at_ : Nat) : Int) (b, fn, fa, (skipB LT len at_))).2.2.2)), .int (nI tu), .int (nI pd)])), (lt, .inl (D.2.2.2.1, 220, .inl (nA LT)))]) (w2 := [(tx, .inr (5, [.ref lt, .int (nI len), .int (iI ((rnS LT len top (at_, fn, fa, na)).2.2.1)), .int (nI ((rnS LT len top (at_, fn, fa, na)).2.1)), .int (nI ((rnS LT len top (at_, fn, fa, na)).1)), .int (nI ((rnS LT len top (at_, fn, fa, na)).2.2.2)), .int (nI tu), .int (nI pd)])), (lt, .inl (D.2.2.2.1, 220, .inl (nA LT)))]) rfl rfl (cE (congrArg (fun z => ((tx, .inr (5, z)) : Nat × va_E)) (cE rfl (cE rfl (cE (congrArg Value.int (congrArg (fun z : Int => iI z) e_11)) (cE (congrArg Value.int (congrArg (fun z : Nat => nI z) e_12)) (cE (congrArg Value.int (congrArg (fun z : Nat => nI z) e_13)) (cE (congrArg Value.int (congrArg (fun z : Nat => nI z) e_14)) (cE rfl (cE rfl rfl))))))))) (cE rfl rfl)))
            · refine x_iload_n hx dX5_readNumber_142 hl 2 rfl ?_
              refine x_iload_n hx dX5_readNumber_143 hl 1 rfl ?_
              refine x_icmp_le_N (a := (dvN LT (skipB LT len at_) (min (b - skipB LT len at_) 3))) (b := top) (tgt := 156) hx dX5_readNumber_144 (by decide) (by omega) (by omega) (fun h_15 => ?_) (fun h_15 => ?_)
              · have hnf : nfC LT len (skipB LT len at_) top = 0 := by
                  unfold nfC nval
                  rw [hD, if_neg (by omega), if_neg (by omega)]
                refine x_aload_n hx dX5_readNumber_156 hl 0 rfl ?_
                refine x_get5 hx hW.1 0 rfl 3 (Nat.le_of_ble_eq_true rfl) wf_RX5_22 rfl dX5_readNumber_157 ?_
                refine x_if_ne_N (a := fn) (tgt := 167) hx dX5_readNumber_160 (by decide) (by omega) (fun h_16 => ?_) (fun h_16 => ?_)
                · refine x_iconst (v := nI 0) hx dX5_readNumber_167 (by decide) ?_
                  have hrv : nI 0 = nI (rnV LT len top (at_, fn, fa, na)) := by first | (exfalso; omega) | (simp [rnV, nval, hnf, hD, h0]; done) | (simp [rnV, *]; done)
                  have e_17 : (fa : Int) = (rnS LT len top (at_, fn, fa, na)).2.2.1 := by
                    clear hrv
                    first | (exfalso; omega) | (simp [rnS, blS, hnf, hD, h0]; done) | (simp [rnS, blS, hnf, hD, h0]; omega) | (simp [rnS, *]; done)
                  have e_18 : (fn : Nat) = (rnS LT len top (at_, fn, fa, na)).2.1 := by
                    clear hrv e_17
                    first | (exfalso; omega) | (simp [rnS, blS, hnf, hD, h0]; done) | (simp [rnS, blS, hnf, hD, h0]; omega) | (simp [rnS, *]; done)
                  have e_19 : (b : Nat) = (rnS LT len top (at_, fn, fa, na)).1 := by
                    clear hrv e_17 e_18
                    first | (exfalso; omega) | (simp [rnS, blS, hnf, hD, h0]; done) | (simp [rnS, blS, hnf, hD, h0]; omega) | (simp [rnS, *]; done)
                  have e_20 : (skipB LT len at_ : Nat) = (rnS LT len top (at_, fn, fa, na)).2.2.2 := by
                    clear hrv e_17 e_18 e_19
                    first | (exfalso; omega) | (simp [rnS, blS, hnf, hD, h0]; done) | (simp [rnS, blS, hnf, hD, h0]; omega) | (simp [rnS, *]; done)
                  exact hret _ _ _ _ _ dX5_readNumber_168 (hrv) (hW.conv [0, 1] (w1 := [(tx, .inr (5, [.ref lt, .int (nI len), .int (iI fa), .int (nI fn), .int (nI b), .int (nI (skipB LT len at_)), .int (nI tu), .int (nI pd)])), (lt, .inl (D.2.2.2.1, 220, .inl (nA LT)))]) (w2 := [(tx, .inr (5, [.ref lt, .int (nI len), .int (iI ((rnS LT len top (at_, fn, fa, na)).2.2.1)), .int (nI ((rnS LT len top (at_, fn, fa, na)).2.1)), .int (nI ((rnS LT len top (at_, fn, fa, na)).1)), .int (nI ((rnS LT len top (at_, fn, fa, na)).2.2.2)), .int (nI tu), .int (nI pd)])), (lt, .inl (D.2.2.2.1, 220, .inl (nA LT)))]) rfl rfl (cE (congrArg (fun z => ((tx, .inr (5, z)) : Nat × va_E)) (cE rfl (cE rfl (cE (congrArg Value.int (congrArg (fun z : Int => iI z) e_17)) (cE (congrArg Value.int (congrArg (fun z : Nat => nI z) e_18)) (cE (congrArg Value.int (congrArg (fun z : Nat => nI z) e_19)) (cE (congrArg Value.int (congrArg (fun z : Nat => nI z) e_20)) (cE rfl (cE rfl rfl))))))))) (cE rfl rfl)))
                · refine x_iload_n hx dX5_readNumber_163 hl 2 rfl ?_
                  refine x_goto (tgt := 168) hx dX5_readNumber_164 (by decide) ?_
                  have hrv : nI (dvN LT (skipB LT len at_) (min (b - skipB LT len at_) 3)) = nI (rnV LT len top (at_, fn, fa, na)) := by first | (exfalso; omega) | (simp [rnV, nval, hnf, hD, h0]; done) | (simp [rnV, *]; done)
                  have e_21 : (fa : Int) = (rnS LT len top (at_, fn, fa, na)).2.2.1 := by
                    clear hrv
                    first | (exfalso; omega) | (simp [rnS, blS, hnf, hD, h0]; done) | (simp [rnS, blS, hnf, hD, h0]; omega) | (simp [rnS, *]; done)
                  have e_22 : (fn : Nat) = (rnS LT len top (at_, fn, fa, na)).2.1 := by
                    clear hrv e_21
                    first | (exfalso; omega) | (simp [rnS, blS, hnf, hD, h0]; done) | (simp [rnS, blS, hnf, hD, h0]; omega) | (simp [rnS, *]; done)
                  have e_23 : (b : Nat) = (rnS LT len top (at_, fn, fa, na)).1 := by
                    clear hrv e_21 e_22
                    first | (exfalso; omega) | (simp [rnS, blS, hnf, hD, h0]; done) | (simp [rnS, blS, hnf, hD, h0]; omega) | (simp [rnS, *]; done)
                  have e_24 : (skipB LT len at_ : Nat) = (rnS LT len top (at_, fn, fa, na)).2.2.2 := by
                    clear hrv e_21 e_22 e_23
                    first | (exfalso; omega) | (simp [rnS, blS, hnf, hD, h0]; done) | (simp [rnS, blS, hnf, hD, h0]; omega) | (simp [rnS, *]; done)
                  exact hret _ _ _ _ _ dX5_readNumber_168 (hrv) (hW.conv [0, 1] (w1 := [(tx, .inr (5, [.ref lt, .int (nI len), .int (iI fa), .int (nI fn), .int (nI b), .int (nI (skipB LT len at_)), .int (nI tu), .int (nI pd)])), (lt, .inl (D.2.2.2.1, 220, .inl (nA LT)))]) (w2 := [(tx, .inr (5, [.ref lt, .int (nI len), .int (iI ((rnS LT len top (at_, fn, fa, na)).2.2.1)), .int (nI ((rnS LT len top (at_, fn, fa, na)).2.1)), .int (nI ((rnS LT len top (at_, fn, fa, na)).1)), .int (nI ((rnS LT len top (at_, fn, fa, na)).2.2.2)), .int (nI tu), .int (nI pd)])), (lt, .inl (D.2.2.2.1, 220, .inl (nA LT)))]) rfl rfl (cE (congrArg (fun z => ((tx, .inr (5, z)) : Nat × va_E)) (cE rfl (cE rfl (cE (congrArg Value.int (congrArg (fun z : Int => iI z) e_21)) (cE (congrArg Value.int (congrArg (fun z : Nat => nI z) e_22)) (cE (congrArg Value.int (congrArg (fun z : Nat => nI z) e_23)) (cE (congrArg Value.int (congrArg (fun z : Nat => nI z) e_24)) (cE rfl (cE rfl rfl))))))))) (cE rfl rfl)))
              · have hnf : nfC LT len (skipB LT len at_) top = 2 := by
                  unfold nfC nval
                  rw [hD, if_neg (by omega), if_pos (by omega)]
                refine x_aload_n hx dX5_readNumber_147 hl 0 rfl ?_
                refine x_iconst (v := nI 2) hx dX5_readNumber_148 (by decide) ?_
                refine x_aload_n hx dX5_readNumber_149 hl 0 rfl ?_
                refine x_get5 hx hW.1 0 rfl 5 (Nat.le_of_ble_eq_true rfl) wf_RX5_28 rfl dX5_readNumber_150 ?_
                refine x_callVV (As := [.int (nI 2), .int (nI (skipB LT len at_))]) (rest := []) (wr := [(lt, .inl (D.2.2.2.1, 220, .inl (nA LT)))]) hx yv_X5_blame (c_X5_blame _ D tx lt len fa fn b (skipB LT len at_) tu pd 2 ((skipB LT len at_ : Nat) : Int) (by first | assumption | omega | (simp [*]; done))) wm_RX5_67 hA hW [0] [1] rfl rfl rfl rfl rfl 0 rfl rfl ⟨rfl, rfl⟩ ⟨Nat.le_of_ble_eq_true rfl, Nat.le_of_ble_eq_true rfl⟩ ⟨Nat.zero_le _, Nat.zero_le _⟩ hl rfl rfl (Nat.le_of_ble_eq_true rfl) dX5_readNumber_153 [(lt, .inl (D.2.2.2.1, 220, .inl (nA LT))), (tx, .inr (5, [.ref lt, .int (nI len), .int (iI ((blS 2 ((skipB LT len at_ : Nat) : Int) (b, fn, fa, (skipB LT len at_))).2.2.1)), .int (nI ((blS 2 ((skipB LT len at_ : Nat) : Int) (b, fn, fa, (skipB LT len at_))).2.1)), .int (nI ((blS 2 ((skipB LT len at_ : Nat) : Int) (b, fn, fa, (skipB LT len at_))).1)), .int (nI ((blS 2 ((skipB LT len at_ : Nat) : Int) (b, fn, fa, (skipB LT len at_))).2.2.2)), .int (nI tu), .int (nI pd)]))] rfl (fun H locs hW => ?_)
                refine x_aload_n hx dX5_readNumber_156 hl 0 rfl ?_
                refine x_get5 hx hW.1 1 rfl 3 (Nat.le_of_ble_eq_true rfl) wf_RX5_22 rfl dX5_readNumber_157 ?_
                have hb9 : (blS 2 ((skipB LT len at_ : Nat) : Int) (b, fn, fa, (skipB LT len at_))).2.1 = 2 := by simp [blS, h0]
                refine x_if_ne_N (a := ((blS 2 ((skipB LT len at_ : Nat) : Int) (b, fn, fa, (skipB LT len at_))).2.1)) (tgt := 167) hx dX5_readNumber_160 (by decide) (by omega) (fun h_25 => ?_) (fun h_25 => ?_)
                · refine x_iconst (v := nI 0) hx dX5_readNumber_167 (by decide) ?_
                  have hrv : nI 0 = nI (rnV LT len top (at_, fn, fa, na)) := by first | (exfalso; omega) | (simp [rnV, nval, hnf, hD, h0]; done) | (simp [rnV, *]; done)
                  have e_26 : ((blS 2 ((skipB LT len at_ : Nat) : Int) (b, fn, fa, (skipB LT len at_))).2.2.1 : Int) = (rnS LT len top (at_, fn, fa, na)).2.2.1 := by
                    clear hrv
                    first | (exfalso; omega) | (simp [rnS, blS, hnf, hD, h0]; done) | (simp [rnS, blS, hnf, hD, h0]; omega) | (simp [rnS, *]; done)
                  have e_27 : ((blS 2 ((skipB LT len at_ : Nat) : Int) (b, fn, fa, (skipB LT len at_))).2.1 : Nat) = (rnS LT len top (at_, fn, fa, na)).2.1 := by
                    clear hrv e_26
                    first | (exfalso; omega) | (simp [rnS, blS, hnf, hD, h0]; done) | (simp [rnS, blS, hnf, hD, h0]; omega) | (simp [rnS, *]; done)
                  have e_28 : ((blS 2 ((skipB LT len at_ : Nat) : Int) (b, fn, fa, (skipB LT len at_))).1 : Nat) = (rnS LT len top (at_, fn, fa, na)).1 := by
                    clear hrv e_26 e_27
                    first | (exfalso; omega) | (simp [rnS, blS, hnf, hD, h0]; done) | (simp [rnS, blS, hnf, hD, h0]; omega) | (simp [rnS, *]; done)
                  have e_29 : ((blS 2 ((skipB LT len at_ : Nat) : Int) (b, fn, fa, (skipB LT len at_))).2.2.2 : Nat) = (rnS LT len top (at_, fn, fa, na)).2.2.2 := by
                    clear hrv e_26 e_27 e_28
                    first | (exfalso; omega) | (simp [rnS, blS, hnf, hD, h0]; done) | (simp [rnS, blS, hnf, hD, h0]; omega) | (simp [rnS, *]; done)
                  exact hret _ _ _ _ _ dX5_readNumber_168 (hrv) (hW.conv [1, 0] (w1 := [(tx, .inr (5, [.ref lt, .int (nI len), .int (iI ((blS 2 ((skipB LT len at_ : Nat) : Int) (b, fn, fa, (skipB LT len at_))).2.2.1)), .int (nI ((blS 2 ((skipB LT len at_ : Nat) : Int) (b, fn, fa, (skipB LT len at_))).2.1)), .int (nI ((blS 2 ((skipB LT len at_ : Nat) : Int) (b, fn, fa, (skipB LT len at_))).1)), .int (nI ((blS 2 ((skipB LT len at_ : Nat) : Int) (b, fn, fa, (skipB LT len at_))).2.2.2)), .int (nI tu), .int (nI pd)])), (lt, .inl (D.2.2.2.1, 220, .inl (nA LT)))]) (w2 := [(tx, .inr (5, [.ref lt, .int (nI len), .int (iI ((rnS LT len top (at_, fn, fa, na)).2.2.1)), .int (nI ((rnS LT len top (at_, fn, fa, na)).2.1)), .int (nI ((rnS LT len top (at_, fn, fa, na)).1)), .int (nI ((rnS LT len top (at_, fn, fa, na)).2.2.2)), .int (nI tu), .int (nI pd)])), (lt, .inl (D.2.2.2.1, 220, .inl (nA LT)))]) rfl rfl (cE (congrArg (fun z => ((tx, .inr (5, z)) : Nat × va_E)) (cE rfl (cE rfl (cE (congrArg Value.int (congrArg (fun z : Int => iI z) e_26)) (cE (congrArg Value.int (congrArg (fun z : Nat => nI z) e_27)) (cE (congrArg Value.int (congrArg (fun z : Nat => nI z) e_28)) (cE (congrArg Value.int (congrArg (fun z : Nat => nI z) e_29)) (cE rfl (cE rfl rfl))))))))) (cE rfl rfl)))
                · refine x_iload_n hx dX5_readNumber_163 hl 2 rfl ?_
                  refine x_goto (tgt := 168) hx dX5_readNumber_164 (by decide) ?_
                  have hrv : nI (dvN LT (skipB LT len at_) (min (b - skipB LT len at_) 3)) = nI (rnV LT len top (at_, fn, fa, na)) := by first | (exfalso; omega) | (simp [rnV, nval, hnf, hD, h0]; done) | (simp [rnV, *]; done)
                  have e_30 : ((blS 2 ((skipB LT len at_ : Nat) : Int) (b, fn, fa, (skipB LT len at_))).2.2.1 : Int) = (rnS LT len top (at_, fn, fa, na)).2.2.1 := by
                    clear hrv
                    first | (exfalso; omega) | (simp [rnS, blS, hnf, hD, h0]; done) | (simp [rnS, blS, hnf, hD, h0]; omega) | (simp [rnS, *]; done)
                  have e_31 : ((blS 2 ((skipB LT len at_ : Nat) : Int) (b, fn, fa, (skipB LT len at_))).2.1 : Nat) = (rnS LT len top (at_, fn, fa, na)).2.1 := by
                    clear hrv e_30
                    first | (exfalso; omega) | (simp [rnS, blS, hnf, hD, h0]; done) | (simp [rnS, blS, hnf, hD, h0]; omega) | (simp [rnS, *]; done)
                  have e_32 : ((blS 2 ((skipB LT len at_ : Nat) : Int) (b, fn, fa, (skipB LT len at_))).1 : Nat) = (rnS LT len top (at_, fn, fa, na)).1 := by
                    clear hrv e_30 e_31
                    first | (exfalso; omega) | (simp [rnS, blS, hnf, hD, h0]; done) | (simp [rnS, blS, hnf, hD, h0]; omega) | (simp [rnS, *]; done)
                  have e_33 : ((blS 2 ((skipB LT len at_ : Nat) : Int) (b, fn, fa, (skipB LT len at_))).2.2.2 : Nat) = (rnS LT len top (at_, fn, fa, na)).2.2.2 := by
                    clear hrv e_30 e_31 e_32
                    first | (exfalso; omega) | (simp [rnS, blS, hnf, hD, h0]; done) | (simp [rnS, blS, hnf, hD, h0]; omega) | (simp [rnS, *]; done)
                  exact hret _ _ _ _ _ dX5_readNumber_168 (hrv) (hW.conv [1, 0] (w1 := [(tx, .inr (5, [.ref lt, .int (nI len), .int (iI ((blS 2 ((skipB LT len at_ : Nat) : Int) (b, fn, fa, (skipB LT len at_))).2.2.1)), .int (nI ((blS 2 ((skipB LT len at_ : Nat) : Int) (b, fn, fa, (skipB LT len at_))).2.1)), .int (nI ((blS 2 ((skipB LT len at_ : Nat) : Int) (b, fn, fa, (skipB LT len at_))).1)), .int (nI ((blS 2 ((skipB LT len at_ : Nat) : Int) (b, fn, fa, (skipB LT len at_))).2.2.2)), .int (nI tu), .int (nI pd)])), (lt, .inl (D.2.2.2.1, 220, .inl (nA LT)))]) (w2 := [(tx, .inr (5, [.ref lt, .int (nI len), .int (iI ((rnS LT len top (at_, fn, fa, na)).2.2.1)), .int (nI ((rnS LT len top (at_, fn, fa, na)).2.1)), .int (nI ((rnS LT len top (at_, fn, fa, na)).1)), .int (nI ((rnS LT len top (at_, fn, fa, na)).2.2.2)), .int (nI tu), .int (nI pd)])), (lt, .inl (D.2.2.2.1, 220, .inl (nA LT)))]) rfl rfl (cE (congrArg (fun z => ((tx, .inr (5, z)) : Nat × va_E)) (cE rfl (cE rfl (cE (congrArg Value.int (congrArg (fun z : Int => iI z) e_30)) (cE (congrArg Value.int (congrArg (fun z : Nat => nI z) e_31)) (cE (congrArg Value.int (congrArg (fun z : Nat => nI z) e_32)) (cE (congrArg Value.int (congrArg (fun z : Nat => nI z) e_33)) (cE rfl (cE rfl rfl))))))))) (cE rfl rfl)))
          · have hnf : nfC LT len (skipB LT len at_) top = 1 := by
              unfold nfC
              rw [hD, if_pos (by omega)]
            refine x_aload_n hx dX5_readNumber_117 hl 0 rfl ?_
            refine x_iconst (v := nI 1) hx dX5_readNumber_118 (by decide) ?_
            refine x_aload_n hx dX5_readNumber_119 hl 0 rfl ?_
            refine x_get5 hx hW.1 0 rfl 4 (Nat.le_of_ble_eq_true rfl) wf_RX5_25 rfl dX5_readNumber_120 ?_
            refine x_callVV (As := [.int (nI 1), .int (nI b)]) (rest := []) (wr := [(lt, .inl (D.2.2.2.1, 220, .inl (nA LT)))]) hx yv_X5_blame (c_X5_blame _ D tx lt len fa fn b (skipB LT len at_) tu pd 1 (b : Int) (by first | assumption | omega | (simp [*]; done))) wm_RX5_67 hA hW [0] [1] rfl rfl rfl rfl rfl 0 rfl rfl ⟨rfl, rfl⟩ ⟨Nat.le_of_ble_eq_true rfl, Nat.le_of_ble_eq_true rfl⟩ ⟨Nat.zero_le _, Nat.zero_le _⟩ hl rfl rfl (Nat.le_of_ble_eq_true rfl) dX5_readNumber_123 [(lt, .inl (D.2.2.2.1, 220, .inl (nA LT))), (tx, .inr (5, [.ref lt, .int (nI len), .int (iI ((blS 1 (b : Int) (b, fn, fa, (skipB LT len at_))).2.2.1)), .int (nI ((blS 1 (b : Int) (b, fn, fa, (skipB LT len at_))).2.1)), .int (nI ((blS 1 (b : Int) (b, fn, fa, (skipB LT len at_))).1)), .int (nI ((blS 1 (b : Int) (b, fn, fa, (skipB LT len at_))).2.2.2)), .int (nI tu), .int (nI pd)]))] rfl (fun H locs hW => ?_)
            refine x_goto (tgt := 156) hx dX5_readNumber_126 (by decide) ?_
            refine x_aload_n hx dX5_readNumber_156 hl 0 rfl ?_
            refine x_get5 hx hW.1 1 rfl 3 (Nat.le_of_ble_eq_true rfl) wf_RX5_22 rfl dX5_readNumber_157 ?_
            have hb9 : (blS 1 (b : Int) (b, fn, fa, (skipB LT len at_))).2.1 = 1 := by simp [blS, h0]
            refine x_if_ne_N (a := ((blS 1 (b : Int) (b, fn, fa, (skipB LT len at_))).2.1)) (tgt := 167) hx dX5_readNumber_160 (by decide) (by omega) (fun h_34 => ?_) (fun h_34 => ?_)
            · refine x_iconst (v := nI 0) hx dX5_readNumber_167 (by decide) ?_
              have hrv : nI 0 = nI (rnV LT len top (at_, fn, fa, na)) := by first | (exfalso; omega) | (simp [rnV, nval, hnf, hD, h0]; done) | (simp [rnV, *]; done)
              have e_35 : ((blS 1 (b : Int) (b, fn, fa, (skipB LT len at_))).2.2.1 : Int) = (rnS LT len top (at_, fn, fa, na)).2.2.1 := by
                clear hrv
                first | (exfalso; omega) | (simp [rnS, blS, hnf, hD, h0]; done) | (simp [rnS, blS, hnf, hD, h0]; omega) | (simp [rnS, *]; done)
              have e_36 : ((blS 1 (b : Int) (b, fn, fa, (skipB LT len at_))).2.1 : Nat) = (rnS LT len top (at_, fn, fa, na)).2.1 := by
                clear hrv e_35
                first | (exfalso; omega) | (simp [rnS, blS, hnf, hD, h0]; done) | (simp [rnS, blS, hnf, hD, h0]; omega) | (simp [rnS, *]; done)
              have e_37 : ((blS 1 (b : Int) (b, fn, fa, (skipB LT len at_))).1 : Nat) = (rnS LT len top (at_, fn, fa, na)).1 := by
                clear hrv e_35 e_36
                first | (exfalso; omega) | (simp [rnS, blS, hnf, hD, h0]; done) | (simp [rnS, blS, hnf, hD, h0]; omega) | (simp [rnS, *]; done)
              have e_38 : ((blS 1 (b : Int) (b, fn, fa, (skipB LT len at_))).2.2.2 : Nat) = (rnS LT len top (at_, fn, fa, na)).2.2.2 := by
                clear hrv e_35 e_36 e_37
                first | (exfalso; omega) | (simp [rnS, blS, hnf, hD, h0]; done) | (simp [rnS, blS, hnf, hD, h0]; omega) | (simp [rnS, *]; done)
              exact hret _ _ _ _ _ dX5_readNumber_168 (hrv) (hW.conv [1, 0] (w1 := [(tx, .inr (5, [.ref lt, .int (nI len), .int (iI ((blS 1 (b : Int) (b, fn, fa, (skipB LT len at_))).2.2.1)), .int (nI ((blS 1 (b : Int) (b, fn, fa, (skipB LT len at_))).2.1)), .int (nI ((blS 1 (b : Int) (b, fn, fa, (skipB LT len at_))).1)), .int (nI ((blS 1 (b : Int) (b, fn, fa, (skipB LT len at_))).2.2.2)), .int (nI tu), .int (nI pd)])), (lt, .inl (D.2.2.2.1, 220, .inl (nA LT)))]) (w2 := [(tx, .inr (5, [.ref lt, .int (nI len), .int (iI ((rnS LT len top (at_, fn, fa, na)).2.2.1)), .int (nI ((rnS LT len top (at_, fn, fa, na)).2.1)), .int (nI ((rnS LT len top (at_, fn, fa, na)).1)), .int (nI ((rnS LT len top (at_, fn, fa, na)).2.2.2)), .int (nI tu), .int (nI pd)])), (lt, .inl (D.2.2.2.1, 220, .inl (nA LT)))]) rfl rfl (cE (congrArg (fun z => ((tx, .inr (5, z)) : Nat × va_E)) (cE rfl (cE rfl (cE (congrArg Value.int (congrArg (fun z : Int => iI z) e_35)) (cE (congrArg Value.int (congrArg (fun z : Nat => nI z) e_36)) (cE (congrArg Value.int (congrArg (fun z : Nat => nI z) e_37)) (cE (congrArg Value.int (congrArg (fun z : Nat => nI z) e_38)) (cE rfl (cE rfl rfl))))))))) (cE rfl rfl)))
            · refine x_iload_n hx dX5_readNumber_163 hl 2 rfl ?_
              refine x_goto (tgt := 168) hx dX5_readNumber_164 (by decide) ?_
              have hrv : nI (dvN LT (skipB LT len at_) (min (b - skipB LT len at_) 3)) = nI (rnV LT len top (at_, fn, fa, na)) := by first | (exfalso; omega) | (simp [rnV, nval, hnf, hD, h0]; done) | (simp [rnV, *]; done)
              have e_39 : ((blS 1 (b : Int) (b, fn, fa, (skipB LT len at_))).2.2.1 : Int) = (rnS LT len top (at_, fn, fa, na)).2.2.1 := by
                clear hrv
                first | (exfalso; omega) | (simp [rnS, blS, hnf, hD, h0]; done) | (simp [rnS, blS, hnf, hD, h0]; omega) | (simp [rnS, *]; done)
              have e_40 : ((blS 1 (b : Int) (b, fn, fa, (skipB LT len at_))).2.1 : Nat) = (rnS LT len top (at_, fn, fa, na)).2.1 := by
                clear hrv e_39
                first | (exfalso; omega) | (simp [rnS, blS, hnf, hD, h0]; done) | (simp [rnS, blS, hnf, hD, h0]; omega) | (simp [rnS, *]; done)
              have e_41 : ((blS 1 (b : Int) (b, fn, fa, (skipB LT len at_))).1 : Nat) = (rnS LT len top (at_, fn, fa, na)).1 := by
                clear hrv e_39 e_40
                first | (exfalso; omega) | (simp [rnS, blS, hnf, hD, h0]; done) | (simp [rnS, blS, hnf, hD, h0]; omega) | (simp [rnS, *]; done)
              have e_42 : ((blS 1 (b : Int) (b, fn, fa, (skipB LT len at_))).2.2.2 : Nat) = (rnS LT len top (at_, fn, fa, na)).2.2.2 := by
                clear hrv e_39 e_40 e_41
                first | (exfalso; omega) | (simp [rnS, blS, hnf, hD, h0]; done) | (simp [rnS, blS, hnf, hD, h0]; omega) | (simp [rnS, *]; done)
              exact hret _ _ _ _ _ dX5_readNumber_168 (hrv) (hW.conv [1, 0] (w1 := [(tx, .inr (5, [.ref lt, .int (nI len), .int (iI ((blS 1 (b : Int) (b, fn, fa, (skipB LT len at_))).2.2.1)), .int (nI ((blS 1 (b : Int) (b, fn, fa, (skipB LT len at_))).2.1)), .int (nI ((blS 1 (b : Int) (b, fn, fa, (skipB LT len at_))).1)), .int (nI ((blS 1 (b : Int) (b, fn, fa, (skipB LT len at_))).2.2.2)), .int (nI tu), .int (nI pd)])), (lt, .inl (D.2.2.2.1, 220, .inl (nA LT)))]) (w2 := [(tx, .inr (5, [.ref lt, .int (nI len), .int (iI ((rnS LT len top (at_, fn, fa, na)).2.2.1)), .int (nI ((rnS LT len top (at_, fn, fa, na)).2.1)), .int (nI ((rnS LT len top (at_, fn, fa, na)).1)), .int (nI ((rnS LT len top (at_, fn, fa, na)).2.2.2)), .int (nI tu), .int (nI pd)])), (lt, .inl (D.2.2.2.1, 220, .inl (nA LT)))]) rfl rfl (cE (congrArg (fun z => ((tx, .inr (5, z)) : Nat × va_E)) (cE rfl (cE rfl (cE (congrArg Value.int (congrArg (fun z : Int => iI z) e_39)) (cE (congrArg Value.int (congrArg (fun z : Nat => nI z) e_40)) (cE (congrArg Value.int (congrArg (fun z : Nat => nI z) e_41)) (cE (congrArg Value.int (congrArg (fun z : Nat => nI z) e_42)) (cE rfl (cE rfl rfl))))))))) (cE rfl rfl)))
        refine x_icmp_ge_N (a := b) (b := len) (tgt := 106) hx dX5_readNumber_31 (by decide) (by omega) (by omega) (fun h_43 => ?_) (fun h_43 => ?_)
        · exact J106_3 (by first | exact dgE_e (by assumption) | exact dgE_n (by omega)) _ _ hW _ (lv_sub hl [0, 1, 2] rfl)
        · refine x_aload_n hx dX5_readNumber_34 hl 0 rfl ?_
          refine x_get5 hx hW.1 0 rfl 0 (Nat.le_of_ble_eq_true rfl) wf_RX5_9 rfl dX5_readNumber_35 ?_
          refine x_aload_n hx dX5_readNumber_38 hl 0 rfl ?_
          refine x_get5 hx hW.1 0 rfl 4 (Nat.le_of_ble_eq_true rfl) wf_RX5_25 rfl dX5_readNumber_39 ?_
          have hj_42 : b < 220 := by omega
          refine x_cald (v := nI (LT b)) hx hW.1 1 rfl hj_42 (by decide) (rfl) dX5_readNumber_42 ?_
          have b_44 := hLT b hj_42
          refine x_bipush (v := nI 48) hx dX5_readNumber_43 (by decide) ?_
          refine x_icmp_lt_N (a := (LT b)) (b := 48) (tgt := 106) hx dX5_readNumber_45 (by decide) (by omega) (by omega) (fun h_45 => ?_) (fun h_45 => ?_)
          · exact J106_3 (by first | exact dgE_e (by assumption) | exact dgE_n (by omega)) _ _ hW _ (lv_sub hl [0, 1, 2] rfl)
          · refine x_aload_n hx dX5_readNumber_48 hl 0 rfl ?_
            refine x_get5 hx hW.1 0 rfl 0 (Nat.le_of_ble_eq_true rfl) wf_RX5_9 rfl dX5_readNumber_49 ?_
            refine x_aload_n hx dX5_readNumber_52 hl 0 rfl ?_
            refine x_get5 hx hW.1 0 rfl 4 (Nat.le_of_ble_eq_true rfl) wf_RX5_25 rfl dX5_readNumber_53 ?_
            have hj_56 : b < 220 := by omega
            refine x_cald (v := nI (LT b)) hx hW.1 1 rfl hj_56 (by decide) (rfl) dX5_readNumber_56 ?_
            have b_46 := hLT b hj_56
            refine x_bipush (v := nI 57) hx dX5_readNumber_57 (by decide) ?_
            refine x_icmp_gt_N (a := (LT b)) (b := 57) (tgt := 106) hx dX5_readNumber_59 (by decide) (by omega) (by omega) (fun h_47 => ?_) (fun h_47 => ?_)
            · exact J106_3 (by first | exact dgE_e (by assumption) | exact dgE_n (by omega)) _ _ hW _ (lv_sub hl [0, 1, 2] rfl)
            · refine x_aload_n hx dX5_readNumber_62 hl 0 rfl ?_
              refine x_get5 hx hW.1 0 rfl 4 (Nat.le_of_ble_eq_true rfl) wf_RX5_25 rfl dX5_readNumber_63 ?_
              refine x_aload_n hx dX5_readNumber_66 hl 0 rfl ?_
              refine x_get5 hx hW.1 0 rfl 5 (Nat.le_of_ble_eq_true rfl) wf_RX5_28 rfl dX5_readNumber_67 ?_
              refine x_isub (v := nI (b - (skipB LT len at_))) hx dX5_readNumber_70 (pk_sub (by omega)) ?_
              refine x_iconst (v := nI 3) hx dX5_readNumber_71 (by decide) ?_
              refine x_icmp_ge_N (a := (b - (skipB LT len at_))) (b := 3) (tgt := 93) hx dX5_readNumber_72 (by decide) (by omega) (by omega) (fun h_48 => ?_) (fun h_48 => ?_)
              · refine x_aload_n hx dX5_readNumber_93 hl 0 rfl ?_
                refine x_dup hx dX5_readNumber_94 rfl ?_
                refine x_get5 hx hW.1 0 rfl 4 (Nat.le_of_ble_eq_true rfl) wf_RX5_25 rfl dX5_readNumber_95 ?_
                refine x_iconst (v := nI 1) hx dX5_readNumber_98 (by decide) ?_
                refine x_iadd (v := nI (b + 1)) hx dX5_readNumber_99 (nI_add _ _) ?_
                refine x_put5 hx hW 0 rfl 4 (Nat.le_of_ble_eq_true rfl) wf_RX5_25 rfl rfl rfl (Nat.le_of_ble_eq_true rfl) dX5_readNumber_100 [(tx, .inr (5, [.ref lt, .int (nI len), .int (iI fa), .int (nI fn), .int (nI (b + 1)), .int (nI (skipB LT len at_)), .int (nI tu), .int (nI pd)])), (lt, .inl (D.2.2.2.1, 220, .inl (nA LT)))] rfl (fun H locs hW => ?_)
                refine x_goto (tgt := 23) hx dX5_readNumber_103 (by decide) ?_
                have e_49 : (dvN LT (skipB LT len at_) (min (b - skipB LT len at_) 3) : Nat) = dvN LT (skipB LT len at_) (min ((b + 1) - skipB LT len at_) 3) := by
                  first | (simp [dvN]; done) | (rw [show min (b + 1 - skipB LT len at_) 3 = min (b - skipB LT len at_) 3 by omega]; done) | (rw [show min (b + 1 - skipB LT len at_) 3 = min (b - skipB LT len at_) 3 + 1 by omega, dvN, show skipB LT len at_ + min (b - skipB LT len at_) 3 = b by omega]; omega)
                have e_50 : (b + 1 : Nat) = (b + 1) := by
                  clear e_49
                  first | rfl | omega | (simp [*]; done) | (simp [*]; omega)
                exact ihL23_2 (b + 1) (by first | assumption | omega | (simp [*]; done)) (by first | assumption | omega | (simp [*]; done)) (by first | rfl | exact h3.trans (dgE_y (by assumption) ⟨by assumption, by assumption⟩)) (by omega) _ _ (hW.conv [0, 1] (w1 := [(tx, .inr (5, [.ref lt, .int (nI len), .int (iI fa), .int (nI fn), .int (nI (b + 1)), .int (nI (skipB LT len at_)), .int (nI tu), .int (nI pd)])), (lt, .inl (D.2.2.2.1, 220, .inl (nA LT)))]) (w2 := [(tx, .inr (5, [.ref lt, .int (nI len), .int (iI fa), .int (nI fn), .int (nI (b + 1)), .int (nI (skipB LT len at_)), .int (nI tu), .int (nI pd)])), (lt, .inl (D.2.2.2.1, 220, .inl (nA LT)))]) rfl rfl (cE (congrArg (fun z => ((tx, .inr (5, z)) : Nat × va_E)) (cE rfl (cE rfl (cE rfl (cE rfl (cE (congrArg Value.int (congrArg (fun z : Nat => nI z) e_50)) (cE rfl (cE rfl (cE rfl rfl))))))))) (cE rfl rfl))) _ (lv_to (l := [(0, .ref tx), (1, .int (nI top)), (2, .int (nI (dvN LT (skipB LT len at_) (min (b - skipB LT len at_) 3))))]) (l2 := [(0, .ref tx), (1, .int (nI top)), (2, .int (nI (dvN LT (skipB LT len at_) (min ((b + 1) - skipB LT len at_) 3))))]) (lv_sub hl [0, 1, 2] rfl) (cE rfl (cE rfl (cE (congrArg (fun z => ((2, Value.int z) : Nat × Value)) (congrArg (fun z : Nat => nI z) e_49)) rfl))))
              · refine x_bipush (v := nI 10) hx dX5_readNumber_75 (by decide) ?_
                refine x_iload_n hx dX5_readNumber_77 hl 2 rfl ?_
                refine x_imul (v := nI (10 * (dvN LT (skipB LT len at_) (min (b - skipB LT len at_) 3)))) hx dX5_readNumber_78 (pk_mul _ _) ?_
                refine x_aload_n hx dX5_readNumber_79 hl 0 rfl ?_
                refine x_get5 hx hW.1 0 rfl 0 (Nat.le_of_ble_eq_true rfl) wf_RX5_9 rfl dX5_readNumber_80 ?_
                refine x_aload_n hx dX5_readNumber_83 hl 0 rfl ?_
                refine x_get5 hx hW.1 0 rfl 4 (Nat.le_of_ble_eq_true rfl) wf_RX5_25 rfl dX5_readNumber_84 ?_
                have hj_87 : b < 220 := by omega
                refine x_cald (v := nI (LT b)) hx hW.1 1 rfl hj_87 (by decide) (rfl) dX5_readNumber_87 ?_
                have b_51 := hLT b hj_87
                refine x_iadd (v := nI ((10 * (dvN LT (skipB LT len at_) (min (b - skipB LT len at_) 3))) + (LT b))) hx dX5_readNumber_88 (nI_add _ _) ?_
                refine x_bipush (v := nI 48) hx dX5_readNumber_89 (by decide) ?_
                refine x_isub (v := nI (((10 * (dvN LT (skipB LT len at_) (min (b - skipB LT len at_) 3))) + (LT b)) - 48)) hx dX5_readNumber_91 (pk_sub (by omega)) ?_
                refine x_istore_n (lv' := [(2, .int (nI (((10 * (dvN LT (skipB LT len at_) (min (b - skipB LT len at_) 3))) + (LT b)) - 48))), (0, .ref tx), (1, .int (nI top))]) hx dX5_readNumber_92 hl (Nat.le_of_ble_eq_true rfl) rfl (fun ls hl => ?_)
                refine x_aload_n hx dX5_readNumber_93 hl 1 rfl ?_
                refine x_dup hx dX5_readNumber_94 rfl ?_
                refine x_get5 hx hW.1 0 rfl 4 (Nat.le_of_ble_eq_true rfl) wf_RX5_25 rfl dX5_readNumber_95 ?_
                refine x_iconst (v := nI 1) hx dX5_readNumber_98 (by decide) ?_
                refine x_iadd (v := nI (b + 1)) hx dX5_readNumber_99 (nI_add _ _) ?_
                refine x_put5 hx hW 0 rfl 4 (Nat.le_of_ble_eq_true rfl) wf_RX5_25 rfl rfl rfl (Nat.le_of_ble_eq_true rfl) dX5_readNumber_100 [(tx, .inr (5, [.ref lt, .int (nI len), .int (iI fa), .int (nI fn), .int (nI (b + 1)), .int (nI (skipB LT len at_)), .int (nI tu), .int (nI pd)])), (lt, .inl (D.2.2.2.1, 220, .inl (nA LT)))] rfl (fun H locs hW => ?_)
                refine x_goto (tgt := 23) hx dX5_readNumber_103 (by decide) ?_
                have e_52 : (((10 * (dvN LT (skipB LT len at_) (min (b - skipB LT len at_) 3))) + (LT b)) - 48 : Nat) = dvN LT (skipB LT len at_) (min ((b + 1) - skipB LT len at_) 3) := by
                  first | (simp [dvN]; done) | (rw [show min (b + 1 - skipB LT len at_) 3 = min (b - skipB LT len at_) 3 by omega]; done) | (rw [show min (b + 1 - skipB LT len at_) 3 = min (b - skipB LT len at_) 3 + 1 by omega, dvN, show skipB LT len at_ + min (b - skipB LT len at_) 3 = b by omega]; omega)
                have e_53 : (b + 1 : Nat) = (b + 1) := by
                  clear e_52
                  first | rfl | omega | (simp [*]; done) | (simp [*]; omega)
                exact ihL23_2 (b + 1) (by first | assumption | omega | (simp [*]; done)) (by first | assumption | omega | (simp [*]; done)) (by first | rfl | exact h3.trans (dgE_y (by assumption) ⟨by assumption, by assumption⟩)) (by omega) _ _ (hW.conv [0, 1] (w1 := [(tx, .inr (5, [.ref lt, .int (nI len), .int (iI fa), .int (nI fn), .int (nI (b + 1)), .int (nI (skipB LT len at_)), .int (nI tu), .int (nI pd)])), (lt, .inl (D.2.2.2.1, 220, .inl (nA LT)))]) (w2 := [(tx, .inr (5, [.ref lt, .int (nI len), .int (iI fa), .int (nI fn), .int (nI (b + 1)), .int (nI (skipB LT len at_)), .int (nI tu), .int (nI pd)])), (lt, .inl (D.2.2.2.1, 220, .inl (nA LT)))]) rfl rfl (cE (congrArg (fun z => ((tx, .inr (5, z)) : Nat × va_E)) (cE rfl (cE rfl (cE rfl (cE rfl (cE (congrArg Value.int (congrArg (fun z : Nat => nI z) e_53)) (cE rfl (cE rfl (cE rfl rfl))))))))) (cE rfl rfl))) _ (lv_to (l := [(0, .ref tx), (1, .int (nI top)), (2, .int (nI (((10 * (dvN LT (skipB LT len at_) (min (b - skipB LT len at_) 3))) + (LT b)) - 48)))]) (l2 := [(0, .ref tx), (1, .int (nI top)), (2, .int (nI (dvN LT (skipB LT len at_) (min ((b + 1) - skipB LT len at_) 3))))]) (lv_sub hl [1, 2, 0] rfl) (cE rfl (cE rfl (cE (congrArg (fun z => ((2, Value.int z) : Nat × Value)) (congrArg (fun z : Nat => nI z) e_52)) rfl))))
    have e_54 : (0 : Nat) = dvN LT (skipB LT len at_) (min ((skipB LT len at_) - skipB LT len at_) 3) := by
      first | (simp [dvN]; done) | (rw [show min (b + 1 - skipB LT len at_) 3 = min (b - skipB LT len at_) 3 by omega]; done) | (rw [show min (b + 1 - skipB LT len at_) 3 = min (b - skipB LT len at_) 3 + 1 by omega, dvN, show skipB LT len at_ + min (b - skipB LT len at_) 3 = b by omega]; omega)
    have e_55 : (skipB LT len at_ : Nat) = (skipB LT len at_) := by
      clear e_54
      first | rfl | omega | (simp [*]; done) | (simp [*]; omega)
    exact L23_2 (len - (skipB LT len at_) + 1) (skipB LT len at_) (by first | assumption | omega | (simp [*]; done)) (by first | assumption | omega | (simp [*]; done)) (by first | rfl | exact h3.trans (dgE_y (by assumption) ⟨by assumption, by assumption⟩)) (Nat.lt_succ_self _) _ _ (hW.conv [0, 1] (w1 := [(tx, .inr (5, [.ref lt, .int (nI len), .int (iI fa), .int (nI fn), .int (nI (skipB LT len at_)), .int (nI (skipB LT len at_)), .int (nI tu), .int (nI pd)])), (lt, .inl (D.2.2.2.1, 220, .inl (nA LT)))]) (w2 := [(tx, .inr (5, [.ref lt, .int (nI len), .int (iI fa), .int (nI fn), .int (nI (skipB LT len at_)), .int (nI (skipB LT len at_)), .int (nI tu), .int (nI pd)])), (lt, .inl (D.2.2.2.1, 220, .inl (nA LT)))]) rfl rfl (cE (congrArg (fun z => ((tx, .inr (5, z)) : Nat × va_E)) (cE rfl (cE rfl (cE rfl (cE rfl (cE (congrArg Value.int (congrArg (fun z : Nat => nI z) e_55)) (cE rfl (cE rfl (cE rfl rfl))))))))) (cE rfl rfl))) _ (lv_to (l := [(0, .ref tx), (1, .int (nI top)), (2, .int (nI 0))]) (l2 := [(0, .ref tx), (1, .int (nI top)), (2, .int (nI (dvN LT (skipB LT len at_) (min ((skipB LT len at_) - skipB LT len at_) 3))))]) (lv_sub hl [1, 2, 0] rfl) (cE rfl (cE rfl (cE (congrArg (fun z => ((2, Value.int z) : Nat × Value)) (congrArg (fun z : Nat => nI z) e_54)) rfl))))
  · refine x_iconst (v := nI 0) hx dX5_readNumber_7 (by decide) ?_
    have hrv : nI 0 = nI (rnV LT len top (at_, fn, fa, na)) := by first | (exfalso; omega) | (simp [rnV, nval, hnf, hD, h0]; done) | (simp [rnV, *]; done)
    have e_56 : (fa : Int) = (rnS LT len top (at_, fn, fa, na)).2.2.1 := by
      clear hrv
      first | (exfalso; omega) | (simp [rnS, blS, hnf, hD, h0]; done) | (simp [rnS, blS, hnf, hD, h0]; omega) | (simp [rnS, *]; done)
    have e_57 : (fn : Nat) = (rnS LT len top (at_, fn, fa, na)).2.1 := by
      clear hrv e_56
      first | (exfalso; omega) | (simp [rnS, blS, hnf, hD, h0]; done) | (simp [rnS, blS, hnf, hD, h0]; omega) | (simp [rnS, *]; done)
    have e_58 : (at_ : Nat) = (rnS LT len top (at_, fn, fa, na)).1 := by
      clear hrv e_56 e_57
      first | (exfalso; omega) | (simp [rnS, blS, hnf, hD, h0]; done) | (simp [rnS, blS, hnf, hD, h0]; omega) | (simp [rnS, *]; done)
    have e_59 : (na : Nat) = (rnS LT len top (at_, fn, fa, na)).2.2.2 := by
      clear hrv e_56 e_57 e_58
      first | (exfalso; omega) | (simp [rnS, blS, hnf, hD, h0]; done) | (simp [rnS, blS, hnf, hD, h0]; omega) | (simp [rnS, *]; done)
    exact hret _ _ _ _ _ dX5_readNumber_8 (hrv) (hW.conv [0, 1] (w1 := [(tx, .inr (5, [.ref lt, .int (nI len), .int (iI fa), .int (nI fn), .int (nI at_), .int (nI na), .int (nI tu), .int (nI pd)])), (lt, .inl (D.2.2.2.1, 220, .inl (nA LT)))]) (w2 := [(tx, .inr (5, [.ref lt, .int (nI len), .int (iI ((rnS LT len top (at_, fn, fa, na)).2.2.1)), .int (nI ((rnS LT len top (at_, fn, fa, na)).2.1)), .int (nI ((rnS LT len top (at_, fn, fa, na)).1)), .int (nI ((rnS LT len top (at_, fn, fa, na)).2.2.2)), .int (nI tu), .int (nI pd)])), (lt, .inl (D.2.2.2.1, 220, .inl (nA LT)))]) rfl rfl (cE (congrArg (fun z => ((tx, .inr (5, z)) : Nat × va_E)) (cE rfl (cE rfl (cE (congrArg Value.int (congrArg (fun z : Int => iI z) e_56)) (cE (congrArg Value.int (congrArg (fun z : Nat => nI z) e_57)) (cE (congrArg Value.int (congrArg (fun z : Nat => nI z) e_58)) (cE (congrArg Value.int (congrArg (fun z : Nat => nI z) e_59)) (cE rfl (cE rfl rfl))))))))) (cE rfl rfl)))
