def tS1 (tu : Nat) (s : TS) : TS := rwS (decide (4 ≤ tu)) s
def tA (LT : Nat → Nat) (len tu : Nat) (s : TS) : Nat := rnV LT len 9 (tS1 tu s)
def tS2 (LT : Nat → Nat) (len tu : Nat) (s : TS) : TS := rnS LT len 9 (tS1 tu s)
def tS3 (LT : Nat → Nat) (len : Nat) (TV : Nat → Nat) (tu : Nat) (s : TS) : TS := if TV (tA LT len tu s) = tA LT len tu s then tS2 LT len tu s else blS 4 (tS2 LT len tu s).2.2.2 (tS2 LT len tu s)
def tB (LT : Nat → Nat) (len : Nat) (TV : Nat → Nat) (tu : Nat) (s : TS) : Nat := rnV LT len 9 (tS3 LT len TV tu s)
def tS4 (LT : Nat → Nat) (len : Nat) (TV : Nat → Nat) (tu : Nat) (s : TS) : TS := rnS LT len 9 (tS3 LT len TV tu s)
def tS5 (LT : Nat → Nat) (len : Nat) (TV : Nat → Nat) (tu : Nat) (s : TS) : TS := if tB LT len TV tu s = tA LT len tu s ∨ ¬ TV (tB LT len TV tu s) = tB LT len TV tu s then blS 4 (tS4 LT len TV tu s).2.2.2 (tS4 LT len TV tu s) else tS4 LT len TV tu s
def tS6 (LT : Nat → Nat) (len : Nat) (TV : Nat → Nat) (tu : Nat) (s : TS) : TS := reS LT len (tS5 LT len TV tu s)
def pS2 (LT : Nat → Nat) (len : Nat) (s : TS) : TS := rnS LT len 9 (rwS false s)
def pA (LT : Nat → Nat) (len : Nat) (s : TS) : Nat := rnV LT len 9 (rwS false s)
def pS3 (LT : Nat → Nat) (len pd : Nat) (s : TS) : TS := if pd.testBit (pA LT len s) = true then blS 4 (pS2 LT len s).2.2.2 (pS2 LT len s) else pS2 LT len s
def pB (LT : Nat → Nat) (len pd : Nat) (s : TS) : Nat := rnV LT len 99 (pS3 LT len pd s)
def pS5 (LT : Nat → Nat) (len pd : Nat) (s : TS) : TS := reS LT len (rnS LT len 99 (pS3 LT len pd s))
theorem sel_t {b : Bool} {f g : Nat → Nat} (h : b = true) (k : Nat) : selN b f g k = f k := by rw [selN, if_pos h]
theorem sel_f {b : Bool} {f g : Nat → Nat} (h : b = false) (k : Nat) : selN b f g k = g k := by rw [selN, h]; rfl
set_option maxHeartbeats 4000000 in
set_option maxRecDepth 100000 in
theorem c_X5_readTurn (l : Launch) (D : KD) (tx : Nat) (lt : Nat) (len : Nat) (fa : Int) (fn : Nat) (at_ : Nat) (na : Nat) (tu : Nat) (pd : Nat) (LT : Nat → Nat) (tb : Nat) (thd : Bool) (tlo : Nat) (te : Nat) (thn : Bool) (tcu : Nat) (tsc : Nat) (tfg : Nat) (ttv : Nat) (tpr : Nat) (tTV : Nat → Nat) (hlen : len ≤ 220) (hat : at_ ≤ len) (hLT : ∀ k, k < 220 → LT k < 256) (hfn : fn ≤ 4) (hfa : -1 ≤ fa ∧ fa ≤ 220) (hna : na ≤ 220) (hatl : at_ < len) (htTV : ∀ k, k < 10 → tTV k < 10) (htu : tu ≤ 4) : cV l yX5_readTurn cX5_readTurn 4 rm_X5_readTurn D [(tx, .inr (5, [.ref lt, .int (nI len), .int (iI fa), .int (nI fn), .int (nI at_), .int (nI na), .int (nI tu), .int (nI pd)])), (lt, .inl (D.2.2.2.1, 220, .inl (nA LT))), (tb, .inr (0, [.int (nI thd.toNat), .int (nI tlo), .int (iI ((te : Int) - 1)), .int (nI thn.toNat), .int (nI tcu), .ref tsc, .ref tfg, .ref ttv, .ref tpr])), (ttv, .inl (D.2.1, 10, .inl (nA tTV)))] [.ref tx, .ref tb] [(tx, .inr (5, [.ref lt, .int (nI len), .int (iI ((tS6 LT len tTV tu (at_, fn, fa, na)).2.2.1)), .int (nI ((tS6 LT len tTV tu (at_, fn, fa, na)).2.1)), .int (nI ((tS6 LT len tTV tu (at_, fn, fa, na)).1)), .int (nI ((tS6 LT len tTV tu (at_, fn, fa, na)).2.2.2)), .int (nI (pk (decide ((tS6 LT len tTV tu (at_, fn, fa, na)).2.1 = 0)) (tu + 1) tu)), .int (nI pd)])), (lt, .inl (D.2.2.2.1, 220, .inl (nA LT))), (tb, .inr (0, [.int (nI thd.toNat), .int (nI tlo), .int (iI ((te : Int) - 1)), .int (nI thn.toNat), .int (nI tcu), .ref tsc, .ref tfg, .ref ttv, .ref tpr])), (ttv, .inl (D.2.1, 10, .inl (nA (selN (decide ((tS6 LT len tTV tu (at_, fn, fa, na)).2.1 = 0)) (va_up (va_up tTV (tA LT len tu (at_, fn, fa, na)) (tB LT len tTV tu (at_, fn, fa, na))) (tB LT len tTV tu (at_, fn, fa, na)) (tA LT len tu (at_, fn, fa, na))) tTV))))] := by
  refine cV.mk (by decide) (Nat.le_of_ble_eq_true rfl) ?_
  intro X A hx hL hA hW hret ls hl
  subst hL
  have hl : lv_has ls 4 [(0, .ref tx), (1, .ref tb)] := hl
  have ho_0 : tsOk len (at_, fn, fa, na) := ⟨by simp only; omega, by simp only; omega, by simp only; omega, by simp only; omega, by simp only; omega⟩
  refine x_aload_n hx dX5_readTurn_0 hl 0 rfl ?_
  refine x_aload_n hx dX5_readTurn_1 hl 0 rfl ?_
  refine x_get5 hx hW.1 0 rfl 6 (Nat.le_of_ble_eq_true rfl) wf_RX5_31 rfl dX5_readTurn_2 ?_
  refine x_iconst (v := nI 4) hx dX5_readTurn_5 (by decide) ?_
  have J14_1 : ∀ (bb : Bool), (bb = decide (4 ≤ tu)) → ∀ (H : Heap) (locs : List Loc), Wd X D A [(tx, .inr (5, [.ref lt, .int (nI len), .int (iI fa), .int (nI fn), .int (nI at_), .int (nI na), .int (nI tu), .int (nI pd)])), (lt, .inl (D.2.2.2.1, 220, .inl (nA LT))), (tb, .inr (0, [.int (nI thd.toNat), .int (nI tlo), .int (iI ((te : Int) - 1)), .int (nI thn.toNat), .int (nI tcu), .ref tsc, .ref tfg, .ref ttv, .ref tpr])), (ttv, .inl (D.2.1, 10, .inl (nA tTV)))] H locs → ∀ ls : Array Slot, lv_has ls 4 [(0, .ref tx), (1, .ref tb)] → Wx X 0 0 H locs 14 ls [.int (nI bb.toNat), .ref tx] := by
    intro bb hbb H locs hW ls hl
    obtain ⟨s1, hs1⟩ : ∃ z : TS, z = rwS bb (at_, fn, fa, na) := ⟨_, rfl⟩
    refine x_callVV (As := [.int (nI bb.toNat)]) (rest := []) (wr := [(lt, .inl (D.2.2.2.1, 220, .inl (nA LT))), (tb, .inr (0, [.int (nI thd.toNat), .int (nI tlo), .int (iI ((te : Int) - 1)), .int (nI thn.toNat), .int (nI tcu), .ref tsc, .ref tfg, .ref ttv, .ref tpr])), (ttv, .inl (D.2.1, 10, .inl (nA tTV)))]) hx yv_X5_readWord (c_X5_readWord _ D tx lt len fa fn at_ na tu pd bb (by first | assumption | omega | (simp [*]; done))) wm_RX5_80 hA hW [0] [1, 2, 3] rfl rfl rfl rfl rfl 0 rfl rfl ⟨rfl, rfl⟩ ⟨Nat.le_of_ble_eq_true rfl, Nat.le_of_ble_eq_true rfl⟩ ⟨Nat.zero_le _, Nat.zero_le _⟩ hl rfl rfl (Nat.le_of_ble_eq_true rfl) dX5_readTurn_14 [(lt, .inl (D.2.2.2.1, 220, .inl (nA LT))), (tb, .inr (0, [.int (nI thd.toNat), .int (nI tlo), .int (iI ((te : Int) - 1)), .int (nI thn.toNat), .int (nI tcu), .ref tsc, .ref tfg, .ref ttv, .ref tpr])), (ttv, .inl (D.2.1, 10, .inl (nA tTV))), (tx, .inr (5, [.ref lt, .int (nI len), .int (iI s1.2.2.1), .int (nI s1.2.1), .int (nI s1.1), .int (nI s1.2.2.2), .int (nI tu), .int (nI pd)]))] (by subst hs1; rfl) (fun H locs hW => ?_)
    have ho_s1 : tsOk len s1 := by rw [hs1]; exact rwS_ok hlen ho_0 (by simp only; omega)
    obtain ⟨ho_s1a, ho_s1b, ho_s1c, ho_s1d, ho_s1e⟩ := ho_s1
    have ho_s1 : tsOk len s1 := ⟨ho_s1a, ho_s1b, ho_s1c, ho_s1d, ho_s1e⟩
    have hS1 : s1 = tS1 tu (at_, fn, fa, na) := by rw [tS1, ← hbb]; exact hs1
    refine x_aload_n hx dX5_readTurn_17 hl 0 rfl ?_
    refine x_bipush (v := nI 9) hx dX5_readTurn_18 (by decide) ?_
    obtain ⟨s2, hs2⟩ : ∃ z : TS, z = rnS LT len 9 s1 := ⟨_, rfl⟩
    refine x_callMV (As := [.int (nI 9)]) (rest := []) (wr := [(tb, .inr (0, [.int (nI thd.toNat), .int (nI tlo), .int (iI ((te : Int) - 1)), .int (nI thn.toNat), .int (nI tcu), .ref tsc, .ref tfg, .ref ttv, .ref tpr])), (ttv, .inl (D.2.1, 10, .inl (nA tTV)))]) hx yv_X5_readNumber (c_X5_readNumber _ D tx lt len s1.2.2.1 s1.2.1 s1.1 s1.2.2.2 tu pd LT 9 (by first | assumption | omega | (simp [*]; done)) (by first | assumption | omega | (simp [*]; done)) (by first | assumption | omega | (simp [*]; done)) (by first | assumption | omega | (simp [*]; done)) (by first | assumption | omega | (simp [*]; done))) wm_RX5_84 hA hW [3, 0] [1, 2] rfl rfl rfl rfl rfl 3 rfl rfl ⟨rfl, rfl⟩ ⟨Nat.le_of_ble_eq_true rfl, Nat.le_of_ble_eq_true rfl⟩ ⟨Nat.zero_le _, Nat.zero_le _⟩ hl rfl rfl (Nat.le_of_ble_eq_true rfl) dX5_readTurn_20 [(tb, .inr (0, [.int (nI thd.toNat), .int (nI tlo), .int (iI ((te : Int) - 1)), .int (nI thn.toNat), .int (nI tcu), .ref tsc, .ref tfg, .ref ttv, .ref tpr])), (ttv, .inl (D.2.1, 10, .inl (nA tTV))), (tx, .inr (5, [.ref lt, .int (nI len), .int (iI s2.2.2.1), .int (nI s2.2.1), .int (nI s2.1), .int (nI s2.2.2.2), .int (nI tu), .int (nI pd)])), (lt, .inl (D.2.2.2.1, 220, .inl (nA LT)))] (by subst hs2; rfl) (fun H locs hW => ?_)
    obtain ⟨v1, hv1⟩ : ∃ z : Nat, z = rnV LT len 9 s1 := ⟨_, rfl⟩
    have hle_v1 : v1 ≤ 9 := by rw [hv1]; exact rnV_le
    refine x_top (u := nI v1) (congrArg nI hv1.symm) ?_
    have hvA : v1 = tA LT len tu (at_, fn, fa, na) := by rw [tA, ← hS1]; exact hv1
    have ho_s2 : tsOk len s2 := by rw [hs2]; exact rnS_ok hlen ho_s1
    obtain ⟨ho_s2a, ho_s2b, ho_s2c, ho_s2d, ho_s2e⟩ := ho_s2
    have ho_s2 : tsOk len s2 := ⟨ho_s2a, ho_s2b, ho_s2c, ho_s2d, ho_s2e⟩
    have hS2 : s2 = tS2 LT len tu (at_, fn, fa, na) := by rw [tS2, ← hS1]; exact hs2
    refine x_istore_n (lv' := [(2, .int (nI v1)), (0, .ref tx), (1, .ref tb)]) hx dX5_readTurn_23 hl (Nat.le_of_ble_eq_true rfl) rfl (fun ls hl => ?_)
    refine x_aload_n hx dX5_readTurn_24 hl 2 rfl ?_
    refine x_get0 hx hW.1 0 rfl 7 (Nat.le_of_ble_eq_true rfl) wf_RX5_114 rfl dX5_readTurn_25 ?_
    refine x_iload_n hx dX5_readTurn_28 hl 0 rfl ?_
    have hj_29 : v1 < 10 := by omega
    refine x_iald (v := nI (tTV v1)) hx hW.1 1 rfl hj_29 (by decide) (rfl) dX5_readTurn_29 ?_
    have b_2 := htTV v1 hj_29
    refine x_iload_n hx dX5_readTurn_30 hl 0 rfl ?_
    refine x_icmp_eq_N (a := (tTV v1)) (b := v1) (tgt := 43) hx dX5_readTurn_31 (by decide) (by omega) (by omega) (fun h_3 => ?_) (fun h_3 => ?_)
    · have hS3 : s2 = tS3 LT len tTV tu (at_, fn, fa, na) := by rw [tS3, ← hvA, if_pos (by assumption)]; exact hS2
      refine x_aload_n hx dX5_readTurn_43 hl 1 rfl ?_
      refine x_bipush (v := nI 9) hx dX5_readTurn_44 (by decide) ?_
      obtain ⟨s4, hs4⟩ : ∃ z : TS, z = rnS LT len 9 s2 := ⟨_, rfl⟩
      refine x_callMV (As := [.int (nI 9)]) (rest := []) (wr := [(tb, .inr (0, [.int (nI thd.toNat), .int (nI tlo), .int (iI ((te : Int) - 1)), .int (nI thn.toNat), .int (nI tcu), .ref tsc, .ref tfg, .ref ttv, .ref tpr])), (ttv, .inl (D.2.1, 10, .inl (nA tTV)))]) hx yv_X5_readNumber (c_X5_readNumber _ D tx lt len s2.2.2.1 s2.2.1 s2.1 s2.2.2.2 tu pd LT 9 (by first | assumption | omega | (simp [*]; done)) (by first | assumption | omega | (simp [*]; done)) (by first | assumption | omega | (simp [*]; done)) (by first | assumption | omega | (simp [*]; done)) (by first | assumption | omega | (simp [*]; done))) wm_RX5_84 hA hW [2, 3] [0, 1] rfl rfl rfl rfl rfl 2 rfl rfl ⟨rfl, rfl⟩ ⟨Nat.le_of_ble_eq_true rfl, Nat.le_of_ble_eq_true rfl⟩ ⟨Nat.zero_le _, Nat.zero_le _⟩ hl rfl rfl (Nat.le_of_ble_eq_true rfl) dX5_readTurn_46 [(tb, .inr (0, [.int (nI thd.toNat), .int (nI tlo), .int (iI ((te : Int) - 1)), .int (nI thn.toNat), .int (nI tcu), .ref tsc, .ref tfg, .ref ttv, .ref tpr])), (ttv, .inl (D.2.1, 10, .inl (nA tTV))), (tx, .inr (5, [.ref lt, .int (nI len), .int (iI s4.2.2.1), .int (nI s4.2.1), .int (nI s4.1), .int (nI s4.2.2.2), .int (nI tu), .int (nI pd)])), (lt, .inl (D.2.2.2.1, 220, .inl (nA LT)))] (by subst hs4; rfl) (fun H locs hW => ?_)
      obtain ⟨v2, hv2⟩ : ∃ z : Nat, z = rnV LT len 9 s2 := ⟨_, rfl⟩
      have hle_v2 : v2 ≤ 9 := by rw [hv2]; exact rnV_le
      refine x_top (u := nI v2) (congrArg nI hv2.symm) ?_
      have hvB : v2 = tB LT len tTV tu (at_, fn, fa, na) := by rw [tB, ← hS3]; exact hv2
      have ho_s4 : tsOk len s4 := by rw [hs4]; exact rnS_ok hlen ho_s2
      obtain ⟨ho_s4a, ho_s4b, ho_s4c, ho_s4d, ho_s4e⟩ := ho_s4
      have ho_s4 : tsOk len s4 := ⟨ho_s4a, ho_s4b, ho_s4c, ho_s4d, ho_s4e⟩
      have hS4 : s4 = tS4 LT len tTV tu (at_, fn, fa, na) := by rw [tS4, ← hS3]; exact hs4
      refine x_istore_n (lv' := [(3, .int (nI v2)), (2, .int (nI v1)), (0, .ref tx), (1, .ref tb)]) hx dX5_readTurn_49 hl (Nat.le_of_ble_eq_true rfl) rfl (fun ls hl => ?_)
      refine x_iload_n hx dX5_readTurn_50 hl 0 rfl ?_
      refine x_iload_n hx dX5_readTurn_51 hl 1 rfl ?_
      refine x_icmp_eq_N (a := v2) (b := v1) (tgt := 65) hx dX5_readTurn_52 (by decide) (by omega) (by omega) (fun h_4 => ?_) (fun h_4 => ?_)
      · refine x_aload_n hx dX5_readTurn_65 hl 2 rfl ?_
        refine x_iconst (v := nI 4) hx dX5_readTurn_66 (by decide) ?_
        refine x_aload_n hx dX5_readTurn_67 hl 2 rfl ?_
        refine x_get5 hx hW.1 2 rfl 5 (Nat.le_of_ble_eq_true rfl) wf_RX5_28 rfl dX5_readTurn_68 ?_
        obtain ⟨s5, hs5⟩ : ∃ z : TS, z = blS 4 s4.2.2.2 s4 := ⟨_, rfl⟩
        refine x_callVV (As := [.int (nI 4), .int (nI s4.2.2.2)]) (rest := []) (wr := [(tb, .inr (0, [.int (nI thd.toNat), .int (nI tlo), .int (iI ((te : Int) - 1)), .int (nI thn.toNat), .int (nI tcu), .ref tsc, .ref tfg, .ref ttv, .ref tpr])), (ttv, .inl (D.2.1, 10, .inl (nA tTV))), (lt, .inl (D.2.2.2.1, 220, .inl (nA LT)))]) hx yv_X5_blame (c_X5_blame _ D tx lt len s4.2.2.1 s4.2.1 s4.1 s4.2.2.2 tu pd 4 (s4.2.2.2 : Int) (by first | assumption | omega | (simp [*]; done))) wm_RX5_67 hA hW [2] [0, 1, 3] rfl rfl rfl rfl rfl 2 rfl rfl ⟨rfl, rfl⟩ ⟨Nat.le_of_ble_eq_true rfl, Nat.le_of_ble_eq_true rfl⟩ ⟨Nat.zero_le _, Nat.zero_le _⟩ hl rfl rfl (Nat.le_of_ble_eq_true rfl) dX5_readTurn_71 [(tb, .inr (0, [.int (nI thd.toNat), .int (nI tlo), .int (iI ((te : Int) - 1)), .int (nI thn.toNat), .int (nI tcu), .ref tsc, .ref tfg, .ref ttv, .ref tpr])), (ttv, .inl (D.2.1, 10, .inl (nA tTV))), (lt, .inl (D.2.2.2.1, 220, .inl (nA LT))), (tx, .inr (5, [.ref lt, .int (nI len), .int (iI s5.2.2.1), .int (nI s5.2.1), .int (nI s5.1), .int (nI s5.2.2.2), .int (nI tu), .int (nI pd)]))] (by subst hs5; rfl) (fun H locs hW => ?_)
        have ho_s5 : tsOk len s5 := by rw [hs5]; exact blS_ok (by decide) (by omega) ho_s4
        obtain ⟨ho_s5a, ho_s5b, ho_s5c, ho_s5d, ho_s5e⟩ := ho_s5
        have ho_s5 : tsOk len s5 := ⟨ho_s5a, ho_s5b, ho_s5c, ho_s5d, ho_s5e⟩
        have hS5 : s5 = tS5 LT len tTV tu (at_, fn, fa, na) := by rw [tS5, ← hvA, ← hvB, if_pos (by first | exact Or.inl (by assumption) | exact Or.inr (by assumption)), ← hS4]; exact hs5
        refine x_aload_n hx dX5_readTurn_74 hl 2 rfl ?_
        obtain ⟨s6, hs6⟩ : ∃ z : TS, z = reS LT len s5 := ⟨_, rfl⟩
        refine x_callVV (As := []) (rest := []) (wr := [(tb, .inr (0, [.int (nI thd.toNat), .int (nI tlo), .int (iI ((te : Int) - 1)), .int (nI thn.toNat), .int (nI tcu), .ref tsc, .ref tfg, .ref ttv, .ref tpr])), (ttv, .inl (D.2.1, 10, .inl (nA tTV)))]) hx yv_X5_readEnd (c_X5_readEnd _ D tx lt len s5.2.2.1 s5.2.1 s5.1 s5.2.2.2 tu pd LT (by first | assumption | omega | (simp [*]; done)) (by first | assumption | omega | (simp [*]; done)) (by first | assumption | omega | (simp [*]; done)) (by first | assumption | omega | (simp [*]; done))) wm_RX5_88 hA hW [3, 2] [0, 1] rfl rfl rfl rfl rfl 3 rfl rfl ⟨rfl, rfl⟩ ⟨Nat.le_of_ble_eq_true rfl, Nat.le_of_ble_eq_true rfl⟩ ⟨Nat.zero_le _, Nat.zero_le _⟩ hl rfl rfl (Nat.le_of_ble_eq_true rfl) dX5_readTurn_75 [(tb, .inr (0, [.int (nI thd.toNat), .int (nI tlo), .int (iI ((te : Int) - 1)), .int (nI thn.toNat), .int (nI tcu), .ref tsc, .ref tfg, .ref ttv, .ref tpr])), (ttv, .inl (D.2.1, 10, .inl (nA tTV))), (tx, .inr (5, [.ref lt, .int (nI len), .int (iI s6.2.2.1), .int (nI s6.2.1), .int (nI s6.1), .int (nI s6.2.2.2), .int (nI tu), .int (nI pd)])), (lt, .inl (D.2.2.2.1, 220, .inl (nA LT)))] (by subst hs6; rfl) (fun H locs hW => ?_)
        have ho_s6 : tsOk len s6 := by rw [hs6]; exact reS_ok hlen ho_s5
        obtain ⟨ho_s6a, ho_s6b, ho_s6c, ho_s6d, ho_s6e⟩ := ho_s6
        have ho_s6 : tsOk len s6 := ⟨ho_s6a, ho_s6b, ho_s6c, ho_s6d, ho_s6e⟩
        have hS6 : s6 = tS6 LT len tTV tu (at_, fn, fa, na) := by rw [tS6, ← hS5]; exact hs6
        refine x_aload_n hx dX5_readTurn_78 hl 2 rfl ?_
        refine x_get5 hx hW.1 2 rfl 3 (Nat.le_of_ble_eq_true rfl) wf_RX5_22 rfl dX5_readTurn_79 ?_
        refine x_if_ne_N (a := s6.2.1) (tgt := 109) hx dX5_readTurn_82 (by decide) (by omega) (fun h_5 => ?_) (fun h_5 => ?_)
        · have e_6 : ∀ k, k < 10 → (tTV) k = (selN (decide ((tS6 LT len tTV tu (at_, fn, fa, na)).2.1 = 0)) (va_up (va_up tTV (tA LT len tu (at_, fn, fa, na)) (tB LT len tTV tu (at_, fn, fa, na))) (tB LT len tTV tu (at_, fn, fa, na)) (tA LT len tu (at_, fn, fa, na))) tTV) k := by
            intro k hk
            rw [← hS6, ← hvA, ← hvB]; first | exact (sel_t (decide_eq_true (by assumption)) k).symm | exact (sel_f (decide_eq_false (by assumption)) k).symm
          have hW : Wd X D A [(tb, .inr (0, [.int (nI thd.toNat), .int (nI tlo), .int (iI ((te : Int) - 1)), .int (nI thn.toNat), .int (nI tcu), .ref tsc, .ref tfg, .ref ttv, .ref tpr])), (ttv, .inl (D.2.1, 10, .inl (nA (selN (decide ((tS6 LT len tTV tu (at_, fn, fa, na)).2.1 = 0)) (va_up (va_up tTV (tA LT len tu (at_, fn, fa, na)) (tB LT len tTV tu (at_, fn, fa, na))) (tB LT len tTV tu (at_, fn, fa, na)) (tA LT len tu (at_, fn, fa, na))) tTV)))), (tx, .inr (5, [.ref lt, .int (nI len), .int (iI s6.2.2.1), .int (nI s6.2.1), .int (nI s6.1), .int (nI s6.2.2.2), .int (nI tu), .int (nI pd)])), (lt, .inl (D.2.2.2.1, 220, .inl (nA LT)))] _ _ := hW.row 1 rfl (fun j hj => congrArg (nI) (e_6 j hj)) rfl
          have e_7 : (s6.2.2.1 : Int) = (tS6 LT len tTV tu (at_, fn, fa, na)).2.2.1 := by
            rw [← hS6]; first | done | rfl | (rw [pk_t (decide_eq_true (by assumption))]; done) | (rw [pk_f (decide_eq_false (by assumption))]; done)
          have e_8 : (s6.2.1 : Nat) = (tS6 LT len tTV tu (at_, fn, fa, na)).2.1 := by
            clear e_7
            rw [← hS6]; first | done | rfl | (rw [pk_t (decide_eq_true (by assumption))]; done) | (rw [pk_f (decide_eq_false (by assumption))]; done)
          have e_9 : (s6.1 : Nat) = (tS6 LT len tTV tu (at_, fn, fa, na)).1 := by
            clear e_7 e_8
            rw [← hS6]; first | done | rfl | (rw [pk_t (decide_eq_true (by assumption))]; done) | (rw [pk_f (decide_eq_false (by assumption))]; done)
          have e_10 : (s6.2.2.2 : Nat) = (tS6 LT len tTV tu (at_, fn, fa, na)).2.2.2 := by
            clear e_7 e_8 e_9
            rw [← hS6]; first | done | rfl | (rw [pk_t (decide_eq_true (by assumption))]; done) | (rw [pk_f (decide_eq_false (by assumption))]; done)
          have e_11 : (tu : Nat) = pk (decide ((tS6 LT len tTV tu (at_, fn, fa, na)).2.1 = 0)) (tu + 1) tu := by
            clear e_7 e_8 e_9 e_10
            rw [← hS6]; first | done | rfl | (rw [pk_t (decide_eq_true (by assumption))]; done) | (rw [pk_f (decide_eq_false (by assumption))]; done)
          exact hret _ _ _ _ dX5_readTurn_109 (hW.conv [2, 3, 0, 1] (w1 := [(tx, .inr (5, [.ref lt, .int (nI len), .int (iI s6.2.2.1), .int (nI s6.2.1), .int (nI s6.1), .int (nI s6.2.2.2), .int (nI tu), .int (nI pd)])), (lt, .inl (D.2.2.2.1, 220, .inl (nA LT))), (tb, .inr (0, [.int (nI thd.toNat), .int (nI tlo), .int (iI ((te : Int) - 1)), .int (nI thn.toNat), .int (nI tcu), .ref tsc, .ref tfg, .ref ttv, .ref tpr])), (ttv, .inl (D.2.1, 10, .inl (nA (selN (decide ((tS6 LT len tTV tu (at_, fn, fa, na)).2.1 = 0)) (va_up (va_up tTV (tA LT len tu (at_, fn, fa, na)) (tB LT len tTV tu (at_, fn, fa, na))) (tB LT len tTV tu (at_, fn, fa, na)) (tA LT len tu (at_, fn, fa, na))) tTV))))]) (w2 := [(tx, .inr (5, [.ref lt, .int (nI len), .int (iI ((tS6 LT len tTV tu (at_, fn, fa, na)).2.2.1)), .int (nI ((tS6 LT len tTV tu (at_, fn, fa, na)).2.1)), .int (nI ((tS6 LT len tTV tu (at_, fn, fa, na)).1)), .int (nI ((tS6 LT len tTV tu (at_, fn, fa, na)).2.2.2)), .int (nI (pk (decide ((tS6 LT len tTV tu (at_, fn, fa, na)).2.1 = 0)) (tu + 1) tu)), .int (nI pd)])), (lt, .inl (D.2.2.2.1, 220, .inl (nA LT))), (tb, .inr (0, [.int (nI thd.toNat), .int (nI tlo), .int (iI ((te : Int) - 1)), .int (nI thn.toNat), .int (nI tcu), .ref tsc, .ref tfg, .ref ttv, .ref tpr])), (ttv, .inl (D.2.1, 10, .inl (nA (selN (decide ((tS6 LT len tTV tu (at_, fn, fa, na)).2.1 = 0)) (va_up (va_up tTV (tA LT len tu (at_, fn, fa, na)) (tB LT len tTV tu (at_, fn, fa, na))) (tB LT len tTV tu (at_, fn, fa, na)) (tA LT len tu (at_, fn, fa, na))) tTV))))]) rfl rfl (cE (congrArg (fun z => ((tx, .inr (5, z)) : Nat × va_E)) (cE rfl (cE rfl (cE (congrArg Value.int (congrArg (fun z : Int => iI z) e_7)) (cE (congrArg Value.int (congrArg (fun z : Nat => nI z) e_8)) (cE (congrArg Value.int (congrArg (fun z : Nat => nI z) e_9)) (cE (congrArg Value.int (congrArg (fun z : Nat => nI z) e_10)) (cE (congrArg Value.int (congrArg (fun z : Nat => nI z) e_11)) (cE rfl rfl))))))))) (cE rfl (cE rfl (cE rfl rfl)))))
        · refine x_aload_n hx dX5_readTurn_85 hl 3 rfl ?_
          refine x_get0 hx hW.1 0 rfl 7 (Nat.le_of_ble_eq_true rfl) wf_RX5_114 rfl dX5_readTurn_86 ?_
          refine x_iload_n hx dX5_readTurn_89 hl 1 rfl ?_
          refine x_iload_n hx dX5_readTurn_90 hl 0 rfl ?_
          have hj_91 : v1 < 10 := by omega
          have b_12 : ∀ k, k < 10 → (va_up tTV v1 v2) k < 10 := bnd_up htTV (by omega)
          refine x_iast hx hW 1 rfl hj_91 (by decide) (upd_nA _ _ _) dX5_readTurn_91 [(tb, .inr (0, [.int (nI thd.toNat), .int (nI tlo), .int (iI ((te : Int) - 1)), .int (nI thn.toNat), .int (nI tcu), .ref tsc, .ref tfg, .ref ttv, .ref tpr])), (ttv, .inl (D.2.1, 10, .inl (nA (va_up tTV v1 v2)))), (tx, .inr (5, [.ref lt, .int (nI len), .int (iI s6.2.2.1), .int (nI s6.2.1), .int (nI s6.1), .int (nI s6.2.2.2), .int (nI tu), .int (nI pd)])), (lt, .inl (D.2.2.2.1, 220, .inl (nA LT)))] rfl (fun H locs hW => ?_)
          refine x_aload_n hx dX5_readTurn_92 hl 3 rfl ?_
          refine x_get0 hx hW.1 0 rfl 7 (Nat.le_of_ble_eq_true rfl) wf_RX5_114 rfl dX5_readTurn_93 ?_
          refine x_iload_n hx dX5_readTurn_96 hl 0 rfl ?_
          refine x_iload_n hx dX5_readTurn_97 hl 1 rfl ?_
          have hj_98 : v2 < 10 := by omega
          have b_13 : ∀ k, k < 10 → (va_up (va_up tTV v1 v2) v2 v1) k < 10 := bnd_up b_12 (by omega)
          refine x_iast hx hW 1 rfl hj_98 (by decide) (upd_nA _ _ _) dX5_readTurn_98 [(tb, .inr (0, [.int (nI thd.toNat), .int (nI tlo), .int (iI ((te : Int) - 1)), .int (nI thn.toNat), .int (nI tcu), .ref tsc, .ref tfg, .ref ttv, .ref tpr])), (ttv, .inl (D.2.1, 10, .inl (nA (va_up (va_up tTV v1 v2) v2 v1)))), (tx, .inr (5, [.ref lt, .int (nI len), .int (iI s6.2.2.1), .int (nI s6.2.1), .int (nI s6.1), .int (nI s6.2.2.2), .int (nI tu), .int (nI pd)])), (lt, .inl (D.2.2.2.1, 220, .inl (nA LT)))] rfl (fun H locs hW => ?_)
          refine x_aload_n hx dX5_readTurn_99 hl 2 rfl ?_
          refine x_dup hx dX5_readTurn_100 rfl ?_
          refine x_get5 hx hW.1 2 rfl 6 (Nat.le_of_ble_eq_true rfl) wf_RX5_31 rfl dX5_readTurn_101 ?_
          refine x_iconst (v := nI 1) hx dX5_readTurn_104 (by decide) ?_
          refine x_iadd (v := nI (tu + 1)) hx dX5_readTurn_105 (nI_add _ _) ?_
          refine x_put5 hx hW 2 rfl 6 (Nat.le_of_ble_eq_true rfl) wf_RX5_31 rfl rfl rfl (Nat.le_of_ble_eq_true rfl) dX5_readTurn_106 [(tb, .inr (0, [.int (nI thd.toNat), .int (nI tlo), .int (iI ((te : Int) - 1)), .int (nI thn.toNat), .int (nI tcu), .ref tsc, .ref tfg, .ref ttv, .ref tpr])), (ttv, .inl (D.2.1, 10, .inl (nA (va_up (va_up tTV v1 v2) v2 v1)))), (tx, .inr (5, [.ref lt, .int (nI len), .int (iI s6.2.2.1), .int (nI s6.2.1), .int (nI s6.1), .int (nI s6.2.2.2), .int (nI (tu + 1)), .int (nI pd)])), (lt, .inl (D.2.2.2.1, 220, .inl (nA LT)))] rfl (fun H locs hW => ?_)
          have e_14 : ∀ k, k < 10 → (va_up (va_up tTV v1 v2) v2 v1) k = (selN (decide ((tS6 LT len tTV tu (at_, fn, fa, na)).2.1 = 0)) (va_up (va_up tTV (tA LT len tu (at_, fn, fa, na)) (tB LT len tTV tu (at_, fn, fa, na))) (tB LT len tTV tu (at_, fn, fa, na)) (tA LT len tu (at_, fn, fa, na))) tTV) k := by
            intro k hk
            rw [← hS6, ← hvA, ← hvB]; first | exact (sel_t (decide_eq_true (by assumption)) k).symm | exact (sel_f (decide_eq_false (by assumption)) k).symm
          have hW : Wd X D A [(tb, .inr (0, [.int (nI thd.toNat), .int (nI tlo), .int (iI ((te : Int) - 1)), .int (nI thn.toNat), .int (nI tcu), .ref tsc, .ref tfg, .ref ttv, .ref tpr])), (ttv, .inl (D.2.1, 10, .inl (nA (selN (decide ((tS6 LT len tTV tu (at_, fn, fa, na)).2.1 = 0)) (va_up (va_up tTV (tA LT len tu (at_, fn, fa, na)) (tB LT len tTV tu (at_, fn, fa, na))) (tB LT len tTV tu (at_, fn, fa, na)) (tA LT len tu (at_, fn, fa, na))) tTV)))), (tx, .inr (5, [.ref lt, .int (nI len), .int (iI s6.2.2.1), .int (nI s6.2.1), .int (nI s6.1), .int (nI s6.2.2.2), .int (nI (tu + 1)), .int (nI pd)])), (lt, .inl (D.2.2.2.1, 220, .inl (nA LT)))] _ _ := hW.row 1 rfl (fun j hj => congrArg (nI) (e_14 j hj)) rfl
          have e_15 : (s6.2.2.1 : Int) = (tS6 LT len tTV tu (at_, fn, fa, na)).2.2.1 := by
            rw [← hS6]; first | done | rfl | (rw [pk_t (decide_eq_true (by assumption))]; done) | (rw [pk_f (decide_eq_false (by assumption))]; done)
          have e_16 : (s6.2.1 : Nat) = (tS6 LT len tTV tu (at_, fn, fa, na)).2.1 := by
            clear e_15
            rw [← hS6]; first | done | rfl | (rw [pk_t (decide_eq_true (by assumption))]; done) | (rw [pk_f (decide_eq_false (by assumption))]; done)
          have e_17 : (s6.1 : Nat) = (tS6 LT len tTV tu (at_, fn, fa, na)).1 := by
            clear e_15 e_16
            rw [← hS6]; first | done | rfl | (rw [pk_t (decide_eq_true (by assumption))]; done) | (rw [pk_f (decide_eq_false (by assumption))]; done)
          have e_18 : (s6.2.2.2 : Nat) = (tS6 LT len tTV tu (at_, fn, fa, na)).2.2.2 := by
            clear e_15 e_16 e_17
            rw [← hS6]; first | done | rfl | (rw [pk_t (decide_eq_true (by assumption))]; done) | (rw [pk_f (decide_eq_false (by assumption))]; done)
          have e_19 : (tu + 1 : Nat) = pk (decide ((tS6 LT len tTV tu (at_, fn, fa, na)).2.1 = 0)) (tu + 1) tu := by
            clear e_15 e_16 e_17 e_18
            rw [← hS6]; first | done | rfl | (rw [pk_t (decide_eq_true (by assumption))]; done) | (rw [pk_f (decide_eq_false (by assumption))]; done)
          exact hret _ _ _ _ dX5_readTurn_109 (hW.conv [2, 3, 0, 1] (w1 := [(tx, .inr (5, [.ref lt, .int (nI len), .int (iI s6.2.2.1), .int (nI s6.2.1), .int (nI s6.1), .int (nI s6.2.2.2), .int (nI (tu + 1)), .int (nI pd)])), (lt, .inl (D.2.2.2.1, 220, .inl (nA LT))), (tb, .inr (0, [.int (nI thd.toNat), .int (nI tlo), .int (iI ((te : Int) - 1)), .int (nI thn.toNat), .int (nI tcu), .ref tsc, .ref tfg, .ref ttv, .ref tpr])), (ttv, .inl (D.2.1, 10, .inl (nA (selN (decide ((tS6 LT len tTV tu (at_, fn, fa, na)).2.1 = 0)) (va_up (va_up tTV (tA LT len tu (at_, fn, fa, na)) (tB LT len tTV tu (at_, fn, fa, na))) (tB LT len tTV tu (at_, fn, fa, na)) (tA LT len tu (at_, fn, fa, na))) tTV))))]) (w2 := [(tx, .inr (5, [.ref lt, .int (nI len), .int (iI ((tS6 LT len tTV tu (at_, fn, fa, na)).2.2.1)), .int (nI ((tS6 LT len tTV tu (at_, fn, fa, na)).2.1)), .int (nI ((tS6 LT len tTV tu (at_, fn, fa, na)).1)), .int (nI ((tS6 LT len tTV tu (at_, fn, fa, na)).2.2.2)), .int (nI (pk (decide ((tS6 LT len tTV tu (at_, fn, fa, na)).2.1 = 0)) (tu + 1) tu)), .int (nI pd)])), (lt, .inl (D.2.2.2.1, 220, .inl (nA LT))), (tb, .inr (0, [.int (nI thd.toNat), .int (nI tlo), .int (iI ((te : Int) - 1)), .int (nI thn.toNat), .int (nI tcu), .ref tsc, .ref tfg, .ref ttv, .ref tpr])), (ttv, .inl (D.2.1, 10, .inl (nA (selN (decide ((tS6 LT len tTV tu (at_, fn, fa, na)).2.1 = 0)) (va_up (va_up tTV (tA LT len tu (at_, fn, fa, na)) (tB LT len tTV tu (at_, fn, fa, na))) (tB LT len tTV tu (at_, fn, fa, na)) (tA LT len tu (at_, fn, fa, na))) tTV))))]) rfl rfl (cE (congrArg (fun z => ((tx, .inr (5, z)) : Nat × va_E)) (cE rfl (cE rfl (cE (congrArg Value.int (congrArg (fun z : Int => iI z) e_15)) (cE (congrArg Value.int (congrArg (fun z : Nat => nI z) e_16)) (cE (congrArg Value.int (congrArg (fun z : Nat => nI z) e_17)) (cE (congrArg Value.int (congrArg (fun z : Nat => nI z) e_18)) (cE (congrArg Value.int (congrArg (fun z : Nat => nI z) e_19)) (cE rfl rfl))))))))) (cE rfl (cE rfl (cE rfl rfl)))))
      · refine x_aload_n hx dX5_readTurn_55 hl 3 rfl ?_
        refine x_get0 hx hW.1 0 rfl 7 (Nat.le_of_ble_eq_true rfl) wf_RX5_114 rfl dX5_readTurn_56 ?_
        refine x_iload_n hx dX5_readTurn_59 hl 0 rfl ?_
        have hj_60 : v2 < 10 := by omega
        refine x_iald (v := nI (tTV v2)) hx hW.1 1 rfl hj_60 (by decide) (rfl) dX5_readTurn_60 ?_
        have b_20 := htTV v2 hj_60
        refine x_iload_n hx dX5_readTurn_61 hl 0 rfl ?_
        refine x_icmp_eq_N (a := (tTV v2)) (b := v2) (tgt := 74) hx dX5_readTurn_62 (by decide) (by omega) (by omega) (fun h_21 => ?_) (fun h_21 => ?_)
        · have hS5 : s4 = tS5 LT len tTV tu (at_, fn, fa, na) := by rw [tS5, ← hvA, ← hvB, if_neg (by omega)]; exact hS4
          refine x_aload_n hx dX5_readTurn_74 hl 2 rfl ?_
          obtain ⟨s6, hs6⟩ : ∃ z : TS, z = reS LT len s4 := ⟨_, rfl⟩
          refine x_callVV (As := []) (rest := []) (wr := [(tb, .inr (0, [.int (nI thd.toNat), .int (nI tlo), .int (iI ((te : Int) - 1)), .int (nI thn.toNat), .int (nI tcu), .ref tsc, .ref tfg, .ref ttv, .ref tpr])), (ttv, .inl (D.2.1, 10, .inl (nA tTV)))]) hx yv_X5_readEnd (c_X5_readEnd _ D tx lt len s4.2.2.1 s4.2.1 s4.1 s4.2.2.2 tu pd LT (by first | assumption | omega | (simp [*]; done)) (by first | assumption | omega | (simp [*]; done)) (by first | assumption | omega | (simp [*]; done)) (by first | assumption | omega | (simp [*]; done))) wm_RX5_88 hA hW [2, 3] [0, 1] rfl rfl rfl rfl rfl 2 rfl rfl ⟨rfl, rfl⟩ ⟨Nat.le_of_ble_eq_true rfl, Nat.le_of_ble_eq_true rfl⟩ ⟨Nat.zero_le _, Nat.zero_le _⟩ hl rfl rfl (Nat.le_of_ble_eq_true rfl) dX5_readTurn_75 [(tb, .inr (0, [.int (nI thd.toNat), .int (nI tlo), .int (iI ((te : Int) - 1)), .int (nI thn.toNat), .int (nI tcu), .ref tsc, .ref tfg, .ref ttv, .ref tpr])), (ttv, .inl (D.2.1, 10, .inl (nA tTV))), (tx, .inr (5, [.ref lt, .int (nI len), .int (iI s6.2.2.1), .int (nI s6.2.1), .int (nI s6.1), .int (nI s6.2.2.2), .int (nI tu), .int (nI pd)])), (lt, .inl (D.2.2.2.1, 220, .inl (nA LT)))] (by subst hs6; rfl) (fun H locs hW => ?_)
          have ho_s6 : tsOk len s6 := by rw [hs6]; exact reS_ok hlen ho_s4
          obtain ⟨ho_s6a, ho_s6b, ho_s6c, ho_s6d, ho_s6e⟩ := ho_s6
          have ho_s6 : tsOk len s6 := ⟨ho_s6a, ho_s6b, ho_s6c, ho_s6d, ho_s6e⟩
          have hS6 : s6 = tS6 LT len tTV tu (at_, fn, fa, na) := by rw [tS6, ← hS5]; exact hs6
          refine x_aload_n hx dX5_readTurn_78 hl 2 rfl ?_
          refine x_get5 hx hW.1 2 rfl 3 (Nat.le_of_ble_eq_true rfl) wf_RX5_22 rfl dX5_readTurn_79 ?_
          refine x_if_ne_N (a := s6.2.1) (tgt := 109) hx dX5_readTurn_82 (by decide) (by omega) (fun h_22 => ?_) (fun h_22 => ?_)
          · have e_23 : ∀ k, k < 10 → (tTV) k = (selN (decide ((tS6 LT len tTV tu (at_, fn, fa, na)).2.1 = 0)) (va_up (va_up tTV (tA LT len tu (at_, fn, fa, na)) (tB LT len tTV tu (at_, fn, fa, na))) (tB LT len tTV tu (at_, fn, fa, na)) (tA LT len tu (at_, fn, fa, na))) tTV) k := by
              intro k hk
              rw [← hS6, ← hvA, ← hvB]; first | exact (sel_t (decide_eq_true (by assumption)) k).symm | exact (sel_f (decide_eq_false (by assumption)) k).symm
            have hW : Wd X D A [(tb, .inr (0, [.int (nI thd.toNat), .int (nI tlo), .int (iI ((te : Int) - 1)), .int (nI thn.toNat), .int (nI tcu), .ref tsc, .ref tfg, .ref ttv, .ref tpr])), (ttv, .inl (D.2.1, 10, .inl (nA (selN (decide ((tS6 LT len tTV tu (at_, fn, fa, na)).2.1 = 0)) (va_up (va_up tTV (tA LT len tu (at_, fn, fa, na)) (tB LT len tTV tu (at_, fn, fa, na))) (tB LT len tTV tu (at_, fn, fa, na)) (tA LT len tu (at_, fn, fa, na))) tTV)))), (tx, .inr (5, [.ref lt, .int (nI len), .int (iI s6.2.2.1), .int (nI s6.2.1), .int (nI s6.1), .int (nI s6.2.2.2), .int (nI tu), .int (nI pd)])), (lt, .inl (D.2.2.2.1, 220, .inl (nA LT)))] _ _ := hW.row 1 rfl (fun j hj => congrArg (nI) (e_23 j hj)) rfl
            have e_24 : (s6.2.2.1 : Int) = (tS6 LT len tTV tu (at_, fn, fa, na)).2.2.1 := by
              rw [← hS6]; first | done | rfl | (rw [pk_t (decide_eq_true (by assumption))]; done) | (rw [pk_f (decide_eq_false (by assumption))]; done)
            have e_25 : (s6.2.1 : Nat) = (tS6 LT len tTV tu (at_, fn, fa, na)).2.1 := by
              clear e_24
              rw [← hS6]; first | done | rfl | (rw [pk_t (decide_eq_true (by assumption))]; done) | (rw [pk_f (decide_eq_false (by assumption))]; done)
            have e_26 : (s6.1 : Nat) = (tS6 LT len tTV tu (at_, fn, fa, na)).1 := by
              clear e_24 e_25
              rw [← hS6]; first | done | rfl | (rw [pk_t (decide_eq_true (by assumption))]; done) | (rw [pk_f (decide_eq_false (by assumption))]; done)
            have e_27 : (s6.2.2.2 : Nat) = (tS6 LT len tTV tu (at_, fn, fa, na)).2.2.2 := by
              clear e_24 e_25 e_26
              rw [← hS6]; first | done | rfl | (rw [pk_t (decide_eq_true (by assumption))]; done) | (rw [pk_f (decide_eq_false (by assumption))]; done)
            have e_28 : (tu : Nat) = pk (decide ((tS6 LT len tTV tu (at_, fn, fa, na)).2.1 = 0)) (tu + 1) tu := by
              clear e_24 e_25 e_26 e_27
              rw [← hS6]; first | done | rfl | (rw [pk_t (decide_eq_true (by assumption))]; done) | (rw [pk_f (decide_eq_false (by assumption))]; done)
            exact hret _ _ _ _ dX5_readTurn_109 (hW.conv [2, 3, 0, 1] (w1 := [(tx, .inr (5, [.ref lt, .int (nI len), .int (iI s6.2.2.1), .int (nI s6.2.1), .int (nI s6.1), .int (nI s6.2.2.2), .int (nI tu), .int (nI pd)])), (lt, .inl (D.2.2.2.1, 220, .inl (nA LT))), (tb, .inr (0, [.int (nI thd.toNat), .int (nI tlo), .int (iI ((te : Int) - 1)), .int (nI thn.toNat), .int (nI tcu), .ref tsc, .ref tfg, .ref ttv, .ref tpr])), (ttv, .inl (D.2.1, 10, .inl (nA (selN (decide ((tS6 LT len tTV tu (at_, fn, fa, na)).2.1 = 0)) (va_up (va_up tTV (tA LT len tu (at_, fn, fa, na)) (tB LT len tTV tu (at_, fn, fa, na))) (tB LT len tTV tu (at_, fn, fa, na)) (tA LT len tu (at_, fn, fa, na))) tTV))))]) (w2 := [(tx, .inr (5, [.ref lt, .int (nI len), .int (iI ((tS6 LT len tTV tu (at_, fn, fa, na)).2.2.1)), .int (nI ((tS6 LT len tTV tu (at_, fn, fa, na)).2.1)), .int (nI ((tS6 LT len tTV tu (at_, fn, fa, na)).1)), .int (nI ((tS6 LT len tTV tu (at_, fn, fa, na)).2.2.2)), .int (nI (pk (decide ((tS6 LT len tTV tu (at_, fn, fa, na)).2.1 = 0)) (tu + 1) tu)), .int (nI pd)])), (lt, .inl (D.2.2.2.1, 220, .inl (nA LT))), (tb, .inr (0, [.int (nI thd.toNat), .int (nI tlo), .int (iI ((te : Int) - 1)), .int (nI thn.toNat), .int (nI tcu), .ref tsc, .ref tfg, .ref ttv, .ref tpr])), (ttv, .inl (D.2.1, 10, .inl (nA (selN (decide ((tS6 LT len tTV tu (at_, fn, fa, na)).2.1 = 0)) (va_up (va_up tTV (tA LT len tu (at_, fn, fa, na)) (tB LT len tTV tu (at_, fn, fa, na))) (tB LT len tTV tu (at_, fn, fa, na)) (tA LT len tu (at_, fn, fa, na))) tTV))))]) rfl rfl (cE (congrArg (fun z => ((tx, .inr (5, z)) : Nat × va_E)) (cE rfl (cE rfl (cE (congrArg Value.int (congrArg (fun z : Int => iI z) e_24)) (cE (congrArg Value.int (congrArg (fun z : Nat => nI z) e_25)) (cE (congrArg Value.int (congrArg (fun z : Nat => nI z) e_26)) (cE (congrArg Value.int (congrArg (fun z : Nat => nI z) e_27)) (cE (congrArg Value.int (congrArg (fun z : Nat => nI z) e_28)) (cE rfl rfl))))))))) (cE rfl (cE rfl (cE rfl rfl)))))
          · refine x_aload_n hx dX5_readTurn_85 hl 3 rfl ?_
            refine x_get0 hx hW.1 0 rfl 7 (Nat.le_of_ble_eq_true rfl) wf_RX5_114 rfl dX5_readTurn_86 ?_
            refine x_iload_n hx dX5_readTurn_89 hl 1 rfl ?_
            refine x_iload_n hx dX5_readTurn_90 hl 0 rfl ?_
            have hj_91 : v1 < 10 := by omega
            have b_29 : ∀ k, k < 10 → (va_up tTV v1 v2) k < 10 := bnd_up htTV (by omega)
            refine x_iast hx hW 1 rfl hj_91 (by decide) (upd_nA _ _ _) dX5_readTurn_91 [(tb, .inr (0, [.int (nI thd.toNat), .int (nI tlo), .int (iI ((te : Int) - 1)), .int (nI thn.toNat), .int (nI tcu), .ref tsc, .ref tfg, .ref ttv, .ref tpr])), (ttv, .inl (D.2.1, 10, .inl (nA (va_up tTV v1 v2)))), (tx, .inr (5, [.ref lt, .int (nI len), .int (iI s6.2.2.1), .int (nI s6.2.1), .int (nI s6.1), .int (nI s6.2.2.2), .int (nI tu), .int (nI pd)])), (lt, .inl (D.2.2.2.1, 220, .inl (nA LT)))] rfl (fun H locs hW => ?_)
            refine x_aload_n hx dX5_readTurn_92 hl 3 rfl ?_
            refine x_get0 hx hW.1 0 rfl 7 (Nat.le_of_ble_eq_true rfl) wf_RX5_114 rfl dX5_readTurn_93 ?_
            refine x_iload_n hx dX5_readTurn_96 hl 0 rfl ?_
            refine x_iload_n hx dX5_readTurn_97 hl 1 rfl ?_
            have hj_98 : v2 < 10 := by omega
            have b_30 : ∀ k, k < 10 → (va_up (va_up tTV v1 v2) v2 v1) k < 10 := bnd_up b_29 (by omega)
            refine x_iast hx hW 1 rfl hj_98 (by decide) (upd_nA _ _ _) dX5_readTurn_98 [(tb, .inr (0, [.int (nI thd.toNat), .int (nI tlo), .int (iI ((te : Int) - 1)), .int (nI thn.toNat), .int (nI tcu), .ref tsc, .ref tfg, .ref ttv, .ref tpr])), (ttv, .inl (D.2.1, 10, .inl (nA (va_up (va_up tTV v1 v2) v2 v1)))), (tx, .inr (5, [.ref lt, .int (nI len), .int (iI s6.2.2.1), .int (nI s6.2.1), .int (nI s6.1), .int (nI s6.2.2.2), .int (nI tu), .int (nI pd)])), (lt, .inl (D.2.2.2.1, 220, .inl (nA LT)))] rfl (fun H locs hW => ?_)
            refine x_aload_n hx dX5_readTurn_99 hl 2 rfl ?_
            refine x_dup hx dX5_readTurn_100 rfl ?_
            refine x_get5 hx hW.1 2 rfl 6 (Nat.le_of_ble_eq_true rfl) wf_RX5_31 rfl dX5_readTurn_101 ?_
            refine x_iconst (v := nI 1) hx dX5_readTurn_104 (by decide) ?_
            refine x_iadd (v := nI (tu + 1)) hx dX5_readTurn_105 (nI_add _ _) ?_
            refine x_put5 hx hW 2 rfl 6 (Nat.le_of_ble_eq_true rfl) wf_RX5_31 rfl rfl rfl (Nat.le_of_ble_eq_true rfl) dX5_readTurn_106 [(tb, .inr (0, [.int (nI thd.toNat), .int (nI tlo), .int (iI ((te : Int) - 1)), .int (nI thn.toNat), .int (nI tcu), .ref tsc, .ref tfg, .ref ttv, .ref tpr])), (ttv, .inl (D.2.1, 10, .inl (nA (va_up (va_up tTV v1 v2) v2 v1)))), (tx, .inr (5, [.ref lt, .int (nI len), .int (iI s6.2.2.1), .int (nI s6.2.1), .int (nI s6.1), .int (nI s6.2.2.2), .int (nI (tu + 1)), .int (nI pd)])), (lt, .inl (D.2.2.2.1, 220, .inl (nA LT)))] rfl (fun H locs hW => ?_)
            have e_31 : ∀ k, k < 10 → (va_up (va_up tTV v1 v2) v2 v1) k = (selN (decide ((tS6 LT len tTV tu (at_, fn, fa, na)).2.1 = 0)) (va_up (va_up tTV (tA LT len tu (at_, fn, fa, na)) (tB LT len tTV tu (at_, fn, fa, na))) (tB LT len tTV tu (at_, fn, fa, na)) (tA LT len tu (at_, fn, fa, na))) tTV) k := by
              intro k hk
              rw [← hS6, ← hvA, ← hvB]; first | exact (sel_t (decide_eq_true (by assumption)) k).symm | exact (sel_f (decide_eq_false (by assumption)) k).symm
            have hW : Wd X D A [(tb, .inr (0, [.int (nI thd.toNat), .int (nI tlo), .int (iI ((te : Int) - 1)), .int (nI thn.toNat), .int (nI tcu), .ref tsc, .ref tfg, .ref ttv, .ref tpr])), (ttv, .inl (D.2.1, 10, .inl (nA (selN (decide ((tS6 LT len tTV tu (at_, fn, fa, na)).2.1 = 0)) (va_up (va_up tTV (tA LT len tu (at_, fn, fa, na)) (tB LT len tTV tu (at_, fn, fa, na))) (tB LT len tTV tu (at_, fn, fa, na)) (tA LT len tu (at_, fn, fa, na))) tTV)))), (tx, .inr (5, [.ref lt, .int (nI len), .int (iI s6.2.2.1), .int (nI s6.2.1), .int (nI s6.1), .int (nI s6.2.2.2), .int (nI (tu + 1)), .int (nI pd)])), (lt, .inl (D.2.2.2.1, 220, .inl (nA LT)))] _ _ := hW.row 1 rfl (fun j hj => congrArg (nI) (e_31 j hj)) rfl
            have e_32 : (s6.2.2.1 : Int) = (tS6 LT len tTV tu (at_, fn, fa, na)).2.2.1 := by
              rw [← hS6]; first | done | rfl | (rw [pk_t (decide_eq_true (by assumption))]; done) | (rw [pk_f (decide_eq_false (by assumption))]; done)
            have e_33 : (s6.2.1 : Nat) = (tS6 LT len tTV tu (at_, fn, fa, na)).2.1 := by
              clear e_32
              rw [← hS6]; first | done | rfl | (rw [pk_t (decide_eq_true (by assumption))]; done) | (rw [pk_f (decide_eq_false (by assumption))]; done)
            have e_34 : (s6.1 : Nat) = (tS6 LT len tTV tu (at_, fn, fa, na)).1 := by
              clear e_32 e_33
              rw [← hS6]; first | done | rfl | (rw [pk_t (decide_eq_true (by assumption))]; done) | (rw [pk_f (decide_eq_false (by assumption))]; done)
            have e_35 : (s6.2.2.2 : Nat) = (tS6 LT len tTV tu (at_, fn, fa, na)).2.2.2 := by
              clear e_32 e_33 e_34
              rw [← hS6]; first | done | rfl | (rw [pk_t (decide_eq_true (by assumption))]; done) | (rw [pk_f (decide_eq_false (by assumption))]; done)
            have e_36 : (tu + 1 : Nat) = pk (decide ((tS6 LT len tTV tu (at_, fn, fa, na)).2.1 = 0)) (tu + 1) tu := by
              clear e_32 e_33 e_34 e_35
              rw [← hS6]; first | done | rfl | (rw [pk_t (decide_eq_true (by assumption))]; done) | (rw [pk_f (decide_eq_false (by assumption))]; done)
            exact hret _ _ _ _ dX5_readTurn_109 (hW.conv [2, 3, 0, 1] (w1 := [(tx, .inr (5, [.ref lt, .int (nI len), .int (iI s6.2.2.1), .int (nI s6.2.1), .int (nI s6.1), .int (nI s6.2.2.2), .int (nI (tu + 1)), .int (nI pd)])), (lt, .inl (D.2.2.2.1, 220, .inl (nA LT))), (tb, .inr (0, [.int (nI thd.toNat), .int (nI tlo), .int (iI ((te : Int) - 1)), .int (nI thn.toNat), .int (nI tcu), .ref tsc, .ref tfg, .ref ttv, .ref tpr])), (ttv, .inl (D.2.1, 10, .inl (nA (selN (decide ((tS6 LT len tTV tu (at_, fn, fa, na)).2.1 = 0)) (va_up (va_up tTV (tA LT len tu (at_, fn, fa, na)) (tB LT len tTV tu (at_, fn, fa, na))) (tB LT len tTV tu (at_, fn, fa, na)) (tA LT len tu (at_, fn, fa, na))) tTV))))]) (w2 := [(tx, .inr (5, [.ref lt, .int (nI len), .int (iI ((tS6 LT len tTV tu (at_, fn, fa, na)).2.2.1)), .int (nI ((tS6 LT len tTV tu (at_, fn, fa, na)).2.1)), .int (nI ((tS6 LT len tTV tu (at_, fn, fa, na)).1)), .int (nI ((tS6 LT len tTV tu (at_, fn, fa, na)).2.2.2)), .int (nI (pk (decide ((tS6 LT len tTV tu (at_, fn, fa, na)).2.1 = 0)) (tu + 1) tu)), .int (nI pd)])), (lt, .inl (D.2.2.2.1, 220, .inl (nA LT))), (tb, .inr (0, [.int (nI thd.toNat), .int (nI tlo), .int (iI ((te : Int) - 1)), .int (nI thn.toNat), .int (nI tcu), .ref tsc, .ref tfg, .ref ttv, .ref tpr])), (ttv, .inl (D.2.1, 10, .inl (nA (selN (decide ((tS6 LT len tTV tu (at_, fn, fa, na)).2.1 = 0)) (va_up (va_up tTV (tA LT len tu (at_, fn, fa, na)) (tB LT len tTV tu (at_, fn, fa, na))) (tB LT len tTV tu (at_, fn, fa, na)) (tA LT len tu (at_, fn, fa, na))) tTV))))]) rfl rfl (cE (congrArg (fun z => ((tx, .inr (5, z)) : Nat × va_E)) (cE rfl (cE rfl (cE (congrArg Value.int (congrArg (fun z : Int => iI z) e_32)) (cE (congrArg Value.int (congrArg (fun z : Nat => nI z) e_33)) (cE (congrArg Value.int (congrArg (fun z : Nat => nI z) e_34)) (cE (congrArg Value.int (congrArg (fun z : Nat => nI z) e_35)) (cE (congrArg Value.int (congrArg (fun z : Nat => nI z) e_36)) (cE rfl rfl))))))))) (cE rfl (cE rfl (cE rfl rfl)))))
        · refine x_aload_n hx dX5_readTurn_65 hl 2 rfl ?_
          refine x_iconst (v := nI 4) hx dX5_readTurn_66 (by decide) ?_
          refine x_aload_n hx dX5_readTurn_67 hl 2 rfl ?_
          refine x_get5 hx hW.1 2 rfl 5 (Nat.le_of_ble_eq_true rfl) wf_RX5_28 rfl dX5_readTurn_68 ?_
          obtain ⟨s5, hs5⟩ : ∃ z : TS, z = blS 4 s4.2.2.2 s4 := ⟨_, rfl⟩
          refine x_callVV (As := [.int (nI 4), .int (nI s4.2.2.2)]) (rest := []) (wr := [(tb, .inr (0, [.int (nI thd.toNat), .int (nI tlo), .int (iI ((te : Int) - 1)), .int (nI thn.toNat), .int (nI tcu), .ref tsc, .ref tfg, .ref ttv, .ref tpr])), (ttv, .inl (D.2.1, 10, .inl (nA tTV))), (lt, .inl (D.2.2.2.1, 220, .inl (nA LT)))]) hx yv_X5_blame (c_X5_blame _ D tx lt len s4.2.2.1 s4.2.1 s4.1 s4.2.2.2 tu pd 4 (s4.2.2.2 : Int) (by first | assumption | omega | (simp [*]; done))) wm_RX5_67 hA hW [2] [0, 1, 3] rfl rfl rfl rfl rfl 2 rfl rfl ⟨rfl, rfl⟩ ⟨Nat.le_of_ble_eq_true rfl, Nat.le_of_ble_eq_true rfl⟩ ⟨Nat.zero_le _, Nat.zero_le _⟩ hl rfl rfl (Nat.le_of_ble_eq_true rfl) dX5_readTurn_71 [(tb, .inr (0, [.int (nI thd.toNat), .int (nI tlo), .int (iI ((te : Int) - 1)), .int (nI thn.toNat), .int (nI tcu), .ref tsc, .ref tfg, .ref ttv, .ref tpr])), (ttv, .inl (D.2.1, 10, .inl (nA tTV))), (lt, .inl (D.2.2.2.1, 220, .inl (nA LT))), (tx, .inr (5, [.ref lt, .int (nI len), .int (iI s5.2.2.1), .int (nI s5.2.1), .int (nI s5.1), .int (nI s5.2.2.2), .int (nI tu), .int (nI pd)]))] (by subst hs5; rfl) (fun H locs hW => ?_)
          have ho_s5 : tsOk len s5 := by rw [hs5]; exact blS_ok (by decide) (by omega) ho_s4
          obtain ⟨ho_s5a, ho_s5b, ho_s5c, ho_s5d, ho_s5e⟩ := ho_s5
          have ho_s5 : tsOk len s5 := ⟨ho_s5a, ho_s5b, ho_s5c, ho_s5d, ho_s5e⟩
          have hS5 : s5 = tS5 LT len tTV tu (at_, fn, fa, na) := by rw [tS5, ← hvA, ← hvB, if_pos (by first | exact Or.inl (by assumption) | exact Or.inr (by assumption)), ← hS4]; exact hs5
          refine x_aload_n hx dX5_readTurn_74 hl 2 rfl ?_
          obtain ⟨s6, hs6⟩ : ∃ z : TS, z = reS LT len s5 := ⟨_, rfl⟩
          refine x_callVV (As := []) (rest := []) (wr := [(tb, .inr (0, [.int (nI thd.toNat), .int (nI tlo), .int (iI ((te : Int) - 1)), .int (nI thn.toNat), .int (nI tcu), .ref tsc, .ref tfg, .ref ttv, .ref tpr])), (ttv, .inl (D.2.1, 10, .inl (nA tTV)))]) hx yv_X5_readEnd (c_X5_readEnd _ D tx lt len s5.2.2.1 s5.2.1 s5.1 s5.2.2.2 tu pd LT (by first | assumption | omega | (simp [*]; done)) (by first | assumption | omega | (simp [*]; done)) (by first | assumption | omega | (simp [*]; done)) (by first | assumption | omega | (simp [*]; done))) wm_RX5_88 hA hW [3, 2] [0, 1] rfl rfl rfl rfl rfl 3 rfl rfl ⟨rfl, rfl⟩ ⟨Nat.le_of_ble_eq_true rfl, Nat.le_of_ble_eq_true rfl⟩ ⟨Nat.zero_le _, Nat.zero_le _⟩ hl rfl rfl (Nat.le_of_ble_eq_true rfl) dX5_readTurn_75 [(tb, .inr (0, [.int (nI thd.toNat), .int (nI tlo), .int (iI ((te : Int) - 1)), .int (nI thn.toNat), .int (nI tcu), .ref tsc, .ref tfg, .ref ttv, .ref tpr])), (ttv, .inl (D.2.1, 10, .inl (nA tTV))), (tx, .inr (5, [.ref lt, .int (nI len), .int (iI s6.2.2.1), .int (nI s6.2.1), .int (nI s6.1), .int (nI s6.2.2.2), .int (nI tu), .int (nI pd)])), (lt, .inl (D.2.2.2.1, 220, .inl (nA LT)))] (by subst hs6; rfl) (fun H locs hW => ?_)
          have ho_s6 : tsOk len s6 := by rw [hs6]; exact reS_ok hlen ho_s5
          obtain ⟨ho_s6a, ho_s6b, ho_s6c, ho_s6d, ho_s6e⟩ := ho_s6
          have ho_s6 : tsOk len s6 := ⟨ho_s6a, ho_s6b, ho_s6c, ho_s6d, ho_s6e⟩
          have hS6 : s6 = tS6 LT len tTV tu (at_, fn, fa, na) := by rw [tS6, ← hS5]; exact hs6
          refine x_aload_n hx dX5_readTurn_78 hl 2 rfl ?_
          refine x_get5 hx hW.1 2 rfl 3 (Nat.le_of_ble_eq_true rfl) wf_RX5_22 rfl dX5_readTurn_79 ?_
          refine x_if_ne_N (a := s6.2.1) (tgt := 109) hx dX5_readTurn_82 (by decide) (by omega) (fun h_37 => ?_) (fun h_37 => ?_)
          · have e_38 : ∀ k, k < 10 → (tTV) k = (selN (decide ((tS6 LT len tTV tu (at_, fn, fa, na)).2.1 = 0)) (va_up (va_up tTV (tA LT len tu (at_, fn, fa, na)) (tB LT len tTV tu (at_, fn, fa, na))) (tB LT len tTV tu (at_, fn, fa, na)) (tA LT len tu (at_, fn, fa, na))) tTV) k := by
              intro k hk
              rw [← hS6, ← hvA, ← hvB]; first | exact (sel_t (decide_eq_true (by assumption)) k).symm | exact (sel_f (decide_eq_false (by assumption)) k).symm
            have hW : Wd X D A [(tb, .inr (0, [.int (nI thd.toNat), .int (nI tlo), .int (iI ((te : Int) - 1)), .int (nI thn.toNat), .int (nI tcu), .ref tsc, .ref tfg, .ref ttv, .ref tpr])), (ttv, .inl (D.2.1, 10, .inl (nA (selN (decide ((tS6 LT len tTV tu (at_, fn, fa, na)).2.1 = 0)) (va_up (va_up tTV (tA LT len tu (at_, fn, fa, na)) (tB LT len tTV tu (at_, fn, fa, na))) (tB LT len tTV tu (at_, fn, fa, na)) (tA LT len tu (at_, fn, fa, na))) tTV)))), (tx, .inr (5, [.ref lt, .int (nI len), .int (iI s6.2.2.1), .int (nI s6.2.1), .int (nI s6.1), .int (nI s6.2.2.2), .int (nI tu), .int (nI pd)])), (lt, .inl (D.2.2.2.1, 220, .inl (nA LT)))] _ _ := hW.row 1 rfl (fun j hj => congrArg (nI) (e_38 j hj)) rfl
            have e_39 : (s6.2.2.1 : Int) = (tS6 LT len tTV tu (at_, fn, fa, na)).2.2.1 := by
              rw [← hS6]; first | done | rfl | (rw [pk_t (decide_eq_true (by assumption))]; done) | (rw [pk_f (decide_eq_false (by assumption))]; done)
            have e_40 : (s6.2.1 : Nat) = (tS6 LT len tTV tu (at_, fn, fa, na)).2.1 := by
              clear e_39
              rw [← hS6]; first | done | rfl | (rw [pk_t (decide_eq_true (by assumption))]; done) | (rw [pk_f (decide_eq_false (by assumption))]; done)
            have e_41 : (s6.1 : Nat) = (tS6 LT len tTV tu (at_, fn, fa, na)).1 := by
              clear e_39 e_40
              rw [← hS6]; first | done | rfl | (rw [pk_t (decide_eq_true (by assumption))]; done) | (rw [pk_f (decide_eq_false (by assumption))]; done)
            have e_42 : (s6.2.2.2 : Nat) = (tS6 LT len tTV tu (at_, fn, fa, na)).2.2.2 := by
              clear e_39 e_40 e_41
              rw [← hS6]; first | done | rfl | (rw [pk_t (decide_eq_true (by assumption))]; done) | (rw [pk_f (decide_eq_false (by assumption))]; done)
            have e_43 : (tu : Nat) = pk (decide ((tS6 LT len tTV tu (at_, fn, fa, na)).2.1 = 0)) (tu + 1) tu := by
              clear e_39 e_40 e_41 e_42
              rw [← hS6]; first | done | rfl | (rw [pk_t (decide_eq_true (by assumption))]; done) | (rw [pk_f (decide_eq_false (by assumption))]; done)
            exact hret _ _ _ _ dX5_readTurn_109 (hW.conv [2, 3, 0, 1] (w1 := [(tx, .inr (5, [.ref lt, .int (nI len), .int (iI s6.2.2.1), .int (nI s6.2.1), .int (nI s6.1), .int (nI s6.2.2.2), .int (nI tu), .int (nI pd)])), (lt, .inl (D.2.2.2.1, 220, .inl (nA LT))), (tb, .inr (0, [.int (nI thd.toNat), .int (nI tlo), .int (iI ((te : Int) - 1)), .int (nI thn.toNat), .int (nI tcu), .ref tsc, .ref tfg, .ref ttv, .ref tpr])), (ttv, .inl (D.2.1, 10, .inl (nA (selN (decide ((tS6 LT len tTV tu (at_, fn, fa, na)).2.1 = 0)) (va_up (va_up tTV (tA LT len tu (at_, fn, fa, na)) (tB LT len tTV tu (at_, fn, fa, na))) (tB LT len tTV tu (at_, fn, fa, na)) (tA LT len tu (at_, fn, fa, na))) tTV))))]) (w2 := [(tx, .inr (5, [.ref lt, .int (nI len), .int (iI ((tS6 LT len tTV tu (at_, fn, fa, na)).2.2.1)), .int (nI ((tS6 LT len tTV tu (at_, fn, fa, na)).2.1)), .int (nI ((tS6 LT len tTV tu (at_, fn, fa, na)).1)), .int (nI ((tS6 LT len tTV tu (at_, fn, fa, na)).2.2.2)), .int (nI (pk (decide ((tS6 LT len tTV tu (at_, fn, fa, na)).2.1 = 0)) (tu + 1) tu)), .int (nI pd)])), (lt, .inl (D.2.2.2.1, 220, .inl (nA LT))), (tb, .inr (0, [.int (nI thd.toNat), .int (nI tlo), .int (iI ((te : Int) - 1)), .int (nI thn.toNat), .int (nI tcu), .ref tsc, .ref tfg, .ref ttv, .ref tpr])), (ttv, .inl (D.2.1, 10, .inl (nA (selN (decide ((tS6 LT len tTV tu (at_, fn, fa, na)).2.1 = 0)) (va_up (va_up tTV (tA LT len tu (at_, fn, fa, na)) (tB LT len tTV tu (at_, fn, fa, na))) (tB LT len tTV tu (at_, fn, fa, na)) (tA LT len tu (at_, fn, fa, na))) tTV))))]) rfl rfl (cE (congrArg (fun z => ((tx, .inr (5, z)) : Nat × va_E)) (cE rfl (cE rfl (cE (congrArg Value.int (congrArg (fun z : Int => iI z) e_39)) (cE (congrArg Value.int (congrArg (fun z : Nat => nI z) e_40)) (cE (congrArg Value.int (congrArg (fun z : Nat => nI z) e_41)) (cE (congrArg Value.int (congrArg (fun z : Nat => nI z) e_42)) (cE (congrArg Value.int (congrArg (fun z : Nat => nI z) e_43)) (cE rfl rfl))))))))) (cE rfl (cE rfl (cE rfl rfl)))))
          · refine x_aload_n hx dX5_readTurn_85 hl 3 rfl ?_
            refine x_get0 hx hW.1 0 rfl 7 (Nat.le_of_ble_eq_true rfl) wf_RX5_114 rfl dX5_readTurn_86 ?_
            refine x_iload_n hx dX5_readTurn_89 hl 1 rfl ?_
            refine x_iload_n hx dX5_readTurn_90 hl 0 rfl ?_
            have hj_91 : v1 < 10 := by omega
            have b_44 : ∀ k, k < 10 → (va_up tTV v1 v2) k < 10 := bnd_up htTV (by omega)
            refine x_iast hx hW 1 rfl hj_91 (by decide) (upd_nA _ _ _) dX5_readTurn_91 [(tb, .inr (0, [.int (nI thd.toNat), .int (nI tlo), .int (iI ((te : Int) - 1)), .int (nI thn.toNat), .int (nI tcu), .ref tsc, .ref tfg, .ref ttv, .ref tpr])), (ttv, .inl (D.2.1, 10, .inl (nA (va_up tTV v1 v2)))), (tx, .inr (5, [.ref lt, .int (nI len), .int (iI s6.2.2.1), .int (nI s6.2.1), .int (nI s6.1), .int (nI s6.2.2.2), .int (nI tu), .int (nI pd)])), (lt, .inl (D.2.2.2.1, 220, .inl (nA LT)))] rfl (fun H locs hW => ?_)
            refine x_aload_n hx dX5_readTurn_92 hl 3 rfl ?_
            refine x_get0 hx hW.1 0 rfl 7 (Nat.le_of_ble_eq_true rfl) wf_RX5_114 rfl dX5_readTurn_93 ?_
            refine x_iload_n hx dX5_readTurn_96 hl 0 rfl ?_
            refine x_iload_n hx dX5_readTurn_97 hl 1 rfl ?_
            have hj_98 : v2 < 10 := by omega
            have b_45 : ∀ k, k < 10 → (va_up (va_up tTV v1 v2) v2 v1) k < 10 := bnd_up b_44 (by omega)
            refine x_iast hx hW 1 rfl hj_98 (by decide) (upd_nA _ _ _) dX5_readTurn_98 [(tb, .inr (0, [.int (nI thd.toNat), .int (nI tlo), .int (iI ((te : Int) - 1)), .int (nI thn.toNat), .int (nI tcu), .ref tsc, .ref tfg, .ref ttv, .ref tpr])), (ttv, .inl (D.2.1, 10, .inl (nA (va_up (va_up tTV v1 v2) v2 v1)))), (tx, .inr (5, [.ref lt, .int (nI len), .int (iI s6.2.2.1), .int (nI s6.2.1), .int (nI s6.1), .int (nI s6.2.2.2), .int (nI tu), .int (nI pd)])), (lt, .inl (D.2.2.2.1, 220, .inl (nA LT)))] rfl (fun H locs hW => ?_)
            refine x_aload_n hx dX5_readTurn_99 hl 2 rfl ?_
            refine x_dup hx dX5_readTurn_100 rfl ?_
            refine x_get5 hx hW.1 2 rfl 6 (Nat.le_of_ble_eq_true rfl) wf_RX5_31 rfl dX5_readTurn_101 ?_
            refine x_iconst (v := nI 1) hx dX5_readTurn_104 (by decide) ?_
            refine x_iadd (v := nI (tu + 1)) hx dX5_readTurn_105 (nI_add _ _) ?_
            refine x_put5 hx hW 2 rfl 6 (Nat.le_of_ble_eq_true rfl) wf_RX5_31 rfl rfl rfl (Nat.le_of_ble_eq_true rfl) dX5_readTurn_106 [(tb, .inr (0, [.int (nI thd.toNat), .int (nI tlo), .int (iI ((te : Int) - 1)), .int (nI thn.toNat), .int (nI tcu), .ref tsc, .ref tfg, .ref ttv, .ref tpr])), (ttv, .inl (D.2.1, 10, .inl (nA (va_up (va_up tTV v1 v2) v2 v1)))), (tx, .inr (5, [.ref lt, .int (nI len), .int (iI s6.2.2.1), .int (nI s6.2.1), .int (nI s6.1), .int (nI s6.2.2.2), .int (nI (tu + 1)), .int (nI pd)])), (lt, .inl (D.2.2.2.1, 220, .inl (nA LT)))] rfl (fun H locs hW => ?_)
            have e_46 : ∀ k, k < 10 → (va_up (va_up tTV v1 v2) v2 v1) k = (selN (decide ((tS6 LT len tTV tu (at_, fn, fa, na)).2.1 = 0)) (va_up (va_up tTV (tA LT len tu (at_, fn, fa, na)) (tB LT len tTV tu (at_, fn, fa, na))) (tB LT len tTV tu (at_, fn, fa, na)) (tA LT len tu (at_, fn, fa, na))) tTV) k := by
              intro k hk
              rw [← hS6, ← hvA, ← hvB]; first | exact (sel_t (decide_eq_true (by assumption)) k).symm | exact (sel_f (decide_eq_false (by assumption)) k).symm
            have hW : Wd X D A [(tb, .inr (0, [.int (nI thd.toNat), .int (nI tlo), .int (iI ((te : Int) - 1)), .int (nI thn.toNat), .int (nI tcu), .ref tsc, .ref tfg, .ref ttv, .ref tpr])), (ttv, .inl (D.2.1, 10, .inl (nA (selN (decide ((tS6 LT len tTV tu (at_, fn, fa, na)).2.1 = 0)) (va_up (va_up tTV (tA LT len tu (at_, fn, fa, na)) (tB LT len tTV tu (at_, fn, fa, na))) (tB LT len tTV tu (at_, fn, fa, na)) (tA LT len tu (at_, fn, fa, na))) tTV)))), (tx, .inr (5, [.ref lt, .int (nI len), .int (iI s6.2.2.1), .int (nI s6.2.1), .int (nI s6.1), .int (nI s6.2.2.2), .int (nI (tu + 1)), .int (nI pd)])), (lt, .inl (D.2.2.2.1, 220, .inl (nA LT)))] _ _ := hW.row 1 rfl (fun j hj => congrArg (nI) (e_46 j hj)) rfl
            have e_47 : (s6.2.2.1 : Int) = (tS6 LT len tTV tu (at_, fn, fa, na)).2.2.1 := by
              rw [← hS6]; first | done | rfl | (rw [pk_t (decide_eq_true (by assumption))]; done) | (rw [pk_f (decide_eq_false (by assumption))]; done)
            have e_48 : (s6.2.1 : Nat) = (tS6 LT len tTV tu (at_, fn, fa, na)).2.1 := by
              clear e_47
              rw [← hS6]; first | done | rfl | (rw [pk_t (decide_eq_true (by assumption))]; done) | (rw [pk_f (decide_eq_false (by assumption))]; done)
            have e_49 : (s6.1 : Nat) = (tS6 LT len tTV tu (at_, fn, fa, na)).1 := by
              clear e_47 e_48
              rw [← hS6]; first | done | rfl | (rw [pk_t (decide_eq_true (by assumption))]; done) | (rw [pk_f (decide_eq_false (by assumption))]; done)
            have e_50 : (s6.2.2.2 : Nat) = (tS6 LT len tTV tu (at_, fn, fa, na)).2.2.2 := by
              clear e_47 e_48 e_49
              rw [← hS6]; first | done | rfl | (rw [pk_t (decide_eq_true (by assumption))]; done) | (rw [pk_f (decide_eq_false (by assumption))]; done)
            have e_51 : (tu + 1 : Nat) = pk (decide ((tS6 LT len tTV tu (at_, fn, fa, na)).2.1 = 0)) (tu + 1) tu := by
              clear e_47 e_48 e_49 e_50
              rw [← hS6]; first | done | rfl | (rw [pk_t (decide_eq_true (by assumption))]; done) | (rw [pk_f (decide_eq_false (by assumption))]; done)
            exact hret _ _ _ _ dX5_readTurn_109 (hW.conv [2, 3, 0, 1] (w1 := [(tx, .inr (5, [.ref lt, .int (nI len), .int (iI s6.2.2.1), .int (nI s6.2.1), .int (nI s6.1), .int (nI s6.2.2.2), .int (nI (tu + 1)), .int (nI pd)])), (lt, .inl (D.2.2.2.1, 220, .inl (nA LT))), (tb, .inr (0, [.int (nI thd.toNat), .int (nI tlo), .int (iI ((te : Int) - 1)), .int (nI thn.toNat), .int (nI tcu), .ref tsc, .ref tfg, .ref ttv, .ref tpr])), (ttv, .inl (D.2.1, 10, .inl (nA (selN (decide ((tS6 LT len tTV tu (at_, fn, fa, na)).2.1 = 0)) (va_up (va_up tTV (tA LT len tu (at_, fn, fa, na)) (tB LT len tTV tu (at_, fn, fa, na))) (tB LT len tTV tu (at_, fn, fa, na)) (tA LT len tu (at_, fn, fa, na))) tTV))))]) (w2 := [(tx, .inr (5, [.ref lt, .int (nI len), .int (iI ((tS6 LT len tTV tu (at_, fn, fa, na)).2.2.1)), .int (nI ((tS6 LT len tTV tu (at_, fn, fa, na)).2.1)), .int (nI ((tS6 LT len tTV tu (at_, fn, fa, na)).1)), .int (nI ((tS6 LT len tTV tu (at_, fn, fa, na)).2.2.2)), .int (nI (pk (decide ((tS6 LT len tTV tu (at_, fn, fa, na)).2.1 = 0)) (tu + 1) tu)), .int (nI pd)])), (lt, .inl (D.2.2.2.1, 220, .inl (nA LT))), (tb, .inr (0, [.int (nI thd.toNat), .int (nI tlo), .int (iI ((te : Int) - 1)), .int (nI thn.toNat), .int (nI tcu), .ref tsc, .ref tfg, .ref ttv, .ref tpr])), (ttv, .inl (D.2.1, 10, .inl (nA (selN (decide ((tS6 LT len tTV tu (at_, fn, fa, na)).2.1 = 0)) (va_up (va_up tTV (tA LT len tu (at_, fn, fa, na)) (tB LT len tTV tu (at_, fn, fa, na))) (tB LT len tTV tu (at_, fn, fa, na)) (tA LT len tu (at_, fn, fa, na))) tTV))))]) rfl rfl (cE (congrArg (fun z => ((tx, .inr (5, z)) : Nat × va_E)) (cE rfl (cE rfl (cE (congrArg Value.int (congrArg (fun z : Int => iI z) e_47)) (cE (congrArg Value.int (congrArg (fun z : Nat => nI z) e_48)) (cE (congrArg Value.int (congrArg (fun z : Nat => nI z) e_49)) (cE (congrArg Value.int (congrArg (fun z : Nat => nI z) e_50)) (cE (congrArg Value.int (congrArg (fun z : Nat => nI z) e_51)) (cE rfl rfl))))))))) (cE rfl (cE rfl (cE rfl rfl)))))
    · refine x_aload_n hx dX5_readTurn_34 hl 1 rfl ?_
      refine x_iconst (v := nI 4) hx dX5_readTurn_35 (by decide) ?_
      refine x_aload_n hx dX5_readTurn_36 hl 1 rfl ?_
      refine x_get5 hx hW.1 2 rfl 5 (Nat.le_of_ble_eq_true rfl) wf_RX5_28 rfl dX5_readTurn_37 ?_
      obtain ⟨s3, hs3⟩ : ∃ z : TS, z = blS 4 s2.2.2.2 s2 := ⟨_, rfl⟩
      refine x_callVV (As := [.int (nI 4), .int (nI s2.2.2.2)]) (rest := []) (wr := [(tb, .inr (0, [.int (nI thd.toNat), .int (nI tlo), .int (iI ((te : Int) - 1)), .int (nI thn.toNat), .int (nI tcu), .ref tsc, .ref tfg, .ref ttv, .ref tpr])), (ttv, .inl (D.2.1, 10, .inl (nA tTV))), (lt, .inl (D.2.2.2.1, 220, .inl (nA LT)))]) hx yv_X5_blame (c_X5_blame _ D tx lt len s2.2.2.1 s2.2.1 s2.1 s2.2.2.2 tu pd 4 (s2.2.2.2 : Int) (by first | assumption | omega | (simp [*]; done))) wm_RX5_67 hA hW [2] [0, 1, 3] rfl rfl rfl rfl rfl 2 rfl rfl ⟨rfl, rfl⟩ ⟨Nat.le_of_ble_eq_true rfl, Nat.le_of_ble_eq_true rfl⟩ ⟨Nat.zero_le _, Nat.zero_le _⟩ hl rfl rfl (Nat.le_of_ble_eq_true rfl) dX5_readTurn_40 [(tb, .inr (0, [.int (nI thd.toNat), .int (nI tlo), .int (iI ((te : Int) - 1)), .int (nI thn.toNat), .int (nI tcu), .ref tsc, .ref tfg, .ref ttv, .ref tpr])), (ttv, .inl (D.2.1, 10, .inl (nA tTV))), (lt, .inl (D.2.2.2.1, 220, .inl (nA LT))), (tx, .inr (5, [.ref lt, .int (nI len), .int (iI s3.2.2.1), .int (nI s3.2.1), .int (nI s3.1), .int (nI s3.2.2.2), .int (nI tu), .int (nI pd)]))] (by subst hs3; rfl) (fun H locs hW => ?_)
      have ho_s3 : tsOk len s3 := by rw [hs3]; exact blS_ok (by decide) (by omega) ho_s2
      obtain ⟨ho_s3a, ho_s3b, ho_s3c, ho_s3d, ho_s3e⟩ := ho_s3
      have ho_s3 : tsOk len s3 := ⟨ho_s3a, ho_s3b, ho_s3c, ho_s3d, ho_s3e⟩
      have hS3 : s3 = tS3 LT len tTV tu (at_, fn, fa, na) := by rw [tS3, ← hvA, if_neg (by assumption), ← hS2]; exact hs3
      refine x_aload_n hx dX5_readTurn_43 hl 1 rfl ?_
      refine x_bipush (v := nI 9) hx dX5_readTurn_44 (by decide) ?_
      obtain ⟨s4, hs4⟩ : ∃ z : TS, z = rnS LT len 9 s3 := ⟨_, rfl⟩
      refine x_callMV (As := [.int (nI 9)]) (rest := []) (wr := [(tb, .inr (0, [.int (nI thd.toNat), .int (nI tlo), .int (iI ((te : Int) - 1)), .int (nI thn.toNat), .int (nI tcu), .ref tsc, .ref tfg, .ref ttv, .ref tpr])), (ttv, .inl (D.2.1, 10, .inl (nA tTV)))]) hx yv_X5_readNumber (c_X5_readNumber _ D tx lt len s3.2.2.1 s3.2.1 s3.1 s3.2.2.2 tu pd LT 9 (by first | assumption | omega | (simp [*]; done)) (by first | assumption | omega | (simp [*]; done)) (by first | assumption | omega | (simp [*]; done)) (by first | assumption | omega | (simp [*]; done)) (by first | assumption | omega | (simp [*]; done))) wm_RX5_84 hA hW [3, 2] [0, 1] rfl rfl rfl rfl rfl 3 rfl rfl ⟨rfl, rfl⟩ ⟨Nat.le_of_ble_eq_true rfl, Nat.le_of_ble_eq_true rfl⟩ ⟨Nat.zero_le _, Nat.zero_le _⟩ hl rfl rfl (Nat.le_of_ble_eq_true rfl) dX5_readTurn_46 [(tb, .inr (0, [.int (nI thd.toNat), .int (nI tlo), .int (iI ((te : Int) - 1)), .int (nI thn.toNat), .int (nI tcu), .ref tsc, .ref tfg, .ref ttv, .ref tpr])), (ttv, .inl (D.2.1, 10, .inl (nA tTV))), (tx, .inr (5, [.ref lt, .int (nI len), .int (iI s4.2.2.1), .int (nI s4.2.1), .int (nI s4.1), .int (nI s4.2.2.2), .int (nI tu), .int (nI pd)])), (lt, .inl (D.2.2.2.1, 220, .inl (nA LT)))] (by subst hs4; rfl) (fun H locs hW => ?_)
      obtain ⟨v2, hv2⟩ : ∃ z : Nat, z = rnV LT len 9 s3 := ⟨_, rfl⟩
      have hle_v2 : v2 ≤ 9 := by rw [hv2]; exact rnV_le
      refine x_top (u := nI v2) (congrArg nI hv2.symm) ?_
      have hvB : v2 = tB LT len tTV tu (at_, fn, fa, na) := by rw [tB, ← hS3]; exact hv2
      have ho_s4 : tsOk len s4 := by rw [hs4]; exact rnS_ok hlen ho_s3
      obtain ⟨ho_s4a, ho_s4b, ho_s4c, ho_s4d, ho_s4e⟩ := ho_s4
      have ho_s4 : tsOk len s4 := ⟨ho_s4a, ho_s4b, ho_s4c, ho_s4d, ho_s4e⟩
      have hS4 : s4 = tS4 LT len tTV tu (at_, fn, fa, na) := by rw [tS4, ← hS3]; exact hs4
      refine x_istore_n (lv' := [(3, .int (nI v2)), (2, .int (nI v1)), (0, .ref tx), (1, .ref tb)]) hx dX5_readTurn_49 hl (Nat.le_of_ble_eq_true rfl) rfl (fun ls hl => ?_)
      refine x_iload_n hx dX5_readTurn_50 hl 0 rfl ?_
      refine x_iload_n hx dX5_readTurn_51 hl 1 rfl ?_
      refine x_icmp_eq_N (a := v2) (b := v1) (tgt := 65) hx dX5_readTurn_52 (by decide) (by omega) (by omega) (fun h_52 => ?_) (fun h_52 => ?_)
      · refine x_aload_n hx dX5_readTurn_65 hl 2 rfl ?_
        refine x_iconst (v := nI 4) hx dX5_readTurn_66 (by decide) ?_
        refine x_aload_n hx dX5_readTurn_67 hl 2 rfl ?_
        refine x_get5 hx hW.1 2 rfl 5 (Nat.le_of_ble_eq_true rfl) wf_RX5_28 rfl dX5_readTurn_68 ?_
        obtain ⟨s5, hs5⟩ : ∃ z : TS, z = blS 4 s4.2.2.2 s4 := ⟨_, rfl⟩
        refine x_callVV (As := [.int (nI 4), .int (nI s4.2.2.2)]) (rest := []) (wr := [(tb, .inr (0, [.int (nI thd.toNat), .int (nI tlo), .int (iI ((te : Int) - 1)), .int (nI thn.toNat), .int (nI tcu), .ref tsc, .ref tfg, .ref ttv, .ref tpr])), (ttv, .inl (D.2.1, 10, .inl (nA tTV))), (lt, .inl (D.2.2.2.1, 220, .inl (nA LT)))]) hx yv_X5_blame (c_X5_blame _ D tx lt len s4.2.2.1 s4.2.1 s4.1 s4.2.2.2 tu pd 4 (s4.2.2.2 : Int) (by first | assumption | omega | (simp [*]; done))) wm_RX5_67 hA hW [2] [0, 1, 3] rfl rfl rfl rfl rfl 2 rfl rfl ⟨rfl, rfl⟩ ⟨Nat.le_of_ble_eq_true rfl, Nat.le_of_ble_eq_true rfl⟩ ⟨Nat.zero_le _, Nat.zero_le _⟩ hl rfl rfl (Nat.le_of_ble_eq_true rfl) dX5_readTurn_71 [(tb, .inr (0, [.int (nI thd.toNat), .int (nI tlo), .int (iI ((te : Int) - 1)), .int (nI thn.toNat), .int (nI tcu), .ref tsc, .ref tfg, .ref ttv, .ref tpr])), (ttv, .inl (D.2.1, 10, .inl (nA tTV))), (lt, .inl (D.2.2.2.1, 220, .inl (nA LT))), (tx, .inr (5, [.ref lt, .int (nI len), .int (iI s5.2.2.1), .int (nI s5.2.1), .int (nI s5.1), .int (nI s5.2.2.2), .int (nI tu), .int (nI pd)]))] (by subst hs5; rfl) (fun H locs hW => ?_)
        have ho_s5 : tsOk len s5 := by rw [hs5]; exact blS_ok (by decide) (by omega) ho_s4
        obtain ⟨ho_s5a, ho_s5b, ho_s5c, ho_s5d, ho_s5e⟩ := ho_s5
        have ho_s5 : tsOk len s5 := ⟨ho_s5a, ho_s5b, ho_s5c, ho_s5d, ho_s5e⟩
        have hS5 : s5 = tS5 LT len tTV tu (at_, fn, fa, na) := by rw [tS5, ← hvA, ← hvB, if_pos (by first | exact Or.inl (by assumption) | exact Or.inr (by assumption)), ← hS4]; exact hs5
        refine x_aload_n hx dX5_readTurn_74 hl 2 rfl ?_
        obtain ⟨s6, hs6⟩ : ∃ z : TS, z = reS LT len s5 := ⟨_, rfl⟩
        refine x_callVV (As := []) (rest := []) (wr := [(tb, .inr (0, [.int (nI thd.toNat), .int (nI tlo), .int (iI ((te : Int) - 1)), .int (nI thn.toNat), .int (nI tcu), .ref tsc, .ref tfg, .ref ttv, .ref tpr])), (ttv, .inl (D.2.1, 10, .inl (nA tTV)))]) hx yv_X5_readEnd (c_X5_readEnd _ D tx lt len s5.2.2.1 s5.2.1 s5.1 s5.2.2.2 tu pd LT (by first | assumption | omega | (simp [*]; done)) (by first | assumption | omega | (simp [*]; done)) (by first | assumption | omega | (simp [*]; done)) (by first | assumption | omega | (simp [*]; done))) wm_RX5_88 hA hW [3, 2] [0, 1] rfl rfl rfl rfl rfl 3 rfl rfl ⟨rfl, rfl⟩ ⟨Nat.le_of_ble_eq_true rfl, Nat.le_of_ble_eq_true rfl⟩ ⟨Nat.zero_le _, Nat.zero_le _⟩ hl rfl rfl (Nat.le_of_ble_eq_true rfl) dX5_readTurn_75 [(tb, .inr (0, [.int (nI thd.toNat), .int (nI tlo), .int (iI ((te : Int) - 1)), .int (nI thn.toNat), .int (nI tcu), .ref tsc, .ref tfg, .ref ttv, .ref tpr])), (ttv, .inl (D.2.1, 10, .inl (nA tTV))), (tx, .inr (5, [.ref lt, .int (nI len), .int (iI s6.2.2.1), .int (nI s6.2.1), .int (nI s6.1), .int (nI s6.2.2.2), .int (nI tu), .int (nI pd)])), (lt, .inl (D.2.2.2.1, 220, .inl (nA LT)))] (by subst hs6; rfl) (fun H locs hW => ?_)
        have ho_s6 : tsOk len s6 := by rw [hs6]; exact reS_ok hlen ho_s5
        obtain ⟨ho_s6a, ho_s6b, ho_s6c, ho_s6d, ho_s6e⟩ := ho_s6
        have ho_s6 : tsOk len s6 := ⟨ho_s6a, ho_s6b, ho_s6c, ho_s6d, ho_s6e⟩
        have hS6 : s6 = tS6 LT len tTV tu (at_, fn, fa, na) := by rw [tS6, ← hS5]; exact hs6
        refine x_aload_n hx dX5_readTurn_78 hl 2 rfl ?_
        refine x_get5 hx hW.1 2 rfl 3 (Nat.le_of_ble_eq_true rfl) wf_RX5_22 rfl dX5_readTurn_79 ?_
        refine x_if_ne_N (a := s6.2.1) (tgt := 109) hx dX5_readTurn_82 (by decide) (by omega) (fun h_53 => ?_) (fun h_53 => ?_)
        · have e_54 : ∀ k, k < 10 → (tTV) k = (selN (decide ((tS6 LT len tTV tu (at_, fn, fa, na)).2.1 = 0)) (va_up (va_up tTV (tA LT len tu (at_, fn, fa, na)) (tB LT len tTV tu (at_, fn, fa, na))) (tB LT len tTV tu (at_, fn, fa, na)) (tA LT len tu (at_, fn, fa, na))) tTV) k := by
            intro k hk
            rw [← hS6, ← hvA, ← hvB]; first | exact (sel_t (decide_eq_true (by assumption)) k).symm | exact (sel_f (decide_eq_false (by assumption)) k).symm
          have hW : Wd X D A [(tb, .inr (0, [.int (nI thd.toNat), .int (nI tlo), .int (iI ((te : Int) - 1)), .int (nI thn.toNat), .int (nI tcu), .ref tsc, .ref tfg, .ref ttv, .ref tpr])), (ttv, .inl (D.2.1, 10, .inl (nA (selN (decide ((tS6 LT len tTV tu (at_, fn, fa, na)).2.1 = 0)) (va_up (va_up tTV (tA LT len tu (at_, fn, fa, na)) (tB LT len tTV tu (at_, fn, fa, na))) (tB LT len tTV tu (at_, fn, fa, na)) (tA LT len tu (at_, fn, fa, na))) tTV)))), (tx, .inr (5, [.ref lt, .int (nI len), .int (iI s6.2.2.1), .int (nI s6.2.1), .int (nI s6.1), .int (nI s6.2.2.2), .int (nI tu), .int (nI pd)])), (lt, .inl (D.2.2.2.1, 220, .inl (nA LT)))] _ _ := hW.row 1 rfl (fun j hj => congrArg (nI) (e_54 j hj)) rfl
          have e_55 : (s6.2.2.1 : Int) = (tS6 LT len tTV tu (at_, fn, fa, na)).2.2.1 := by
            rw [← hS6]; first | done | rfl | (rw [pk_t (decide_eq_true (by assumption))]; done) | (rw [pk_f (decide_eq_false (by assumption))]; done)
          have e_56 : (s6.2.1 : Nat) = (tS6 LT len tTV tu (at_, fn, fa, na)).2.1 := by
            clear e_55
            rw [← hS6]; first | done | rfl | (rw [pk_t (decide_eq_true (by assumption))]; done) | (rw [pk_f (decide_eq_false (by assumption))]; done)
          have e_57 : (s6.1 : Nat) = (tS6 LT len tTV tu (at_, fn, fa, na)).1 := by
            clear e_55 e_56
            rw [← hS6]; first | done | rfl | (rw [pk_t (decide_eq_true (by assumption))]; done) | (rw [pk_f (decide_eq_false (by assumption))]; done)
          have e_58 : (s6.2.2.2 : Nat) = (tS6 LT len tTV tu (at_, fn, fa, na)).2.2.2 := by
            clear e_55 e_56 e_57
            rw [← hS6]; first | done | rfl | (rw [pk_t (decide_eq_true (by assumption))]; done) | (rw [pk_f (decide_eq_false (by assumption))]; done)
          have e_59 : (tu : Nat) = pk (decide ((tS6 LT len tTV tu (at_, fn, fa, na)).2.1 = 0)) (tu + 1) tu := by
            clear e_55 e_56 e_57 e_58
            rw [← hS6]; first | done | rfl | (rw [pk_t (decide_eq_true (by assumption))]; done) | (rw [pk_f (decide_eq_false (by assumption))]; done)
          exact hret _ _ _ _ dX5_readTurn_109 (hW.conv [2, 3, 0, 1] (w1 := [(tx, .inr (5, [.ref lt, .int (nI len), .int (iI s6.2.2.1), .int (nI s6.2.1), .int (nI s6.1), .int (nI s6.2.2.2), .int (nI tu), .int (nI pd)])), (lt, .inl (D.2.2.2.1, 220, .inl (nA LT))), (tb, .inr (0, [.int (nI thd.toNat), .int (nI tlo), .int (iI ((te : Int) - 1)), .int (nI thn.toNat), .int (nI tcu), .ref tsc, .ref tfg, .ref ttv, .ref tpr])), (ttv, .inl (D.2.1, 10, .inl (nA (selN (decide ((tS6 LT len tTV tu (at_, fn, fa, na)).2.1 = 0)) (va_up (va_up tTV (tA LT len tu (at_, fn, fa, na)) (tB LT len tTV tu (at_, fn, fa, na))) (tB LT len tTV tu (at_, fn, fa, na)) (tA LT len tu (at_, fn, fa, na))) tTV))))]) (w2 := [(tx, .inr (5, [.ref lt, .int (nI len), .int (iI ((tS6 LT len tTV tu (at_, fn, fa, na)).2.2.1)), .int (nI ((tS6 LT len tTV tu (at_, fn, fa, na)).2.1)), .int (nI ((tS6 LT len tTV tu (at_, fn, fa, na)).1)), .int (nI ((tS6 LT len tTV tu (at_, fn, fa, na)).2.2.2)), .int (nI (pk (decide ((tS6 LT len tTV tu (at_, fn, fa, na)).2.1 = 0)) (tu + 1) tu)), .int (nI pd)])), (lt, .inl (D.2.2.2.1, 220, .inl (nA LT))), (tb, .inr (0, [.int (nI thd.toNat), .int (nI tlo), .int (iI ((te : Int) - 1)), .int (nI thn.toNat), .int (nI tcu), .ref tsc, .ref tfg, .ref ttv, .ref tpr])), (ttv, .inl (D.2.1, 10, .inl (nA (selN (decide ((tS6 LT len tTV tu (at_, fn, fa, na)).2.1 = 0)) (va_up (va_up tTV (tA LT len tu (at_, fn, fa, na)) (tB LT len tTV tu (at_, fn, fa, na))) (tB LT len tTV tu (at_, fn, fa, na)) (tA LT len tu (at_, fn, fa, na))) tTV))))]) rfl rfl (cE (congrArg (fun z => ((tx, .inr (5, z)) : Nat × va_E)) (cE rfl (cE rfl (cE (congrArg Value.int (congrArg (fun z : Int => iI z) e_55)) (cE (congrArg Value.int (congrArg (fun z : Nat => nI z) e_56)) (cE (congrArg Value.int (congrArg (fun z : Nat => nI z) e_57)) (cE (congrArg Value.int (congrArg (fun z : Nat => nI z) e_58)) (cE (congrArg Value.int (congrArg (fun z : Nat => nI z) e_59)) (cE rfl rfl))))))))) (cE rfl (cE rfl (cE rfl rfl)))))
        · refine x_aload_n hx dX5_readTurn_85 hl 3 rfl ?_
          refine x_get0 hx hW.1 0 rfl 7 (Nat.le_of_ble_eq_true rfl) wf_RX5_114 rfl dX5_readTurn_86 ?_
          refine x_iload_n hx dX5_readTurn_89 hl 1 rfl ?_
          refine x_iload_n hx dX5_readTurn_90 hl 0 rfl ?_
          have hj_91 : v1 < 10 := by omega
          have b_60 : ∀ k, k < 10 → (va_up tTV v1 v2) k < 10 := bnd_up htTV (by omega)
          refine x_iast hx hW 1 rfl hj_91 (by decide) (upd_nA _ _ _) dX5_readTurn_91 [(tb, .inr (0, [.int (nI thd.toNat), .int (nI tlo), .int (iI ((te : Int) - 1)), .int (nI thn.toNat), .int (nI tcu), .ref tsc, .ref tfg, .ref ttv, .ref tpr])), (ttv, .inl (D.2.1, 10, .inl (nA (va_up tTV v1 v2)))), (tx, .inr (5, [.ref lt, .int (nI len), .int (iI s6.2.2.1), .int (nI s6.2.1), .int (nI s6.1), .int (nI s6.2.2.2), .int (nI tu), .int (nI pd)])), (lt, .inl (D.2.2.2.1, 220, .inl (nA LT)))] rfl (fun H locs hW => ?_)
          refine x_aload_n hx dX5_readTurn_92 hl 3 rfl ?_
          refine x_get0 hx hW.1 0 rfl 7 (Nat.le_of_ble_eq_true rfl) wf_RX5_114 rfl dX5_readTurn_93 ?_
          refine x_iload_n hx dX5_readTurn_96 hl 0 rfl ?_
          refine x_iload_n hx dX5_readTurn_97 hl 1 rfl ?_
          have hj_98 : v2 < 10 := by omega
          have b_61 : ∀ k, k < 10 → (va_up (va_up tTV v1 v2) v2 v1) k < 10 := bnd_up b_60 (by omega)
          refine x_iast hx hW 1 rfl hj_98 (by decide) (upd_nA _ _ _) dX5_readTurn_98 [(tb, .inr (0, [.int (nI thd.toNat), .int (nI tlo), .int (iI ((te : Int) - 1)), .int (nI thn.toNat), .int (nI tcu), .ref tsc, .ref tfg, .ref ttv, .ref tpr])), (ttv, .inl (D.2.1, 10, .inl (nA (va_up (va_up tTV v1 v2) v2 v1)))), (tx, .inr (5, [.ref lt, .int (nI len), .int (iI s6.2.2.1), .int (nI s6.2.1), .int (nI s6.1), .int (nI s6.2.2.2), .int (nI tu), .int (nI pd)])), (lt, .inl (D.2.2.2.1, 220, .inl (nA LT)))] rfl (fun H locs hW => ?_)
          refine x_aload_n hx dX5_readTurn_99 hl 2 rfl ?_
          refine x_dup hx dX5_readTurn_100 rfl ?_
          refine x_get5 hx hW.1 2 rfl 6 (Nat.le_of_ble_eq_true rfl) wf_RX5_31 rfl dX5_readTurn_101 ?_
          refine x_iconst (v := nI 1) hx dX5_readTurn_104 (by decide) ?_
          refine x_iadd (v := nI (tu + 1)) hx dX5_readTurn_105 (nI_add _ _) ?_
          refine x_put5 hx hW 2 rfl 6 (Nat.le_of_ble_eq_true rfl) wf_RX5_31 rfl rfl rfl (Nat.le_of_ble_eq_true rfl) dX5_readTurn_106 [(tb, .inr (0, [.int (nI thd.toNat), .int (nI tlo), .int (iI ((te : Int) - 1)), .int (nI thn.toNat), .int (nI tcu), .ref tsc, .ref tfg, .ref ttv, .ref tpr])), (ttv, .inl (D.2.1, 10, .inl (nA (va_up (va_up tTV v1 v2) v2 v1)))), (tx, .inr (5, [.ref lt, .int (nI len), .int (iI s6.2.2.1), .int (nI s6.2.1), .int (nI s6.1), .int (nI s6.2.2.2), .int (nI (tu + 1)), .int (nI pd)])), (lt, .inl (D.2.2.2.1, 220, .inl (nA LT)))] rfl (fun H locs hW => ?_)
          have e_62 : ∀ k, k < 10 → (va_up (va_up tTV v1 v2) v2 v1) k = (selN (decide ((tS6 LT len tTV tu (at_, fn, fa, na)).2.1 = 0)) (va_up (va_up tTV (tA LT len tu (at_, fn, fa, na)) (tB LT len tTV tu (at_, fn, fa, na))) (tB LT len tTV tu (at_, fn, fa, na)) (tA LT len tu (at_, fn, fa, na))) tTV) k := by
            intro k hk
            rw [← hS6, ← hvA, ← hvB]; first | exact (sel_t (decide_eq_true (by assumption)) k).symm | exact (sel_f (decide_eq_false (by assumption)) k).symm
          have hW : Wd X D A [(tb, .inr (0, [.int (nI thd.toNat), .int (nI tlo), .int (iI ((te : Int) - 1)), .int (nI thn.toNat), .int (nI tcu), .ref tsc, .ref tfg, .ref ttv, .ref tpr])), (ttv, .inl (D.2.1, 10, .inl (nA (selN (decide ((tS6 LT len tTV tu (at_, fn, fa, na)).2.1 = 0)) (va_up (va_up tTV (tA LT len tu (at_, fn, fa, na)) (tB LT len tTV tu (at_, fn, fa, na))) (tB LT len tTV tu (at_, fn, fa, na)) (tA LT len tu (at_, fn, fa, na))) tTV)))), (tx, .inr (5, [.ref lt, .int (nI len), .int (iI s6.2.2.1), .int (nI s6.2.1), .int (nI s6.1), .int (nI s6.2.2.2), .int (nI (tu + 1)), .int (nI pd)])), (lt, .inl (D.2.2.2.1, 220, .inl (nA LT)))] _ _ := hW.row 1 rfl (fun j hj => congrArg (nI) (e_62 j hj)) rfl
          have e_63 : (s6.2.2.1 : Int) = (tS6 LT len tTV tu (at_, fn, fa, na)).2.2.1 := by
            rw [← hS6]; first | done | rfl | (rw [pk_t (decide_eq_true (by assumption))]; done) | (rw [pk_f (decide_eq_false (by assumption))]; done)
          have e_64 : (s6.2.1 : Nat) = (tS6 LT len tTV tu (at_, fn, fa, na)).2.1 := by
            clear e_63
            rw [← hS6]; first | done | rfl | (rw [pk_t (decide_eq_true (by assumption))]; done) | (rw [pk_f (decide_eq_false (by assumption))]; done)
          have e_65 : (s6.1 : Nat) = (tS6 LT len tTV tu (at_, fn, fa, na)).1 := by
            clear e_63 e_64
            rw [← hS6]; first | done | rfl | (rw [pk_t (decide_eq_true (by assumption))]; done) | (rw [pk_f (decide_eq_false (by assumption))]; done)
          have e_66 : (s6.2.2.2 : Nat) = (tS6 LT len tTV tu (at_, fn, fa, na)).2.2.2 := by
            clear e_63 e_64 e_65
            rw [← hS6]; first | done | rfl | (rw [pk_t (decide_eq_true (by assumption))]; done) | (rw [pk_f (decide_eq_false (by assumption))]; done)
          have e_67 : (tu + 1 : Nat) = pk (decide ((tS6 LT len tTV tu (at_, fn, fa, na)).2.1 = 0)) (tu + 1) tu := by
            clear e_63 e_64 e_65 e_66
            rw [← hS6]; first | done | rfl | (rw [pk_t (decide_eq_true (by assumption))]; done) | (rw [pk_f (decide_eq_false (by assumption))]; done)
          exact hret _ _ _ _ dX5_readTurn_109 (hW.conv [2, 3, 0, 1] (w1 := [(tx, .inr (5, [.ref lt, .int (nI len), .int (iI s6.2.2.1), .int (nI s6.2.1), .int (nI s6.1), .int (nI s6.2.2.2), .int (nI (tu + 1)), .int (nI pd)])), (lt, .inl (D.2.2.2.1, 220, .inl (nA LT))), (tb, .inr (0, [.int (nI thd.toNat), .int (nI tlo), .int (iI ((te : Int) - 1)), .int (nI thn.toNat), .int (nI tcu), .ref tsc, .ref tfg, .ref ttv, .ref tpr])), (ttv, .inl (D.2.1, 10, .inl (nA (selN (decide ((tS6 LT len tTV tu (at_, fn, fa, na)).2.1 = 0)) (va_up (va_up tTV (tA LT len tu (at_, fn, fa, na)) (tB LT len tTV tu (at_, fn, fa, na))) (tB LT len tTV tu (at_, fn, fa, na)) (tA LT len tu (at_, fn, fa, na))) tTV))))]) (w2 := [(tx, .inr (5, [.ref lt, .int (nI len), .int (iI ((tS6 LT len tTV tu (at_, fn, fa, na)).2.2.1)), .int (nI ((tS6 LT len tTV tu (at_, fn, fa, na)).2.1)), .int (nI ((tS6 LT len tTV tu (at_, fn, fa, na)).1)), .int (nI ((tS6 LT len tTV tu (at_, fn, fa, na)).2.2.2)), .int (nI (pk (decide ((tS6 LT len tTV tu (at_, fn, fa, na)).2.1 = 0)) (tu + 1) tu)), .int (nI pd)])), (lt, .inl (D.2.2.2.1, 220, .inl (nA LT))), (tb, .inr (0, [.int (nI thd.toNat), .int (nI tlo), .int (iI ((te : Int) - 1)), .int (nI thn.toNat), .int (nI tcu), .ref tsc, .ref tfg, .ref ttv, .ref tpr])), (ttv, .inl (D.2.1, 10, .inl (nA (selN (decide ((tS6 LT len tTV tu (at_, fn, fa, na)).2.1 = 0)) (va_up (va_up tTV (tA LT len tu (at_, fn, fa, na)) (tB LT len tTV tu (at_, fn, fa, na))) (tB LT len tTV tu (at_, fn, fa, na)) (tA LT len tu (at_, fn, fa, na))) tTV))))]) rfl rfl (cE (congrArg (fun z => ((tx, .inr (5, z)) : Nat × va_E)) (cE rfl (cE rfl (cE (congrArg Value.int (congrArg (fun z : Int => iI z) e_63)) (cE (congrArg Value.int (congrArg (fun z : Nat => nI z) e_64)) (cE (congrArg Value.int (congrArg (fun z : Nat => nI z) e_65)) (cE (congrArg Value.int (congrArg (fun z : Nat => nI z) e_66)) (cE (congrArg Value.int (congrArg (fun z : Nat => nI z) e_67)) (cE rfl rfl))))))))) (cE rfl (cE rfl (cE rfl rfl)))))
      · refine x_aload_n hx dX5_readTurn_55 hl 3 rfl ?_
        refine x_get0 hx hW.1 0 rfl 7 (Nat.le_of_ble_eq_true rfl) wf_RX5_114 rfl dX5_readTurn_56 ?_
        refine x_iload_n hx dX5_readTurn_59 hl 0 rfl ?_
        have hj_60 : v2 < 10 := by omega
        refine x_iald (v := nI (tTV v2)) hx hW.1 1 rfl hj_60 (by decide) (rfl) dX5_readTurn_60 ?_
        have b_68 := htTV v2 hj_60
        refine x_iload_n hx dX5_readTurn_61 hl 0 rfl ?_
        refine x_icmp_eq_N (a := (tTV v2)) (b := v2) (tgt := 74) hx dX5_readTurn_62 (by decide) (by omega) (by omega) (fun h_69 => ?_) (fun h_69 => ?_)
        · have hS5 : s4 = tS5 LT len tTV tu (at_, fn, fa, na) := by rw [tS5, ← hvA, ← hvB, if_neg (by omega)]; exact hS4
          refine x_aload_n hx dX5_readTurn_74 hl 2 rfl ?_
          obtain ⟨s6, hs6⟩ : ∃ z : TS, z = reS LT len s4 := ⟨_, rfl⟩
          refine x_callVV (As := []) (rest := []) (wr := [(tb, .inr (0, [.int (nI thd.toNat), .int (nI tlo), .int (iI ((te : Int) - 1)), .int (nI thn.toNat), .int (nI tcu), .ref tsc, .ref tfg, .ref ttv, .ref tpr])), (ttv, .inl (D.2.1, 10, .inl (nA tTV)))]) hx yv_X5_readEnd (c_X5_readEnd _ D tx lt len s4.2.2.1 s4.2.1 s4.1 s4.2.2.2 tu pd LT (by first | assumption | omega | (simp [*]; done)) (by first | assumption | omega | (simp [*]; done)) (by first | assumption | omega | (simp [*]; done)) (by first | assumption | omega | (simp [*]; done))) wm_RX5_88 hA hW [2, 3] [0, 1] rfl rfl rfl rfl rfl 2 rfl rfl ⟨rfl, rfl⟩ ⟨Nat.le_of_ble_eq_true rfl, Nat.le_of_ble_eq_true rfl⟩ ⟨Nat.zero_le _, Nat.zero_le _⟩ hl rfl rfl (Nat.le_of_ble_eq_true rfl) dX5_readTurn_75 [(tb, .inr (0, [.int (nI thd.toNat), .int (nI tlo), .int (iI ((te : Int) - 1)), .int (nI thn.toNat), .int (nI tcu), .ref tsc, .ref tfg, .ref ttv, .ref tpr])), (ttv, .inl (D.2.1, 10, .inl (nA tTV))), (tx, .inr (5, [.ref lt, .int (nI len), .int (iI s6.2.2.1), .int (nI s6.2.1), .int (nI s6.1), .int (nI s6.2.2.2), .int (nI tu), .int (nI pd)])), (lt, .inl (D.2.2.2.1, 220, .inl (nA LT)))] (by subst hs6; rfl) (fun H locs hW => ?_)
          have ho_s6 : tsOk len s6 := by rw [hs6]; exact reS_ok hlen ho_s4
          obtain ⟨ho_s6a, ho_s6b, ho_s6c, ho_s6d, ho_s6e⟩ := ho_s6
          have ho_s6 : tsOk len s6 := ⟨ho_s6a, ho_s6b, ho_s6c, ho_s6d, ho_s6e⟩
          have hS6 : s6 = tS6 LT len tTV tu (at_, fn, fa, na) := by rw [tS6, ← hS5]; exact hs6
          refine x_aload_n hx dX5_readTurn_78 hl 2 rfl ?_
          refine x_get5 hx hW.1 2 rfl 3 (Nat.le_of_ble_eq_true rfl) wf_RX5_22 rfl dX5_readTurn_79 ?_
          refine x_if_ne_N (a := s6.2.1) (tgt := 109) hx dX5_readTurn_82 (by decide) (by omega) (fun h_70 => ?_) (fun h_70 => ?_)
          · have e_71 : ∀ k, k < 10 → (tTV) k = (selN (decide ((tS6 LT len tTV tu (at_, fn, fa, na)).2.1 = 0)) (va_up (va_up tTV (tA LT len tu (at_, fn, fa, na)) (tB LT len tTV tu (at_, fn, fa, na))) (tB LT len tTV tu (at_, fn, fa, na)) (tA LT len tu (at_, fn, fa, na))) tTV) k := by
              intro k hk
              rw [← hS6, ← hvA, ← hvB]; first | exact (sel_t (decide_eq_true (by assumption)) k).symm | exact (sel_f (decide_eq_false (by assumption)) k).symm
            have hW : Wd X D A [(tb, .inr (0, [.int (nI thd.toNat), .int (nI tlo), .int (iI ((te : Int) - 1)), .int (nI thn.toNat), .int (nI tcu), .ref tsc, .ref tfg, .ref ttv, .ref tpr])), (ttv, .inl (D.2.1, 10, .inl (nA (selN (decide ((tS6 LT len tTV tu (at_, fn, fa, na)).2.1 = 0)) (va_up (va_up tTV (tA LT len tu (at_, fn, fa, na)) (tB LT len tTV tu (at_, fn, fa, na))) (tB LT len tTV tu (at_, fn, fa, na)) (tA LT len tu (at_, fn, fa, na))) tTV)))), (tx, .inr (5, [.ref lt, .int (nI len), .int (iI s6.2.2.1), .int (nI s6.2.1), .int (nI s6.1), .int (nI s6.2.2.2), .int (nI tu), .int (nI pd)])), (lt, .inl (D.2.2.2.1, 220, .inl (nA LT)))] _ _ := hW.row 1 rfl (fun j hj => congrArg (nI) (e_71 j hj)) rfl
            have e_72 : (s6.2.2.1 : Int) = (tS6 LT len tTV tu (at_, fn, fa, na)).2.2.1 := by
              rw [← hS6]; first | done | rfl | (rw [pk_t (decide_eq_true (by assumption))]; done) | (rw [pk_f (decide_eq_false (by assumption))]; done)
            have e_73 : (s6.2.1 : Nat) = (tS6 LT len tTV tu (at_, fn, fa, na)).2.1 := by
              clear e_72
              rw [← hS6]; first | done | rfl | (rw [pk_t (decide_eq_true (by assumption))]; done) | (rw [pk_f (decide_eq_false (by assumption))]; done)
            have e_74 : (s6.1 : Nat) = (tS6 LT len tTV tu (at_, fn, fa, na)).1 := by
              clear e_72 e_73
              rw [← hS6]; first | done | rfl | (rw [pk_t (decide_eq_true (by assumption))]; done) | (rw [pk_f (decide_eq_false (by assumption))]; done)
            have e_75 : (s6.2.2.2 : Nat) = (tS6 LT len tTV tu (at_, fn, fa, na)).2.2.2 := by
              clear e_72 e_73 e_74
              rw [← hS6]; first | done | rfl | (rw [pk_t (decide_eq_true (by assumption))]; done) | (rw [pk_f (decide_eq_false (by assumption))]; done)
            have e_76 : (tu : Nat) = pk (decide ((tS6 LT len tTV tu (at_, fn, fa, na)).2.1 = 0)) (tu + 1) tu := by
              clear e_72 e_73 e_74 e_75
              rw [← hS6]; first | done | rfl | (rw [pk_t (decide_eq_true (by assumption))]; done) | (rw [pk_f (decide_eq_false (by assumption))]; done)
            exact hret _ _ _ _ dX5_readTurn_109 (hW.conv [2, 3, 0, 1] (w1 := [(tx, .inr (5, [.ref lt, .int (nI len), .int (iI s6.2.2.1), .int (nI s6.2.1), .int (nI s6.1), .int (nI s6.2.2.2), .int (nI tu), .int (nI pd)])), (lt, .inl (D.2.2.2.1, 220, .inl (nA LT))), (tb, .inr (0, [.int (nI thd.toNat), .int (nI tlo), .int (iI ((te : Int) - 1)), .int (nI thn.toNat), .int (nI tcu), .ref tsc, .ref tfg, .ref ttv, .ref tpr])), (ttv, .inl (D.2.1, 10, .inl (nA (selN (decide ((tS6 LT len tTV tu (at_, fn, fa, na)).2.1 = 0)) (va_up (va_up tTV (tA LT len tu (at_, fn, fa, na)) (tB LT len tTV tu (at_, fn, fa, na))) (tB LT len tTV tu (at_, fn, fa, na)) (tA LT len tu (at_, fn, fa, na))) tTV))))]) (w2 := [(tx, .inr (5, [.ref lt, .int (nI len), .int (iI ((tS6 LT len tTV tu (at_, fn, fa, na)).2.2.1)), .int (nI ((tS6 LT len tTV tu (at_, fn, fa, na)).2.1)), .int (nI ((tS6 LT len tTV tu (at_, fn, fa, na)).1)), .int (nI ((tS6 LT len tTV tu (at_, fn, fa, na)).2.2.2)), .int (nI (pk (decide ((tS6 LT len tTV tu (at_, fn, fa, na)).2.1 = 0)) (tu + 1) tu)), .int (nI pd)])), (lt, .inl (D.2.2.2.1, 220, .inl (nA LT))), (tb, .inr (0, [.int (nI thd.toNat), .int (nI tlo), .int (iI ((te : Int) - 1)), .int (nI thn.toNat), .int (nI tcu), .ref tsc, .ref tfg, .ref ttv, .ref tpr])), (ttv, .inl (D.2.1, 10, .inl (nA (selN (decide ((tS6 LT len tTV tu (at_, fn, fa, na)).2.1 = 0)) (va_up (va_up tTV (tA LT len tu (at_, fn, fa, na)) (tB LT len tTV tu (at_, fn, fa, na))) (tB LT len tTV tu (at_, fn, fa, na)) (tA LT len tu (at_, fn, fa, na))) tTV))))]) rfl rfl (cE (congrArg (fun z => ((tx, .inr (5, z)) : Nat × va_E)) (cE rfl (cE rfl (cE (congrArg Value.int (congrArg (fun z : Int => iI z) e_72)) (cE (congrArg Value.int (congrArg (fun z : Nat => nI z) e_73)) (cE (congrArg Value.int (congrArg (fun z : Nat => nI z) e_74)) (cE (congrArg Value.int (congrArg (fun z : Nat => nI z) e_75)) (cE (congrArg Value.int (congrArg (fun z : Nat => nI z) e_76)) (cE rfl rfl))))))))) (cE rfl (cE rfl (cE rfl rfl)))))
          · refine x_aload_n hx dX5_readTurn_85 hl 3 rfl ?_
            refine x_get0 hx hW.1 0 rfl 7 (Nat.le_of_ble_eq_true rfl) wf_RX5_114 rfl dX5_readTurn_86 ?_
            refine x_iload_n hx dX5_readTurn_89 hl 1 rfl ?_
            refine x_iload_n hx dX5_readTurn_90 hl 0 rfl ?_
            have hj_91 : v1 < 10 := by omega
            have b_77 : ∀ k, k < 10 → (va_up tTV v1 v2) k < 10 := bnd_up htTV (by omega)
            refine x_iast hx hW 1 rfl hj_91 (by decide) (upd_nA _ _ _) dX5_readTurn_91 [(tb, .inr (0, [.int (nI thd.toNat), .int (nI tlo), .int (iI ((te : Int) - 1)), .int (nI thn.toNat), .int (nI tcu), .ref tsc, .ref tfg, .ref ttv, .ref tpr])), (ttv, .inl (D.2.1, 10, .inl (nA (va_up tTV v1 v2)))), (tx, .inr (5, [.ref lt, .int (nI len), .int (iI s6.2.2.1), .int (nI s6.2.1), .int (nI s6.1), .int (nI s6.2.2.2), .int (nI tu), .int (nI pd)])), (lt, .inl (D.2.2.2.1, 220, .inl (nA LT)))] rfl (fun H locs hW => ?_)
            refine x_aload_n hx dX5_readTurn_92 hl 3 rfl ?_
            refine x_get0 hx hW.1 0 rfl 7 (Nat.le_of_ble_eq_true rfl) wf_RX5_114 rfl dX5_readTurn_93 ?_
            refine x_iload_n hx dX5_readTurn_96 hl 0 rfl ?_
            refine x_iload_n hx dX5_readTurn_97 hl 1 rfl ?_
            have hj_98 : v2 < 10 := by omega
            have b_78 : ∀ k, k < 10 → (va_up (va_up tTV v1 v2) v2 v1) k < 10 := bnd_up b_77 (by omega)
            refine x_iast hx hW 1 rfl hj_98 (by decide) (upd_nA _ _ _) dX5_readTurn_98 [(tb, .inr (0, [.int (nI thd.toNat), .int (nI tlo), .int (iI ((te : Int) - 1)), .int (nI thn.toNat), .int (nI tcu), .ref tsc, .ref tfg, .ref ttv, .ref tpr])), (ttv, .inl (D.2.1, 10, .inl (nA (va_up (va_up tTV v1 v2) v2 v1)))), (tx, .inr (5, [.ref lt, .int (nI len), .int (iI s6.2.2.1), .int (nI s6.2.1), .int (nI s6.1), .int (nI s6.2.2.2), .int (nI tu), .int (nI pd)])), (lt, .inl (D.2.2.2.1, 220, .inl (nA LT)))] rfl (fun H locs hW => ?_)
            refine x_aload_n hx dX5_readTurn_99 hl 2 rfl ?_
            refine x_dup hx dX5_readTurn_100 rfl ?_
            refine x_get5 hx hW.1 2 rfl 6 (Nat.le_of_ble_eq_true rfl) wf_RX5_31 rfl dX5_readTurn_101 ?_
            refine x_iconst (v := nI 1) hx dX5_readTurn_104 (by decide) ?_
            refine x_iadd (v := nI (tu + 1)) hx dX5_readTurn_105 (nI_add _ _) ?_
            refine x_put5 hx hW 2 rfl 6 (Nat.le_of_ble_eq_true rfl) wf_RX5_31 rfl rfl rfl (Nat.le_of_ble_eq_true rfl) dX5_readTurn_106 [(tb, .inr (0, [.int (nI thd.toNat), .int (nI tlo), .int (iI ((te : Int) - 1)), .int (nI thn.toNat), .int (nI tcu), .ref tsc, .ref tfg, .ref ttv, .ref tpr])), (ttv, .inl (D.2.1, 10, .inl (nA (va_up (va_up tTV v1 v2) v2 v1)))), (tx, .inr (5, [.ref lt, .int (nI len), .int (iI s6.2.2.1), .int (nI s6.2.1), .int (nI s6.1), .int (nI s6.2.2.2), .int (nI (tu + 1)), .int (nI pd)])), (lt, .inl (D.2.2.2.1, 220, .inl (nA LT)))] rfl (fun H locs hW => ?_)
            have e_79 : ∀ k, k < 10 → (va_up (va_up tTV v1 v2) v2 v1) k = (selN (decide ((tS6 LT len tTV tu (at_, fn, fa, na)).2.1 = 0)) (va_up (va_up tTV (tA LT len tu (at_, fn, fa, na)) (tB LT len tTV tu (at_, fn, fa, na))) (tB LT len tTV tu (at_, fn, fa, na)) (tA LT len tu (at_, fn, fa, na))) tTV) k := by
              intro k hk
              rw [← hS6, ← hvA, ← hvB]; first | exact (sel_t (decide_eq_true (by assumption)) k).symm | exact (sel_f (decide_eq_false (by assumption)) k).symm
            have hW : Wd X D A [(tb, .inr (0, [.int (nI thd.toNat), .int (nI tlo), .int (iI ((te : Int) - 1)), .int (nI thn.toNat), .int (nI tcu), .ref tsc, .ref tfg, .ref ttv, .ref tpr])), (ttv, .inl (D.2.1, 10, .inl (nA (selN (decide ((tS6 LT len tTV tu (at_, fn, fa, na)).2.1 = 0)) (va_up (va_up tTV (tA LT len tu (at_, fn, fa, na)) (tB LT len tTV tu (at_, fn, fa, na))) (tB LT len tTV tu (at_, fn, fa, na)) (tA LT len tu (at_, fn, fa, na))) tTV)))), (tx, .inr (5, [.ref lt, .int (nI len), .int (iI s6.2.2.1), .int (nI s6.2.1), .int (nI s6.1), .int (nI s6.2.2.2), .int (nI (tu + 1)), .int (nI pd)])), (lt, .inl (D.2.2.2.1, 220, .inl (nA LT)))] _ _ := hW.row 1 rfl (fun j hj => congrArg (nI) (e_79 j hj)) rfl
            have e_80 : (s6.2.2.1 : Int) = (tS6 LT len tTV tu (at_, fn, fa, na)).2.2.1 := by
              rw [← hS6]; first | done | rfl | (rw [pk_t (decide_eq_true (by assumption))]; done) | (rw [pk_f (decide_eq_false (by assumption))]; done)
            have e_81 : (s6.2.1 : Nat) = (tS6 LT len tTV tu (at_, fn, fa, na)).2.1 := by
              clear e_80
              rw [← hS6]; first | done | rfl | (rw [pk_t (decide_eq_true (by assumption))]; done) | (rw [pk_f (decide_eq_false (by assumption))]; done)
            have e_82 : (s6.1 : Nat) = (tS6 LT len tTV tu (at_, fn, fa, na)).1 := by
              clear e_80 e_81
              rw [← hS6]; first | done | rfl | (rw [pk_t (decide_eq_true (by assumption))]; done) | (rw [pk_f (decide_eq_false (by assumption))]; done)
            have e_83 : (s6.2.2.2 : Nat) = (tS6 LT len tTV tu (at_, fn, fa, na)).2.2.2 := by
              clear e_80 e_81 e_82
              rw [← hS6]; first | done | rfl | (rw [pk_t (decide_eq_true (by assumption))]; done) | (rw [pk_f (decide_eq_false (by assumption))]; done)
            have e_84 : (tu + 1 : Nat) = pk (decide ((tS6 LT len tTV tu (at_, fn, fa, na)).2.1 = 0)) (tu + 1) tu := by
              clear e_80 e_81 e_82 e_83
              rw [← hS6]; first | done | rfl | (rw [pk_t (decide_eq_true (by assumption))]; done) | (rw [pk_f (decide_eq_false (by assumption))]; done)
            exact hret _ _ _ _ dX5_readTurn_109 (hW.conv [2, 3, 0, 1] (w1 := [(tx, .inr (5, [.ref lt, .int (nI len), .int (iI s6.2.2.1), .int (nI s6.2.1), .int (nI s6.1), .int (nI s6.2.2.2), .int (nI (tu + 1)), .int (nI pd)])), (lt, .inl (D.2.2.2.1, 220, .inl (nA LT))), (tb, .inr (0, [.int (nI thd.toNat), .int (nI tlo), .int (iI ((te : Int) - 1)), .int (nI thn.toNat), .int (nI tcu), .ref tsc, .ref tfg, .ref ttv, .ref tpr])), (ttv, .inl (D.2.1, 10, .inl (nA (selN (decide ((tS6 LT len tTV tu (at_, fn, fa, na)).2.1 = 0)) (va_up (va_up tTV (tA LT len tu (at_, fn, fa, na)) (tB LT len tTV tu (at_, fn, fa, na))) (tB LT len tTV tu (at_, fn, fa, na)) (tA LT len tu (at_, fn, fa, na))) tTV))))]) (w2 := [(tx, .inr (5, [.ref lt, .int (nI len), .int (iI ((tS6 LT len tTV tu (at_, fn, fa, na)).2.2.1)), .int (nI ((tS6 LT len tTV tu (at_, fn, fa, na)).2.1)), .int (nI ((tS6 LT len tTV tu (at_, fn, fa, na)).1)), .int (nI ((tS6 LT len tTV tu (at_, fn, fa, na)).2.2.2)), .int (nI (pk (decide ((tS6 LT len tTV tu (at_, fn, fa, na)).2.1 = 0)) (tu + 1) tu)), .int (nI pd)])), (lt, .inl (D.2.2.2.1, 220, .inl (nA LT))), (tb, .inr (0, [.int (nI thd.toNat), .int (nI tlo), .int (iI ((te : Int) - 1)), .int (nI thn.toNat), .int (nI tcu), .ref tsc, .ref tfg, .ref ttv, .ref tpr])), (ttv, .inl (D.2.1, 10, .inl (nA (selN (decide ((tS6 LT len tTV tu (at_, fn, fa, na)).2.1 = 0)) (va_up (va_up tTV (tA LT len tu (at_, fn, fa, na)) (tB LT len tTV tu (at_, fn, fa, na))) (tB LT len tTV tu (at_, fn, fa, na)) (tA LT len tu (at_, fn, fa, na))) tTV))))]) rfl rfl (cE (congrArg (fun z => ((tx, .inr (5, z)) : Nat × va_E)) (cE rfl (cE rfl (cE (congrArg Value.int (congrArg (fun z : Int => iI z) e_80)) (cE (congrArg Value.int (congrArg (fun z : Nat => nI z) e_81)) (cE (congrArg Value.int (congrArg (fun z : Nat => nI z) e_82)) (cE (congrArg Value.int (congrArg (fun z : Nat => nI z) e_83)) (cE (congrArg Value.int (congrArg (fun z : Nat => nI z) e_84)) (cE rfl rfl))))))))) (cE rfl (cE rfl (cE rfl rfl)))))
        · refine x_aload_n hx dX5_readTurn_65 hl 2 rfl ?_
          refine x_iconst (v := nI 4) hx dX5_readTurn_66 (by decide) ?_
          refine x_aload_n hx dX5_readTurn_67 hl 2 rfl ?_
          refine x_get5 hx hW.1 2 rfl 5 (Nat.le_of_ble_eq_true rfl) wf_RX5_28 rfl dX5_readTurn_68 ?_
          obtain ⟨s5, hs5⟩ : ∃ z : TS, z = blS 4 s4.2.2.2 s4 := ⟨_, rfl⟩
          refine x_callVV (As := [.int (nI 4), .int (nI s4.2.2.2)]) (rest := []) (wr := [(tb, .inr (0, [.int (nI thd.toNat), .int (nI tlo), .int (iI ((te : Int) - 1)), .int (nI thn.toNat), .int (nI tcu), .ref tsc, .ref tfg, .ref ttv, .ref tpr])), (ttv, .inl (D.2.1, 10, .inl (nA tTV))), (lt, .inl (D.2.2.2.1, 220, .inl (nA LT)))]) hx yv_X5_blame (c_X5_blame _ D tx lt len s4.2.2.1 s4.2.1 s4.1 s4.2.2.2 tu pd 4 (s4.2.2.2 : Int) (by first | assumption | omega | (simp [*]; done))) wm_RX5_67 hA hW [2] [0, 1, 3] rfl rfl rfl rfl rfl 2 rfl rfl ⟨rfl, rfl⟩ ⟨Nat.le_of_ble_eq_true rfl, Nat.le_of_ble_eq_true rfl⟩ ⟨Nat.zero_le _, Nat.zero_le _⟩ hl rfl rfl (Nat.le_of_ble_eq_true rfl) dX5_readTurn_71 [(tb, .inr (0, [.int (nI thd.toNat), .int (nI tlo), .int (iI ((te : Int) - 1)), .int (nI thn.toNat), .int (nI tcu), .ref tsc, .ref tfg, .ref ttv, .ref tpr])), (ttv, .inl (D.2.1, 10, .inl (nA tTV))), (lt, .inl (D.2.2.2.1, 220, .inl (nA LT))), (tx, .inr (5, [.ref lt, .int (nI len), .int (iI s5.2.2.1), .int (nI s5.2.1), .int (nI s5.1), .int (nI s5.2.2.2), .int (nI tu), .int (nI pd)]))] (by subst hs5; rfl) (fun H locs hW => ?_)
          have ho_s5 : tsOk len s5 := by rw [hs5]; exact blS_ok (by decide) (by omega) ho_s4
          obtain ⟨ho_s5a, ho_s5b, ho_s5c, ho_s5d, ho_s5e⟩ := ho_s5
          have ho_s5 : tsOk len s5 := ⟨ho_s5a, ho_s5b, ho_s5c, ho_s5d, ho_s5e⟩
          have hS5 : s5 = tS5 LT len tTV tu (at_, fn, fa, na) := by rw [tS5, ← hvA, ← hvB, if_pos (by first | exact Or.inl (by assumption) | exact Or.inr (by assumption)), ← hS4]; exact hs5
          refine x_aload_n hx dX5_readTurn_74 hl 2 rfl ?_
          obtain ⟨s6, hs6⟩ : ∃ z : TS, z = reS LT len s5 := ⟨_, rfl⟩
          refine x_callVV (As := []) (rest := []) (wr := [(tb, .inr (0, [.int (nI thd.toNat), .int (nI tlo), .int (iI ((te : Int) - 1)), .int (nI thn.toNat), .int (nI tcu), .ref tsc, .ref tfg, .ref ttv, .ref tpr])), (ttv, .inl (D.2.1, 10, .inl (nA tTV)))]) hx yv_X5_readEnd (c_X5_readEnd _ D tx lt len s5.2.2.1 s5.2.1 s5.1 s5.2.2.2 tu pd LT (by first | assumption | omega | (simp [*]; done)) (by first | assumption | omega | (simp [*]; done)) (by first | assumption | omega | (simp [*]; done)) (by first | assumption | omega | (simp [*]; done))) wm_RX5_88 hA hW [3, 2] [0, 1] rfl rfl rfl rfl rfl 3 rfl rfl ⟨rfl, rfl⟩ ⟨Nat.le_of_ble_eq_true rfl, Nat.le_of_ble_eq_true rfl⟩ ⟨Nat.zero_le _, Nat.zero_le _⟩ hl rfl rfl (Nat.le_of_ble_eq_true rfl) dX5_readTurn_75 [(tb, .inr (0, [.int (nI thd.toNat), .int (nI tlo), .int (iI ((te : Int) - 1)), .int (nI thn.toNat), .int (nI tcu), .ref tsc, .ref tfg, .ref ttv, .ref tpr])), (ttv, .inl (D.2.1, 10, .inl (nA tTV))), (tx, .inr (5, [.ref lt, .int (nI len), .int (iI s6.2.2.1), .int (nI s6.2.1), .int (nI s6.1), .int (nI s6.2.2.2), .int (nI tu), .int (nI pd)])), (lt, .inl (D.2.2.2.1, 220, .inl (nA LT)))] (by subst hs6; rfl) (fun H locs hW => ?_)
          have ho_s6 : tsOk len s6 := by rw [hs6]; exact reS_ok hlen ho_s5
          obtain ⟨ho_s6a, ho_s6b, ho_s6c, ho_s6d, ho_s6e⟩ := ho_s6
          have ho_s6 : tsOk len s6 := ⟨ho_s6a, ho_s6b, ho_s6c, ho_s6d, ho_s6e⟩
          have hS6 : s6 = tS6 LT len tTV tu (at_, fn, fa, na) := by rw [tS6, ← hS5]; exact hs6
          refine x_aload_n hx dX5_readTurn_78 hl 2 rfl ?_
          refine x_get5 hx hW.1 2 rfl 3 (Nat.le_of_ble_eq_true rfl) wf_RX5_22 rfl dX5_readTurn_79 ?_
          refine x_if_ne_N (a := s6.2.1) (tgt := 109) hx dX5_readTurn_82 (by decide) (by omega) (fun h_85 => ?_) (fun h_85 => ?_)
          · have e_86 : ∀ k, k < 10 → (tTV) k = (selN (decide ((tS6 LT len tTV tu (at_, fn, fa, na)).2.1 = 0)) (va_up (va_up tTV (tA LT len tu (at_, fn, fa, na)) (tB LT len tTV tu (at_, fn, fa, na))) (tB LT len tTV tu (at_, fn, fa, na)) (tA LT len tu (at_, fn, fa, na))) tTV) k := by
              intro k hk
              rw [← hS6, ← hvA, ← hvB]; first | exact (sel_t (decide_eq_true (by assumption)) k).symm | exact (sel_f (decide_eq_false (by assumption)) k).symm
            have hW : Wd X D A [(tb, .inr (0, [.int (nI thd.toNat), .int (nI tlo), .int (iI ((te : Int) - 1)), .int (nI thn.toNat), .int (nI tcu), .ref tsc, .ref tfg, .ref ttv, .ref tpr])), (ttv, .inl (D.2.1, 10, .inl (nA (selN (decide ((tS6 LT len tTV tu (at_, fn, fa, na)).2.1 = 0)) (va_up (va_up tTV (tA LT len tu (at_, fn, fa, na)) (tB LT len tTV tu (at_, fn, fa, na))) (tB LT len tTV tu (at_, fn, fa, na)) (tA LT len tu (at_, fn, fa, na))) tTV)))), (tx, .inr (5, [.ref lt, .int (nI len), .int (iI s6.2.2.1), .int (nI s6.2.1), .int (nI s6.1), .int (nI s6.2.2.2), .int (nI tu), .int (nI pd)])), (lt, .inl (D.2.2.2.1, 220, .inl (nA LT)))] _ _ := hW.row 1 rfl (fun j hj => congrArg (nI) (e_86 j hj)) rfl
            have e_87 : (s6.2.2.1 : Int) = (tS6 LT len tTV tu (at_, fn, fa, na)).2.2.1 := by
              rw [← hS6]; first | done | rfl | (rw [pk_t (decide_eq_true (by assumption))]; done) | (rw [pk_f (decide_eq_false (by assumption))]; done)
            have e_88 : (s6.2.1 : Nat) = (tS6 LT len tTV tu (at_, fn, fa, na)).2.1 := by
              clear e_87
              rw [← hS6]; first | done | rfl | (rw [pk_t (decide_eq_true (by assumption))]; done) | (rw [pk_f (decide_eq_false (by assumption))]; done)
            have e_89 : (s6.1 : Nat) = (tS6 LT len tTV tu (at_, fn, fa, na)).1 := by
              clear e_87 e_88
              rw [← hS6]; first | done | rfl | (rw [pk_t (decide_eq_true (by assumption))]; done) | (rw [pk_f (decide_eq_false (by assumption))]; done)
            have e_90 : (s6.2.2.2 : Nat) = (tS6 LT len tTV tu (at_, fn, fa, na)).2.2.2 := by
              clear e_87 e_88 e_89
              rw [← hS6]; first | done | rfl | (rw [pk_t (decide_eq_true (by assumption))]; done) | (rw [pk_f (decide_eq_false (by assumption))]; done)
            have e_91 : (tu : Nat) = pk (decide ((tS6 LT len tTV tu (at_, fn, fa, na)).2.1 = 0)) (tu + 1) tu := by
              clear e_87 e_88 e_89 e_90
              rw [← hS6]; first | done | rfl | (rw [pk_t (decide_eq_true (by assumption))]; done) | (rw [pk_f (decide_eq_false (by assumption))]; done)
            exact hret _ _ _ _ dX5_readTurn_109 (hW.conv [2, 3, 0, 1] (w1 := [(tx, .inr (5, [.ref lt, .int (nI len), .int (iI s6.2.2.1), .int (nI s6.2.1), .int (nI s6.1), .int (nI s6.2.2.2), .int (nI tu), .int (nI pd)])), (lt, .inl (D.2.2.2.1, 220, .inl (nA LT))), (tb, .inr (0, [.int (nI thd.toNat), .int (nI tlo), .int (iI ((te : Int) - 1)), .int (nI thn.toNat), .int (nI tcu), .ref tsc, .ref tfg, .ref ttv, .ref tpr])), (ttv, .inl (D.2.1, 10, .inl (nA (selN (decide ((tS6 LT len tTV tu (at_, fn, fa, na)).2.1 = 0)) (va_up (va_up tTV (tA LT len tu (at_, fn, fa, na)) (tB LT len tTV tu (at_, fn, fa, na))) (tB LT len tTV tu (at_, fn, fa, na)) (tA LT len tu (at_, fn, fa, na))) tTV))))]) (w2 := [(tx, .inr (5, [.ref lt, .int (nI len), .int (iI ((tS6 LT len tTV tu (at_, fn, fa, na)).2.2.1)), .int (nI ((tS6 LT len tTV tu (at_, fn, fa, na)).2.1)), .int (nI ((tS6 LT len tTV tu (at_, fn, fa, na)).1)), .int (nI ((tS6 LT len tTV tu (at_, fn, fa, na)).2.2.2)), .int (nI (pk (decide ((tS6 LT len tTV tu (at_, fn, fa, na)).2.1 = 0)) (tu + 1) tu)), .int (nI pd)])), (lt, .inl (D.2.2.2.1, 220, .inl (nA LT))), (tb, .inr (0, [.int (nI thd.toNat), .int (nI tlo), .int (iI ((te : Int) - 1)), .int (nI thn.toNat), .int (nI tcu), .ref tsc, .ref tfg, .ref ttv, .ref tpr])), (ttv, .inl (D.2.1, 10, .inl (nA (selN (decide ((tS6 LT len tTV tu (at_, fn, fa, na)).2.1 = 0)) (va_up (va_up tTV (tA LT len tu (at_, fn, fa, na)) (tB LT len tTV tu (at_, fn, fa, na))) (tB LT len tTV tu (at_, fn, fa, na)) (tA LT len tu (at_, fn, fa, na))) tTV))))]) rfl rfl (cE (congrArg (fun z => ((tx, .inr (5, z)) : Nat × va_E)) (cE rfl (cE rfl (cE (congrArg Value.int (congrArg (fun z : Int => iI z) e_87)) (cE (congrArg Value.int (congrArg (fun z : Nat => nI z) e_88)) (cE (congrArg Value.int (congrArg (fun z : Nat => nI z) e_89)) (cE (congrArg Value.int (congrArg (fun z : Nat => nI z) e_90)) (cE (congrArg Value.int (congrArg (fun z : Nat => nI z) e_91)) (cE rfl rfl))))))))) (cE rfl (cE rfl (cE rfl rfl)))))
          · refine x_aload_n hx dX5_readTurn_85 hl 3 rfl ?_
            refine x_get0 hx hW.1 0 rfl 7 (Nat.le_of_ble_eq_true rfl) wf_RX5_114 rfl dX5_readTurn_86 ?_
            refine x_iload_n hx dX5_readTurn_89 hl 1 rfl ?_
            refine x_iload_n hx dX5_readTurn_90 hl 0 rfl ?_
            have hj_91 : v1 < 10 := by omega
            have b_92 : ∀ k, k < 10 → (va_up tTV v1 v2) k < 10 := bnd_up htTV (by omega)
            refine x_iast hx hW 1 rfl hj_91 (by decide) (upd_nA _ _ _) dX5_readTurn_91 [(tb, .inr (0, [.int (nI thd.toNat), .int (nI tlo), .int (iI ((te : Int) - 1)), .int (nI thn.toNat), .int (nI tcu), .ref tsc, .ref tfg, .ref ttv, .ref tpr])), (ttv, .inl (D.2.1, 10, .inl (nA (va_up tTV v1 v2)))), (tx, .inr (5, [.ref lt, .int (nI len), .int (iI s6.2.2.1), .int (nI s6.2.1), .int (nI s6.1), .int (nI s6.2.2.2), .int (nI tu), .int (nI pd)])), (lt, .inl (D.2.2.2.1, 220, .inl (nA LT)))] rfl (fun H locs hW => ?_)
            refine x_aload_n hx dX5_readTurn_92 hl 3 rfl ?_
            refine x_get0 hx hW.1 0 rfl 7 (Nat.le_of_ble_eq_true rfl) wf_RX5_114 rfl dX5_readTurn_93 ?_
            refine x_iload_n hx dX5_readTurn_96 hl 0 rfl ?_
            refine x_iload_n hx dX5_readTurn_97 hl 1 rfl ?_
            have hj_98 : v2 < 10 := by omega
            have b_93 : ∀ k, k < 10 → (va_up (va_up tTV v1 v2) v2 v1) k < 10 := bnd_up b_92 (by omega)
            refine x_iast hx hW 1 rfl hj_98 (by decide) (upd_nA _ _ _) dX5_readTurn_98 [(tb, .inr (0, [.int (nI thd.toNat), .int (nI tlo), .int (iI ((te : Int) - 1)), .int (nI thn.toNat), .int (nI tcu), .ref tsc, .ref tfg, .ref ttv, .ref tpr])), (ttv, .inl (D.2.1, 10, .inl (nA (va_up (va_up tTV v1 v2) v2 v1)))), (tx, .inr (5, [.ref lt, .int (nI len), .int (iI s6.2.2.1), .int (nI s6.2.1), .int (nI s6.1), .int (nI s6.2.2.2), .int (nI tu), .int (nI pd)])), (lt, .inl (D.2.2.2.1, 220, .inl (nA LT)))] rfl (fun H locs hW => ?_)
            refine x_aload_n hx dX5_readTurn_99 hl 2 rfl ?_
            refine x_dup hx dX5_readTurn_100 rfl ?_
            refine x_get5 hx hW.1 2 rfl 6 (Nat.le_of_ble_eq_true rfl) wf_RX5_31 rfl dX5_readTurn_101 ?_
            refine x_iconst (v := nI 1) hx dX5_readTurn_104 (by decide) ?_
            refine x_iadd (v := nI (tu + 1)) hx dX5_readTurn_105 (nI_add _ _) ?_
            refine x_put5 hx hW 2 rfl 6 (Nat.le_of_ble_eq_true rfl) wf_RX5_31 rfl rfl rfl (Nat.le_of_ble_eq_true rfl) dX5_readTurn_106 [(tb, .inr (0, [.int (nI thd.toNat), .int (nI tlo), .int (iI ((te : Int) - 1)), .int (nI thn.toNat), .int (nI tcu), .ref tsc, .ref tfg, .ref ttv, .ref tpr])), (ttv, .inl (D.2.1, 10, .inl (nA (va_up (va_up tTV v1 v2) v2 v1)))), (tx, .inr (5, [.ref lt, .int (nI len), .int (iI s6.2.2.1), .int (nI s6.2.1), .int (nI s6.1), .int (nI s6.2.2.2), .int (nI (tu + 1)), .int (nI pd)])), (lt, .inl (D.2.2.2.1, 220, .inl (nA LT)))] rfl (fun H locs hW => ?_)
            have e_94 : ∀ k, k < 10 → (va_up (va_up tTV v1 v2) v2 v1) k = (selN (decide ((tS6 LT len tTV tu (at_, fn, fa, na)).2.1 = 0)) (va_up (va_up tTV (tA LT len tu (at_, fn, fa, na)) (tB LT len tTV tu (at_, fn, fa, na))) (tB LT len tTV tu (at_, fn, fa, na)) (tA LT len tu (at_, fn, fa, na))) tTV) k := by
              intro k hk
              rw [← hS6, ← hvA, ← hvB]; first | exact (sel_t (decide_eq_true (by assumption)) k).symm | exact (sel_f (decide_eq_false (by assumption)) k).symm
            have hW : Wd X D A [(tb, .inr (0, [.int (nI thd.toNat), .int (nI tlo), .int (iI ((te : Int) - 1)), .int (nI thn.toNat), .int (nI tcu), .ref tsc, .ref tfg, .ref ttv, .ref tpr])), (ttv, .inl (D.2.1, 10, .inl (nA (selN (decide ((tS6 LT len tTV tu (at_, fn, fa, na)).2.1 = 0)) (va_up (va_up tTV (tA LT len tu (at_, fn, fa, na)) (tB LT len tTV tu (at_, fn, fa, na))) (tB LT len tTV tu (at_, fn, fa, na)) (tA LT len tu (at_, fn, fa, na))) tTV)))), (tx, .inr (5, [.ref lt, .int (nI len), .int (iI s6.2.2.1), .int (nI s6.2.1), .int (nI s6.1), .int (nI s6.2.2.2), .int (nI (tu + 1)), .int (nI pd)])), (lt, .inl (D.2.2.2.1, 220, .inl (nA LT)))] _ _ := hW.row 1 rfl (fun j hj => congrArg (nI) (e_94 j hj)) rfl
            have e_95 : (s6.2.2.1 : Int) = (tS6 LT len tTV tu (at_, fn, fa, na)).2.2.1 := by
              rw [← hS6]; first | done | rfl | (rw [pk_t (decide_eq_true (by assumption))]; done) | (rw [pk_f (decide_eq_false (by assumption))]; done)
            have e_96 : (s6.2.1 : Nat) = (tS6 LT len tTV tu (at_, fn, fa, na)).2.1 := by
              clear e_95
              rw [← hS6]; first | done | rfl | (rw [pk_t (decide_eq_true (by assumption))]; done) | (rw [pk_f (decide_eq_false (by assumption))]; done)
            have e_97 : (s6.1 : Nat) = (tS6 LT len tTV tu (at_, fn, fa, na)).1 := by
              clear e_95 e_96
              rw [← hS6]; first | done | rfl | (rw [pk_t (decide_eq_true (by assumption))]; done) | (rw [pk_f (decide_eq_false (by assumption))]; done)
            have e_98 : (s6.2.2.2 : Nat) = (tS6 LT len tTV tu (at_, fn, fa, na)).2.2.2 := by
              clear e_95 e_96 e_97
              rw [← hS6]; first | done | rfl | (rw [pk_t (decide_eq_true (by assumption))]; done) | (rw [pk_f (decide_eq_false (by assumption))]; done)
            have e_99 : (tu + 1 : Nat) = pk (decide ((tS6 LT len tTV tu (at_, fn, fa, na)).2.1 = 0)) (tu + 1) tu := by
              clear e_95 e_96 e_97 e_98
              rw [← hS6]; first | done | rfl | (rw [pk_t (decide_eq_true (by assumption))]; done) | (rw [pk_f (decide_eq_false (by assumption))]; done)
            exact hret _ _ _ _ dX5_readTurn_109 (hW.conv [2, 3, 0, 1] (w1 := [(tx, .inr (5, [.ref lt, .int (nI len), .int (iI s6.2.2.1), .int (nI s6.2.1), .int (nI s6.1), .int (nI s6.2.2.2), .int (nI (tu + 1)), .int (nI pd)])), (lt, .inl (D.2.2.2.1, 220, .inl (nA LT))), (tb, .inr (0, [.int (nI thd.toNat), .int (nI tlo), .int (iI ((te : Int) - 1)), .int (nI thn.toNat), .int (nI tcu), .ref tsc, .ref tfg, .ref ttv, .ref tpr])), (ttv, .inl (D.2.1, 10, .inl (nA (selN (decide ((tS6 LT len tTV tu (at_, fn, fa, na)).2.1 = 0)) (va_up (va_up tTV (tA LT len tu (at_, fn, fa, na)) (tB LT len tTV tu (at_, fn, fa, na))) (tB LT len tTV tu (at_, fn, fa, na)) (tA LT len tu (at_, fn, fa, na))) tTV))))]) (w2 := [(tx, .inr (5, [.ref lt, .int (nI len), .int (iI ((tS6 LT len tTV tu (at_, fn, fa, na)).2.2.1)), .int (nI ((tS6 LT len tTV tu (at_, fn, fa, na)).2.1)), .int (nI ((tS6 LT len tTV tu (at_, fn, fa, na)).1)), .int (nI ((tS6 LT len tTV tu (at_, fn, fa, na)).2.2.2)), .int (nI (pk (decide ((tS6 LT len tTV tu (at_, fn, fa, na)).2.1 = 0)) (tu + 1) tu)), .int (nI pd)])), (lt, .inl (D.2.2.2.1, 220, .inl (nA LT))), (tb, .inr (0, [.int (nI thd.toNat), .int (nI tlo), .int (iI ((te : Int) - 1)), .int (nI thn.toNat), .int (nI tcu), .ref tsc, .ref tfg, .ref ttv, .ref tpr])), (ttv, .inl (D.2.1, 10, .inl (nA (selN (decide ((tS6 LT len tTV tu (at_, fn, fa, na)).2.1 = 0)) (va_up (va_up tTV (tA LT len tu (at_, fn, fa, na)) (tB LT len tTV tu (at_, fn, fa, na))) (tB LT len tTV tu (at_, fn, fa, na)) (tA LT len tu (at_, fn, fa, na))) tTV))))]) rfl rfl (cE (congrArg (fun z => ((tx, .inr (5, z)) : Nat × va_E)) (cE rfl (cE rfl (cE (congrArg Value.int (congrArg (fun z : Int => iI z) e_95)) (cE (congrArg Value.int (congrArg (fun z : Nat => nI z) e_96)) (cE (congrArg Value.int (congrArg (fun z : Nat => nI z) e_97)) (cE (congrArg Value.int (congrArg (fun z : Nat => nI z) e_98)) (cE (congrArg Value.int (congrArg (fun z : Nat => nI z) e_99)) (cE rfl rfl))))))))) (cE rfl (cE rfl (cE rfl rfl)))))
  refine x_icmp_lt_N (a := tu) (b := 4) (tgt := 13) hx dX5_readTurn_6 (by decide) (by omega) (by omega) (fun h_100 => ?_) (fun h_100 => ?_)
  · refine x_iconst (v := nI 0) hx dX5_readTurn_13 (by decide) ?_
    -- stack differs: .int (nI false.toNat) / .int (nI 0)
    exact J14_1 false (by first | exact (decide_eq_true (by assumption)).symm | exact (decide_eq_false (by omega)).symm) _ _ hW _ (lv_sub hl [0, 1] rfl)
  · refine x_iconst (v := nI 1) hx dX5_readTurn_9 (by decide) ?_
    refine x_goto (tgt := 14) hx dX5_readTurn_10 (by decide) ?_
    -- stack differs: .int (nI true.toNat) / .int (nI 1)
    exact J14_1 true (by first | exact (decide_eq_true (by assumption)).symm | exact (decide_eq_false (by omega)).symm) _ _ hW _ (lv_sub hl [0, 1] rfl)
set_option maxHeartbeats 4000000 in
set_option maxRecDepth 100000 in
theorem c_X5_readPrice (l : Launch) (D : KD) (tx : Nat) (lt : Nat) (len : Nat) (fa : Int) (fn : Nat) (at_ : Nat) (na : Nat) (tu : Nat) (pd : Nat) (LT : Nat → Nat) (tb : Nat) (thd : Bool) (tlo : Nat) (te : Nat) (thn : Bool) (tcu : Nat) (tsc : Nat) (tfg : Nat) (ttv : Nat) (tpr : Nat) (tPR : Nat → Nat) (hlen : len ≤ 220) (hat : at_ ≤ len) (hLT : ∀ k, k < 220 → LT k < 256) (hfn : fn ≤ 4) (hfa : -1 ≤ fa ∧ fa ≤ 220) (hna : na ≤ 220) (hatl : at_ < len) (hpd : pd < 1024) : cV l yX5_readPrice cX5_readPrice 4 rm_X5_readPrice D [(tx, .inr (5, [.ref lt, .int (nI len), .int (iI fa), .int (nI fn), .int (nI at_), .int (nI na), .int (nI tu), .int (nI pd)])), (lt, .inl (D.2.2.2.1, 220, .inl (nA LT))), (tb, .inr (0, [.int (nI thd.toNat), .int (nI tlo), .int (iI ((te : Int) - 1)), .int (nI thn.toNat), .int (nI tcu), .ref tsc, .ref tfg, .ref ttv, .ref tpr])), (tpr, .inl (D.2.1, 10, .inl (nA tPR)))] [.ref tx, .ref tb] [(tx, .inr (5, [.ref lt, .int (nI len), .int (iI ((pS5 LT len pd (at_, fn, fa, na)).2.2.1)), .int (nI ((pS5 LT len pd (at_, fn, fa, na)).2.1)), .int (nI ((pS5 LT len pd (at_, fn, fa, na)).1)), .int (nI ((pS5 LT len pd (at_, fn, fa, na)).2.2.2)), .int (nI tu), .int (nI (pk (decide ((pS5 LT len pd (at_, fn, fa, na)).2.1 = 0)) (pd ||| 2 ^ (pA LT len (at_, fn, fa, na))) pd))])), (lt, .inl (D.2.2.2.1, 220, .inl (nA LT))), (tb, .inr (0, [.int (nI thd.toNat), .int (nI tlo), .int (iI ((te : Int) - 1)), .int (nI thn.toNat), .int (nI tcu), .ref tsc, .ref tfg, .ref ttv, .ref tpr])), (tpr, .inl (D.2.1, 10, .inl (nA (selN (decide ((pS5 LT len pd (at_, fn, fa, na)).2.1 = 0)) (va_up tPR (pA LT len (at_, fn, fa, na)) (pB LT len pd (at_, fn, fa, na))) tPR))))] := by
  refine cV.mk (by decide) (Nat.le_of_ble_eq_true rfl) ?_
  intro X A hx hL hA hW hret ls hl
  subst hL
  have hl : lv_has ls 4 [(0, .ref tx), (1, .ref tb)] := hl
  have ho_0 : tsOk len (at_, fn, fa, na) := ⟨by simp only; omega, by simp only; omega, by simp only; omega, by simp only; omega, by simp only; omega⟩
  refine x_aload_n hx dX5_readPrice_0 hl 0 rfl ?_
  refine x_iconst (v := nI 0) hx dX5_readPrice_1 (by decide) ?_
  obtain ⟨s1, hs1⟩ : ∃ z : TS, z = rwS false (at_, fn, fa, na) := ⟨_, rfl⟩
  refine x_callVV (As := [.int (nI 0)]) (rest := []) (wr := [(lt, .inl (D.2.2.2.1, 220, .inl (nA LT))), (tb, .inr (0, [.int (nI thd.toNat), .int (nI tlo), .int (iI ((te : Int) - 1)), .int (nI thn.toNat), .int (nI tcu), .ref tsc, .ref tfg, .ref ttv, .ref tpr])), (tpr, .inl (D.2.1, 10, .inl (nA tPR)))]) hx yv_X5_readWord (c_X5_readWord _ D tx lt len fa fn at_ na tu pd false (by first | assumption | omega | (simp [*]; done))) wm_RX5_80 hA hW [0] [1, 2, 3] rfl rfl rfl rfl rfl 0 rfl rfl ⟨rfl, rfl⟩ ⟨Nat.le_of_ble_eq_true rfl, Nat.le_of_ble_eq_true rfl⟩ ⟨Nat.zero_le _, Nat.zero_le _⟩ hl rfl rfl (Nat.le_of_ble_eq_true rfl) dX5_readPrice_2 [(lt, .inl (D.2.2.2.1, 220, .inl (nA LT))), (tb, .inr (0, [.int (nI thd.toNat), .int (nI tlo), .int (iI ((te : Int) - 1)), .int (nI thn.toNat), .int (nI tcu), .ref tsc, .ref tfg, .ref ttv, .ref tpr])), (tpr, .inl (D.2.1, 10, .inl (nA tPR))), (tx, .inr (5, [.ref lt, .int (nI len), .int (iI s1.2.2.1), .int (nI s1.2.1), .int (nI s1.1), .int (nI s1.2.2.2), .int (nI tu), .int (nI pd)]))] (by subst hs1; rfl) (fun H locs hW => ?_)
  have ho_s1 : tsOk len s1 := by rw [hs1]; exact rwS_ok hlen ho_0 (by simp only; omega)
  obtain ⟨ho_s1a, ho_s1b, ho_s1c, ho_s1d, ho_s1e⟩ := ho_s1
  have ho_s1 : tsOk len s1 := ⟨ho_s1a, ho_s1b, ho_s1c, ho_s1d, ho_s1e⟩
  refine x_aload_n hx dX5_readPrice_5 hl 0 rfl ?_
  refine x_bipush (v := nI 9) hx dX5_readPrice_6 (by decide) ?_
  obtain ⟨s2, hs2⟩ : ∃ z : TS, z = rnS LT len 9 s1 := ⟨_, rfl⟩
  refine x_callMV (As := [.int (nI 9)]) (rest := []) (wr := [(tb, .inr (0, [.int (nI thd.toNat), .int (nI tlo), .int (iI ((te : Int) - 1)), .int (nI thn.toNat), .int (nI tcu), .ref tsc, .ref tfg, .ref ttv, .ref tpr])), (tpr, .inl (D.2.1, 10, .inl (nA tPR)))]) hx yv_X5_readNumber (c_X5_readNumber _ D tx lt len s1.2.2.1 s1.2.1 s1.1 s1.2.2.2 tu pd LT 9 (by first | assumption | omega | (simp [*]; done)) (by first | assumption | omega | (simp [*]; done)) (by first | assumption | omega | (simp [*]; done)) (by first | assumption | omega | (simp [*]; done)) (by first | assumption | omega | (simp [*]; done))) wm_RX5_84 hA hW [3, 0] [1, 2] rfl rfl rfl rfl rfl 3 rfl rfl ⟨rfl, rfl⟩ ⟨Nat.le_of_ble_eq_true rfl, Nat.le_of_ble_eq_true rfl⟩ ⟨Nat.zero_le _, Nat.zero_le _⟩ hl rfl rfl (Nat.le_of_ble_eq_true rfl) dX5_readPrice_8 [(tb, .inr (0, [.int (nI thd.toNat), .int (nI tlo), .int (iI ((te : Int) - 1)), .int (nI thn.toNat), .int (nI tcu), .ref tsc, .ref tfg, .ref ttv, .ref tpr])), (tpr, .inl (D.2.1, 10, .inl (nA tPR))), (tx, .inr (5, [.ref lt, .int (nI len), .int (iI s2.2.2.1), .int (nI s2.2.1), .int (nI s2.1), .int (nI s2.2.2.2), .int (nI tu), .int (nI pd)])), (lt, .inl (D.2.2.2.1, 220, .inl (nA LT)))] (by subst hs2; rfl) (fun H locs hW => ?_)
  obtain ⟨v1, hv1⟩ : ∃ z : Nat, z = rnV LT len 9 s1 := ⟨_, rfl⟩
  have hle_v1 : v1 ≤ 9 := by rw [hv1]; exact rnV_le
  refine x_top (u := nI v1) (congrArg nI hv1.symm) ?_
  have hvA : v1 = pA LT len (at_, fn, fa, na) := by rw [pA, ← hs1]; exact hv1
  have ho_s2 : tsOk len s2 := by rw [hs2]; exact rnS_ok hlen ho_s1
  obtain ⟨ho_s2a, ho_s2b, ho_s2c, ho_s2d, ho_s2e⟩ := ho_s2
  have ho_s2 : tsOk len s2 := ⟨ho_s2a, ho_s2b, ho_s2c, ho_s2d, ho_s2e⟩
  have hS2 : s2 = pS2 LT len (at_, fn, fa, na) := by rw [pS2, ← hs1]; exact hs2
  refine x_istore_n (lv' := [(2, .int (nI v1)), (0, .ref tx), (1, .ref tb)]) hx dX5_readPrice_11 hl (Nat.le_of_ble_eq_true rfl) rfl (fun ls hl => ?_)
  refine x_aload_n hx dX5_readPrice_12 hl 1 rfl ?_
  refine x_get5 hx hW.1 2 rfl 7 (Nat.le_of_ble_eq_true rfl) wf_RX5_34 rfl dX5_readPrice_13 ?_
  refine x_iload_n hx dX5_readPrice_16 hl 0 rfl ?_
  refine x_ishr (v := nI (pd >>> v1)) hx dX5_readPrice_17 (nI_shr (by omega) (by omega)) ?_
  refine x_iconst (v := nI 1) hx dX5_readPrice_18 (by decide) ?_
  refine x_iand (v := nI (pd.testBit v1).toNat) hx dX5_readPrice_19 (nI_tb _ _) ?_
  refine x_iconst (v := nI 1) hx dX5_readPrice_20 (by decide) ?_
  refine x_icmp_ne_B1 (tgt := 33) hx dX5_readPrice_21 (by decide) (fun h_1 => ?_) (fun h_1 => ?_)
  · have hS3 : s2 = pS3 LT len pd (at_, fn, fa, na) := by rw [pS3, ← hvA, if_neg (by rw [show pd.testBit v1 = false from by assumption]; decide)]; exact hS2
    refine x_aload_n hx dX5_readPrice_33 hl 1 rfl ?_
    refine x_bipush (v := nI 99) hx dX5_readPrice_34 (by decide) ?_
    obtain ⟨s4, hs4⟩ : ∃ z : TS, z = rnS LT len 99 s2 := ⟨_, rfl⟩
    refine x_callMV (As := [.int (nI 99)]) (rest := []) (wr := [(tb, .inr (0, [.int (nI thd.toNat), .int (nI tlo), .int (iI ((te : Int) - 1)), .int (nI thn.toNat), .int (nI tcu), .ref tsc, .ref tfg, .ref ttv, .ref tpr])), (tpr, .inl (D.2.1, 10, .inl (nA tPR)))]) hx yv_X5_readNumber (c_X5_readNumber _ D tx lt len s2.2.2.1 s2.2.1 s2.1 s2.2.2.2 tu pd LT 99 (by first | assumption | omega | (simp [*]; done)) (by first | assumption | omega | (simp [*]; done)) (by first | assumption | omega | (simp [*]; done)) (by first | assumption | omega | (simp [*]; done)) (by first | assumption | omega | (simp [*]; done))) wm_RX5_84 hA hW [2, 3] [0, 1] rfl rfl rfl rfl rfl 2 rfl rfl ⟨rfl, rfl⟩ ⟨Nat.le_of_ble_eq_true rfl, Nat.le_of_ble_eq_true rfl⟩ ⟨Nat.zero_le _, Nat.zero_le _⟩ hl rfl rfl (Nat.le_of_ble_eq_true rfl) dX5_readPrice_36 [(tb, .inr (0, [.int (nI thd.toNat), .int (nI tlo), .int (iI ((te : Int) - 1)), .int (nI thn.toNat), .int (nI tcu), .ref tsc, .ref tfg, .ref ttv, .ref tpr])), (tpr, .inl (D.2.1, 10, .inl (nA tPR))), (tx, .inr (5, [.ref lt, .int (nI len), .int (iI s4.2.2.1), .int (nI s4.2.1), .int (nI s4.1), .int (nI s4.2.2.2), .int (nI tu), .int (nI pd)])), (lt, .inl (D.2.2.2.1, 220, .inl (nA LT)))] (by subst hs4; rfl) (fun H locs hW => ?_)
    obtain ⟨v2, hv2⟩ : ∃ z : Nat, z = rnV LT len 99 s2 := ⟨_, rfl⟩
    have hle_v2 : v2 ≤ 99 := by rw [hv2]; exact rnV_le
    refine x_top (u := nI v2) (congrArg nI hv2.symm) ?_
    have hvB : v2 = pB LT len pd (at_, fn, fa, na) := by rw [pB, ← hS3]; exact hv2
    have ho_s4 : tsOk len s4 := by rw [hs4]; exact rnS_ok hlen ho_s2
    obtain ⟨ho_s4a, ho_s4b, ho_s4c, ho_s4d, ho_s4e⟩ := ho_s4
    have ho_s4 : tsOk len s4 := ⟨ho_s4a, ho_s4b, ho_s4c, ho_s4d, ho_s4e⟩
    refine x_istore_n (lv' := [(3, .int (nI v2)), (2, .int (nI v1)), (0, .ref tx), (1, .ref tb)]) hx dX5_readPrice_39 hl (Nat.le_of_ble_eq_true rfl) rfl (fun ls hl => ?_)
    refine x_aload_n hx dX5_readPrice_40 hl 2 rfl ?_
    obtain ⟨s5, hs5⟩ : ∃ z : TS, z = reS LT len s4 := ⟨_, rfl⟩
    refine x_callVV (As := []) (rest := []) (wr := [(tb, .inr (0, [.int (nI thd.toNat), .int (nI tlo), .int (iI ((te : Int) - 1)), .int (nI thn.toNat), .int (nI tcu), .ref tsc, .ref tfg, .ref ttv, .ref tpr])), (tpr, .inl (D.2.1, 10, .inl (nA tPR)))]) hx yv_X5_readEnd (c_X5_readEnd _ D tx lt len s4.2.2.1 s4.2.1 s4.1 s4.2.2.2 tu pd LT (by first | assumption | omega | (simp [*]; done)) (by first | assumption | omega | (simp [*]; done)) (by first | assumption | omega | (simp [*]; done)) (by first | assumption | omega | (simp [*]; done))) wm_RX5_88 hA hW [2, 3] [0, 1] rfl rfl rfl rfl rfl 2 rfl rfl ⟨rfl, rfl⟩ ⟨Nat.le_of_ble_eq_true rfl, Nat.le_of_ble_eq_true rfl⟩ ⟨Nat.zero_le _, Nat.zero_le _⟩ hl rfl rfl (Nat.le_of_ble_eq_true rfl) dX5_readPrice_41 [(tb, .inr (0, [.int (nI thd.toNat), .int (nI tlo), .int (iI ((te : Int) - 1)), .int (nI thn.toNat), .int (nI tcu), .ref tsc, .ref tfg, .ref ttv, .ref tpr])), (tpr, .inl (D.2.1, 10, .inl (nA tPR))), (tx, .inr (5, [.ref lt, .int (nI len), .int (iI s5.2.2.1), .int (nI s5.2.1), .int (nI s5.1), .int (nI s5.2.2.2), .int (nI tu), .int (nI pd)])), (lt, .inl (D.2.2.2.1, 220, .inl (nA LT)))] (by subst hs5; rfl) (fun H locs hW => ?_)
    have ho_s5 : tsOk len s5 := by rw [hs5]; exact reS_ok hlen ho_s4
    obtain ⟨ho_s5a, ho_s5b, ho_s5c, ho_s5d, ho_s5e⟩ := ho_s5
    have ho_s5 : tsOk len s5 := ⟨ho_s5a, ho_s5b, ho_s5c, ho_s5d, ho_s5e⟩
    have hS6 : s5 = pS5 LT len pd (at_, fn, fa, na) := by rw [pS5, ← hS3, ← hs4]; exact hs5
    refine x_aload_n hx dX5_readPrice_44 hl 2 rfl ?_
    refine x_get5 hx hW.1 2 rfl 3 (Nat.le_of_ble_eq_true rfl) wf_RX5_22 rfl dX5_readPrice_45 ?_
    refine x_if_ne_N (a := s5.2.1) (tgt := 70) hx dX5_readPrice_48 (by decide) (by omega) (fun h_2 => ?_) (fun h_2 => ?_)
    · have e_3 : ∀ k, k < 10 → (tPR) k = (selN (decide ((pS5 LT len pd (at_, fn, fa, na)).2.1 = 0)) (va_up tPR (pA LT len (at_, fn, fa, na)) (pB LT len pd (at_, fn, fa, na))) tPR) k := by
        intro k hk
        rw [← hS6, ← hvA, ← hvB]; first | exact (sel_t (decide_eq_true (by assumption)) k).symm | exact (sel_f (decide_eq_false (by assumption)) k).symm
      have hW : Wd X D A [(tb, .inr (0, [.int (nI thd.toNat), .int (nI tlo), .int (iI ((te : Int) - 1)), .int (nI thn.toNat), .int (nI tcu), .ref tsc, .ref tfg, .ref ttv, .ref tpr])), (tpr, .inl (D.2.1, 10, .inl (nA (selN (decide ((pS5 LT len pd (at_, fn, fa, na)).2.1 = 0)) (va_up tPR (pA LT len (at_, fn, fa, na)) (pB LT len pd (at_, fn, fa, na))) tPR)))), (tx, .inr (5, [.ref lt, .int (nI len), .int (iI s5.2.2.1), .int (nI s5.2.1), .int (nI s5.1), .int (nI s5.2.2.2), .int (nI tu), .int (nI pd)])), (lt, .inl (D.2.2.2.1, 220, .inl (nA LT)))] _ _ := hW.row 1 rfl (fun j hj => congrArg (nI) (e_3 j hj)) rfl
      have e_4 : (s5.2.2.1 : Int) = (pS5 LT len pd (at_, fn, fa, na)).2.2.1 := by
        rw [← hS6]; first | done | rfl | (rw [pk_t (decide_eq_true (by assumption)), ← hvA]; done) | (rw [pk_f (decide_eq_false (by assumption))]; done)
      have e_5 : (s5.2.1 : Nat) = (pS5 LT len pd (at_, fn, fa, na)).2.1 := by
        clear e_4
        rw [← hS6]; first | done | rfl | (rw [pk_t (decide_eq_true (by assumption)), ← hvA]; done) | (rw [pk_f (decide_eq_false (by assumption))]; done)
      have e_6 : (s5.1 : Nat) = (pS5 LT len pd (at_, fn, fa, na)).1 := by
        clear e_4 e_5
        rw [← hS6]; first | done | rfl | (rw [pk_t (decide_eq_true (by assumption)), ← hvA]; done) | (rw [pk_f (decide_eq_false (by assumption))]; done)
      have e_7 : (s5.2.2.2 : Nat) = (pS5 LT len pd (at_, fn, fa, na)).2.2.2 := by
        clear e_4 e_5 e_6
        rw [← hS6]; first | done | rfl | (rw [pk_t (decide_eq_true (by assumption)), ← hvA]; done) | (rw [pk_f (decide_eq_false (by assumption))]; done)
      have e_8 : (pd : Nat) = pk (decide ((pS5 LT len pd (at_, fn, fa, na)).2.1 = 0)) (pd ||| 2 ^ (pA LT len (at_, fn, fa, na))) pd := by
        clear e_4 e_5 e_6 e_7
        rw [← hS6]; first | done | rfl | (rw [pk_t (decide_eq_true (by assumption)), ← hvA]; done) | (rw [pk_f (decide_eq_false (by assumption))]; done)
      exact hret _ _ _ _ dX5_readPrice_70 (hW.conv [2, 3, 0, 1] (w1 := [(tx, .inr (5, [.ref lt, .int (nI len), .int (iI s5.2.2.1), .int (nI s5.2.1), .int (nI s5.1), .int (nI s5.2.2.2), .int (nI tu), .int (nI pd)])), (lt, .inl (D.2.2.2.1, 220, .inl (nA LT))), (tb, .inr (0, [.int (nI thd.toNat), .int (nI tlo), .int (iI ((te : Int) - 1)), .int (nI thn.toNat), .int (nI tcu), .ref tsc, .ref tfg, .ref ttv, .ref tpr])), (tpr, .inl (D.2.1, 10, .inl (nA (selN (decide ((pS5 LT len pd (at_, fn, fa, na)).2.1 = 0)) (va_up tPR (pA LT len (at_, fn, fa, na)) (pB LT len pd (at_, fn, fa, na))) tPR))))]) (w2 := [(tx, .inr (5, [.ref lt, .int (nI len), .int (iI ((pS5 LT len pd (at_, fn, fa, na)).2.2.1)), .int (nI ((pS5 LT len pd (at_, fn, fa, na)).2.1)), .int (nI ((pS5 LT len pd (at_, fn, fa, na)).1)), .int (nI ((pS5 LT len pd (at_, fn, fa, na)).2.2.2)), .int (nI tu), .int (nI (pk (decide ((pS5 LT len pd (at_, fn, fa, na)).2.1 = 0)) (pd ||| 2 ^ (pA LT len (at_, fn, fa, na))) pd))])), (lt, .inl (D.2.2.2.1, 220, .inl (nA LT))), (tb, .inr (0, [.int (nI thd.toNat), .int (nI tlo), .int (iI ((te : Int) - 1)), .int (nI thn.toNat), .int (nI tcu), .ref tsc, .ref tfg, .ref ttv, .ref tpr])), (tpr, .inl (D.2.1, 10, .inl (nA (selN (decide ((pS5 LT len pd (at_, fn, fa, na)).2.1 = 0)) (va_up tPR (pA LT len (at_, fn, fa, na)) (pB LT len pd (at_, fn, fa, na))) tPR))))]) rfl rfl (cE (congrArg (fun z => ((tx, .inr (5, z)) : Nat × va_E)) (cE rfl (cE rfl (cE (congrArg Value.int (congrArg (fun z : Int => iI z) e_4)) (cE (congrArg Value.int (congrArg (fun z : Nat => nI z) e_5)) (cE (congrArg Value.int (congrArg (fun z : Nat => nI z) e_6)) (cE (congrArg Value.int (congrArg (fun z : Nat => nI z) e_7)) (cE rfl (cE (congrArg Value.int (congrArg (fun z : Nat => nI z) e_8)) rfl))))))))) (cE rfl (cE rfl (cE rfl rfl)))))
    · refine x_aload_n hx dX5_readPrice_51 hl 3 rfl ?_
      refine x_get0 hx hW.1 0 rfl 8 (Nat.le_of_ble_eq_true rfl) wf_RX5_117 rfl dX5_readPrice_52 ?_
      refine x_iload_n hx dX5_readPrice_55 hl 1 rfl ?_
      refine x_iload_n hx dX5_readPrice_56 hl 0 rfl ?_
      have hj_57 : v1 < 10 := by omega
      refine x_iast hx hW 1 rfl hj_57 (by decide) (upd_nA _ _ _) dX5_readPrice_57 [(tb, .inr (0, [.int (nI thd.toNat), .int (nI tlo), .int (iI ((te : Int) - 1)), .int (nI thn.toNat), .int (nI tcu), .ref tsc, .ref tfg, .ref ttv, .ref tpr])), (tpr, .inl (D.2.1, 10, .inl (nA (va_up tPR v1 v2)))), (tx, .inr (5, [.ref lt, .int (nI len), .int (iI s5.2.2.1), .int (nI s5.2.1), .int (nI s5.1), .int (nI s5.2.2.2), .int (nI tu), .int (nI pd)])), (lt, .inl (D.2.2.2.1, 220, .inl (nA LT)))] rfl (fun H locs hW => ?_)
      refine x_aload_n hx dX5_readPrice_58 hl 2 rfl ?_
      refine x_dup hx dX5_readPrice_59 rfl ?_
      refine x_get5 hx hW.1 2 rfl 7 (Nat.le_of_ble_eq_true rfl) wf_RX5_34 rfl dX5_readPrice_60 ?_
      refine x_iconst (v := nI 1) hx dX5_readPrice_63 (by decide) ?_
      refine x_iload_n hx dX5_readPrice_64 hl 1 rfl ?_
      refine x_ishl (v := nI (2 ^ v1)) hx dX5_readPrice_65 (nI_shl1 (by omega)) ?_
      refine x_ior (v := nI (pd ||| (2 ^ v1))) hx dX5_readPrice_66 (nI_or _ _) ?_
      refine x_put5 hx hW 2 rfl 7 (Nat.le_of_ble_eq_true rfl) wf_RX5_34 rfl rfl rfl (Nat.le_of_ble_eq_true rfl) dX5_readPrice_67 [(tb, .inr (0, [.int (nI thd.toNat), .int (nI tlo), .int (iI ((te : Int) - 1)), .int (nI thn.toNat), .int (nI tcu), .ref tsc, .ref tfg, .ref ttv, .ref tpr])), (tpr, .inl (D.2.1, 10, .inl (nA (va_up tPR v1 v2)))), (tx, .inr (5, [.ref lt, .int (nI len), .int (iI s5.2.2.1), .int (nI s5.2.1), .int (nI s5.1), .int (nI s5.2.2.2), .int (nI tu), .int (nI (pd ||| (2 ^ v1)))])), (lt, .inl (D.2.2.2.1, 220, .inl (nA LT)))] rfl (fun H locs hW => ?_)
      have e_9 : ∀ k, k < 10 → (va_up tPR v1 v2) k = (selN (decide ((pS5 LT len pd (at_, fn, fa, na)).2.1 = 0)) (va_up tPR (pA LT len (at_, fn, fa, na)) (pB LT len pd (at_, fn, fa, na))) tPR) k := by
        intro k hk
        rw [← hS6, ← hvA, ← hvB]; first | exact (sel_t (decide_eq_true (by assumption)) k).symm | exact (sel_f (decide_eq_false (by assumption)) k).symm
      have hW : Wd X D A [(tb, .inr (0, [.int (nI thd.toNat), .int (nI tlo), .int (iI ((te : Int) - 1)), .int (nI thn.toNat), .int (nI tcu), .ref tsc, .ref tfg, .ref ttv, .ref tpr])), (tpr, .inl (D.2.1, 10, .inl (nA (selN (decide ((pS5 LT len pd (at_, fn, fa, na)).2.1 = 0)) (va_up tPR (pA LT len (at_, fn, fa, na)) (pB LT len pd (at_, fn, fa, na))) tPR)))), (tx, .inr (5, [.ref lt, .int (nI len), .int (iI s5.2.2.1), .int (nI s5.2.1), .int (nI s5.1), .int (nI s5.2.2.2), .int (nI tu), .int (nI (pd ||| (2 ^ v1)))])), (lt, .inl (D.2.2.2.1, 220, .inl (nA LT)))] _ _ := hW.row 1 rfl (fun j hj => congrArg (nI) (e_9 j hj)) rfl
      have e_10 : (s5.2.2.1 : Int) = (pS5 LT len pd (at_, fn, fa, na)).2.2.1 := by
        rw [← hS6]; first | done | rfl | (rw [pk_t (decide_eq_true (by assumption)), ← hvA]; done) | (rw [pk_f (decide_eq_false (by assumption))]; done)
      have e_11 : (s5.2.1 : Nat) = (pS5 LT len pd (at_, fn, fa, na)).2.1 := by
        clear e_10
        rw [← hS6]; first | done | rfl | (rw [pk_t (decide_eq_true (by assumption)), ← hvA]; done) | (rw [pk_f (decide_eq_false (by assumption))]; done)
      have e_12 : (s5.1 : Nat) = (pS5 LT len pd (at_, fn, fa, na)).1 := by
        clear e_10 e_11
        rw [← hS6]; first | done | rfl | (rw [pk_t (decide_eq_true (by assumption)), ← hvA]; done) | (rw [pk_f (decide_eq_false (by assumption))]; done)
      have e_13 : (s5.2.2.2 : Nat) = (pS5 LT len pd (at_, fn, fa, na)).2.2.2 := by
        clear e_10 e_11 e_12
        rw [← hS6]; first | done | rfl | (rw [pk_t (decide_eq_true (by assumption)), ← hvA]; done) | (rw [pk_f (decide_eq_false (by assumption))]; done)
      have e_14 : (pd ||| (2 ^ v1) : Nat) = pk (decide ((pS5 LT len pd (at_, fn, fa, na)).2.1 = 0)) (pd ||| 2 ^ (pA LT len (at_, fn, fa, na))) pd := by
        clear e_10 e_11 e_12 e_13
        rw [← hS6]; first | done | rfl | (rw [pk_t (decide_eq_true (by assumption)), ← hvA]; done) | (rw [pk_f (decide_eq_false (by assumption))]; done)
      exact hret _ _ _ _ dX5_readPrice_70 (hW.conv [2, 3, 0, 1] (w1 := [(tx, .inr (5, [.ref lt, .int (nI len), .int (iI s5.2.2.1), .int (nI s5.2.1), .int (nI s5.1), .int (nI s5.2.2.2), .int (nI tu), .int (nI (pd ||| (2 ^ v1)))])), (lt, .inl (D.2.2.2.1, 220, .inl (nA LT))), (tb, .inr (0, [.int (nI thd.toNat), .int (nI tlo), .int (iI ((te : Int) - 1)), .int (nI thn.toNat), .int (nI tcu), .ref tsc, .ref tfg, .ref ttv, .ref tpr])), (tpr, .inl (D.2.1, 10, .inl (nA (selN (decide ((pS5 LT len pd (at_, fn, fa, na)).2.1 = 0)) (va_up tPR (pA LT len (at_, fn, fa, na)) (pB LT len pd (at_, fn, fa, na))) tPR))))]) (w2 := [(tx, .inr (5, [.ref lt, .int (nI len), .int (iI ((pS5 LT len pd (at_, fn, fa, na)).2.2.1)), .int (nI ((pS5 LT len pd (at_, fn, fa, na)).2.1)), .int (nI ((pS5 LT len pd (at_, fn, fa, na)).1)), .int (nI ((pS5 LT len pd (at_, fn, fa, na)).2.2.2)), .int (nI tu), .int (nI (pk (decide ((pS5 LT len pd (at_, fn, fa, na)).2.1 = 0)) (pd ||| 2 ^ (pA LT len (at_, fn, fa, na))) pd))])), (lt, .inl (D.2.2.2.1, 220, .inl (nA LT))), (tb, .inr (0, [.int (nI thd.toNat), .int (nI tlo), .int (iI ((te : Int) - 1)), .int (nI thn.toNat), .int (nI tcu), .ref tsc, .ref tfg, .ref ttv, .ref tpr])), (tpr, .inl (D.2.1, 10, .inl (nA (selN (decide ((pS5 LT len pd (at_, fn, fa, na)).2.1 = 0)) (va_up tPR (pA LT len (at_, fn, fa, na)) (pB LT len pd (at_, fn, fa, na))) tPR))))]) rfl rfl (cE (congrArg (fun z => ((tx, .inr (5, z)) : Nat × va_E)) (cE rfl (cE rfl (cE (congrArg Value.int (congrArg (fun z : Int => iI z) e_10)) (cE (congrArg Value.int (congrArg (fun z : Nat => nI z) e_11)) (cE (congrArg Value.int (congrArg (fun z : Nat => nI z) e_12)) (cE (congrArg Value.int (congrArg (fun z : Nat => nI z) e_13)) (cE rfl (cE (congrArg Value.int (congrArg (fun z : Nat => nI z) e_14)) rfl))))))))) (cE rfl (cE rfl (cE rfl rfl)))))
  · refine x_aload_n hx dX5_readPrice_24 hl 1 rfl ?_
    refine x_iconst (v := nI 4) hx dX5_readPrice_25 (by decide) ?_
    refine x_aload_n hx dX5_readPrice_26 hl 1 rfl ?_
    refine x_get5 hx hW.1 2 rfl 5 (Nat.le_of_ble_eq_true rfl) wf_RX5_28 rfl dX5_readPrice_27 ?_
    obtain ⟨s3, hs3⟩ : ∃ z : TS, z = blS 4 s2.2.2.2 s2 := ⟨_, rfl⟩
    refine x_callVV (As := [.int (nI 4), .int (nI s2.2.2.2)]) (rest := []) (wr := [(tb, .inr (0, [.int (nI thd.toNat), .int (nI tlo), .int (iI ((te : Int) - 1)), .int (nI thn.toNat), .int (nI tcu), .ref tsc, .ref tfg, .ref ttv, .ref tpr])), (tpr, .inl (D.2.1, 10, .inl (nA tPR))), (lt, .inl (D.2.2.2.1, 220, .inl (nA LT)))]) hx yv_X5_blame (c_X5_blame _ D tx lt len s2.2.2.1 s2.2.1 s2.1 s2.2.2.2 tu pd 4 (s2.2.2.2 : Int) (by first | assumption | omega | (simp [*]; done))) wm_RX5_67 hA hW [2] [0, 1, 3] rfl rfl rfl rfl rfl 2 rfl rfl ⟨rfl, rfl⟩ ⟨Nat.le_of_ble_eq_true rfl, Nat.le_of_ble_eq_true rfl⟩ ⟨Nat.zero_le _, Nat.zero_le _⟩ hl rfl rfl (Nat.le_of_ble_eq_true rfl) dX5_readPrice_30 [(tb, .inr (0, [.int (nI thd.toNat), .int (nI tlo), .int (iI ((te : Int) - 1)), .int (nI thn.toNat), .int (nI tcu), .ref tsc, .ref tfg, .ref ttv, .ref tpr])), (tpr, .inl (D.2.1, 10, .inl (nA tPR))), (lt, .inl (D.2.2.2.1, 220, .inl (nA LT))), (tx, .inr (5, [.ref lt, .int (nI len), .int (iI s3.2.2.1), .int (nI s3.2.1), .int (nI s3.1), .int (nI s3.2.2.2), .int (nI tu), .int (nI pd)]))] (by subst hs3; rfl) (fun H locs hW => ?_)
    have ho_s3 : tsOk len s3 := by rw [hs3]; exact blS_ok (by decide) (by omega) ho_s2
    obtain ⟨ho_s3a, ho_s3b, ho_s3c, ho_s3d, ho_s3e⟩ := ho_s3
    have ho_s3 : tsOk len s3 := ⟨ho_s3a, ho_s3b, ho_s3c, ho_s3d, ho_s3e⟩
    have hS3 : s3 = pS3 LT len pd (at_, fn, fa, na) := by rw [pS3, ← hvA, if_pos (by assumption), ← hS2]; exact hs3
    refine x_aload_n hx dX5_readPrice_33 hl 1 rfl ?_
    refine x_bipush (v := nI 99) hx dX5_readPrice_34 (by decide) ?_
    obtain ⟨s4, hs4⟩ : ∃ z : TS, z = rnS LT len 99 s3 := ⟨_, rfl⟩
    refine x_callMV (As := [.int (nI 99)]) (rest := []) (wr := [(tb, .inr (0, [.int (nI thd.toNat), .int (nI tlo), .int (iI ((te : Int) - 1)), .int (nI thn.toNat), .int (nI tcu), .ref tsc, .ref tfg, .ref ttv, .ref tpr])), (tpr, .inl (D.2.1, 10, .inl (nA tPR)))]) hx yv_X5_readNumber (c_X5_readNumber _ D tx lt len s3.2.2.1 s3.2.1 s3.1 s3.2.2.2 tu pd LT 99 (by first | assumption | omega | (simp [*]; done)) (by first | assumption | omega | (simp [*]; done)) (by first | assumption | omega | (simp [*]; done)) (by first | assumption | omega | (simp [*]; done)) (by first | assumption | omega | (simp [*]; done))) wm_RX5_84 hA hW [3, 2] [0, 1] rfl rfl rfl rfl rfl 3 rfl rfl ⟨rfl, rfl⟩ ⟨Nat.le_of_ble_eq_true rfl, Nat.le_of_ble_eq_true rfl⟩ ⟨Nat.zero_le _, Nat.zero_le _⟩ hl rfl rfl (Nat.le_of_ble_eq_true rfl) dX5_readPrice_36 [(tb, .inr (0, [.int (nI thd.toNat), .int (nI tlo), .int (iI ((te : Int) - 1)), .int (nI thn.toNat), .int (nI tcu), .ref tsc, .ref tfg, .ref ttv, .ref tpr])), (tpr, .inl (D.2.1, 10, .inl (nA tPR))), (tx, .inr (5, [.ref lt, .int (nI len), .int (iI s4.2.2.1), .int (nI s4.2.1), .int (nI s4.1), .int (nI s4.2.2.2), .int (nI tu), .int (nI pd)])), (lt, .inl (D.2.2.2.1, 220, .inl (nA LT)))] (by subst hs4; rfl) (fun H locs hW => ?_)
    obtain ⟨v2, hv2⟩ : ∃ z : Nat, z = rnV LT len 99 s3 := ⟨_, rfl⟩
    have hle_v2 : v2 ≤ 99 := by rw [hv2]; exact rnV_le
    refine x_top (u := nI v2) (congrArg nI hv2.symm) ?_
    have hvB : v2 = pB LT len pd (at_, fn, fa, na) := by rw [pB, ← hS3]; exact hv2
    have ho_s4 : tsOk len s4 := by rw [hs4]; exact rnS_ok hlen ho_s3
    obtain ⟨ho_s4a, ho_s4b, ho_s4c, ho_s4d, ho_s4e⟩ := ho_s4
    have ho_s4 : tsOk len s4 := ⟨ho_s4a, ho_s4b, ho_s4c, ho_s4d, ho_s4e⟩
    refine x_istore_n (lv' := [(3, .int (nI v2)), (2, .int (nI v1)), (0, .ref tx), (1, .ref tb)]) hx dX5_readPrice_39 hl (Nat.le_of_ble_eq_true rfl) rfl (fun ls hl => ?_)
    refine x_aload_n hx dX5_readPrice_40 hl 2 rfl ?_
    obtain ⟨s5, hs5⟩ : ∃ z : TS, z = reS LT len s4 := ⟨_, rfl⟩
    refine x_callVV (As := []) (rest := []) (wr := [(tb, .inr (0, [.int (nI thd.toNat), .int (nI tlo), .int (iI ((te : Int) - 1)), .int (nI thn.toNat), .int (nI tcu), .ref tsc, .ref tfg, .ref ttv, .ref tpr])), (tpr, .inl (D.2.1, 10, .inl (nA tPR)))]) hx yv_X5_readEnd (c_X5_readEnd _ D tx lt len s4.2.2.1 s4.2.1 s4.1 s4.2.2.2 tu pd LT (by first | assumption | omega | (simp [*]; done)) (by first | assumption | omega | (simp [*]; done)) (by first | assumption | omega | (simp [*]; done)) (by first | assumption | omega | (simp [*]; done))) wm_RX5_88 hA hW [2, 3] [0, 1] rfl rfl rfl rfl rfl 2 rfl rfl ⟨rfl, rfl⟩ ⟨Nat.le_of_ble_eq_true rfl, Nat.le_of_ble_eq_true rfl⟩ ⟨Nat.zero_le _, Nat.zero_le _⟩ hl rfl rfl (Nat.le_of_ble_eq_true rfl) dX5_readPrice_41 [(tb, .inr (0, [.int (nI thd.toNat), .int (nI tlo), .int (iI ((te : Int) - 1)), .int (nI thn.toNat), .int (nI tcu), .ref tsc, .ref tfg, .ref ttv, .ref tpr])), (tpr, .inl (D.2.1, 10, .inl (nA tPR))), (tx, .inr (5, [.ref lt, .int (nI len), .int (iI s5.2.2.1), .int (nI s5.2.1), .int (nI s5.1), .int (nI s5.2.2.2), .int (nI tu), .int (nI pd)])), (lt, .inl (D.2.2.2.1, 220, .inl (nA LT)))] (by subst hs5; rfl) (fun H locs hW => ?_)
    have ho_s5 : tsOk len s5 := by rw [hs5]; exact reS_ok hlen ho_s4
    obtain ⟨ho_s5a, ho_s5b, ho_s5c, ho_s5d, ho_s5e⟩ := ho_s5
    have ho_s5 : tsOk len s5 := ⟨ho_s5a, ho_s5b, ho_s5c, ho_s5d, ho_s5e⟩
    have hS6 : s5 = pS5 LT len pd (at_, fn, fa, na) := by rw [pS5, ← hS3, ← hs4]; exact hs5
    refine x_aload_n hx dX5_readPrice_44 hl 2 rfl ?_
    refine x_get5 hx hW.1 2 rfl 3 (Nat.le_of_ble_eq_true rfl) wf_RX5_22 rfl dX5_readPrice_45 ?_
    refine x_if_ne_N (a := s5.2.1) (tgt := 70) hx dX5_readPrice_48 (by decide) (by omega) (fun h_15 => ?_) (fun h_15 => ?_)
    · have e_16 : ∀ k, k < 10 → (tPR) k = (selN (decide ((pS5 LT len pd (at_, fn, fa, na)).2.1 = 0)) (va_up tPR (pA LT len (at_, fn, fa, na)) (pB LT len pd (at_, fn, fa, na))) tPR) k := by
        intro k hk
        rw [← hS6, ← hvA, ← hvB]; first | exact (sel_t (decide_eq_true (by assumption)) k).symm | exact (sel_f (decide_eq_false (by assumption)) k).symm
      have hW : Wd X D A [(tb, .inr (0, [.int (nI thd.toNat), .int (nI tlo), .int (iI ((te : Int) - 1)), .int (nI thn.toNat), .int (nI tcu), .ref tsc, .ref tfg, .ref ttv, .ref tpr])), (tpr, .inl (D.2.1, 10, .inl (nA (selN (decide ((pS5 LT len pd (at_, fn, fa, na)).2.1 = 0)) (va_up tPR (pA LT len (at_, fn, fa, na)) (pB LT len pd (at_, fn, fa, na))) tPR)))), (tx, .inr (5, [.ref lt, .int (nI len), .int (iI s5.2.2.1), .int (nI s5.2.1), .int (nI s5.1), .int (nI s5.2.2.2), .int (nI tu), .int (nI pd)])), (lt, .inl (D.2.2.2.1, 220, .inl (nA LT)))] _ _ := hW.row 1 rfl (fun j hj => congrArg (nI) (e_16 j hj)) rfl
      have e_17 : (s5.2.2.1 : Int) = (pS5 LT len pd (at_, fn, fa, na)).2.2.1 := by
        rw [← hS6]; first | done | rfl | (rw [pk_t (decide_eq_true (by assumption)), ← hvA]; done) | (rw [pk_f (decide_eq_false (by assumption))]; done)
      have e_18 : (s5.2.1 : Nat) = (pS5 LT len pd (at_, fn, fa, na)).2.1 := by
        clear e_17
        rw [← hS6]; first | done | rfl | (rw [pk_t (decide_eq_true (by assumption)), ← hvA]; done) | (rw [pk_f (decide_eq_false (by assumption))]; done)
      have e_19 : (s5.1 : Nat) = (pS5 LT len pd (at_, fn, fa, na)).1 := by
        clear e_17 e_18
        rw [← hS6]; first | done | rfl | (rw [pk_t (decide_eq_true (by assumption)), ← hvA]; done) | (rw [pk_f (decide_eq_false (by assumption))]; done)
      have e_20 : (s5.2.2.2 : Nat) = (pS5 LT len pd (at_, fn, fa, na)).2.2.2 := by
        clear e_17 e_18 e_19
        rw [← hS6]; first | done | rfl | (rw [pk_t (decide_eq_true (by assumption)), ← hvA]; done) | (rw [pk_f (decide_eq_false (by assumption))]; done)
      have e_21 : (pd : Nat) = pk (decide ((pS5 LT len pd (at_, fn, fa, na)).2.1 = 0)) (pd ||| 2 ^ (pA LT len (at_, fn, fa, na))) pd := by
        clear e_17 e_18 e_19 e_20
        rw [← hS6]; first | done | rfl | (rw [pk_t (decide_eq_true (by assumption)), ← hvA]; done) | (rw [pk_f (decide_eq_false (by assumption))]; done)
      exact hret _ _ _ _ dX5_readPrice_70 (hW.conv [2, 3, 0, 1] (w1 := [(tx, .inr (5, [.ref lt, .int (nI len), .int (iI s5.2.2.1), .int (nI s5.2.1), .int (nI s5.1), .int (nI s5.2.2.2), .int (nI tu), .int (nI pd)])), (lt, .inl (D.2.2.2.1, 220, .inl (nA LT))), (tb, .inr (0, [.int (nI thd.toNat), .int (nI tlo), .int (iI ((te : Int) - 1)), .int (nI thn.toNat), .int (nI tcu), .ref tsc, .ref tfg, .ref ttv, .ref tpr])), (tpr, .inl (D.2.1, 10, .inl (nA (selN (decide ((pS5 LT len pd (at_, fn, fa, na)).2.1 = 0)) (va_up tPR (pA LT len (at_, fn, fa, na)) (pB LT len pd (at_, fn, fa, na))) tPR))))]) (w2 := [(tx, .inr (5, [.ref lt, .int (nI len), .int (iI ((pS5 LT len pd (at_, fn, fa, na)).2.2.1)), .int (nI ((pS5 LT len pd (at_, fn, fa, na)).2.1)), .int (nI ((pS5 LT len pd (at_, fn, fa, na)).1)), .int (nI ((pS5 LT len pd (at_, fn, fa, na)).2.2.2)), .int (nI tu), .int (nI (pk (decide ((pS5 LT len pd (at_, fn, fa, na)).2.1 = 0)) (pd ||| 2 ^ (pA LT len (at_, fn, fa, na))) pd))])), (lt, .inl (D.2.2.2.1, 220, .inl (nA LT))), (tb, .inr (0, [.int (nI thd.toNat), .int (nI tlo), .int (iI ((te : Int) - 1)), .int (nI thn.toNat), .int (nI tcu), .ref tsc, .ref tfg, .ref ttv, .ref tpr])), (tpr, .inl (D.2.1, 10, .inl (nA (selN (decide ((pS5 LT len pd (at_, fn, fa, na)).2.1 = 0)) (va_up tPR (pA LT len (at_, fn, fa, na)) (pB LT len pd (at_, fn, fa, na))) tPR))))]) rfl rfl (cE (congrArg (fun z => ((tx, .inr (5, z)) : Nat × va_E)) (cE rfl (cE rfl (cE (congrArg Value.int (congrArg (fun z : Int => iI z) e_17)) (cE (congrArg Value.int (congrArg (fun z : Nat => nI z) e_18)) (cE (congrArg Value.int (congrArg (fun z : Nat => nI z) e_19)) (cE (congrArg Value.int (congrArg (fun z : Nat => nI z) e_20)) (cE rfl (cE (congrArg Value.int (congrArg (fun z : Nat => nI z) e_21)) rfl))))))))) (cE rfl (cE rfl (cE rfl rfl)))))
    · refine x_aload_n hx dX5_readPrice_51 hl 3 rfl ?_
      refine x_get0 hx hW.1 0 rfl 8 (Nat.le_of_ble_eq_true rfl) wf_RX5_117 rfl dX5_readPrice_52 ?_
      refine x_iload_n hx dX5_readPrice_55 hl 1 rfl ?_
      refine x_iload_n hx dX5_readPrice_56 hl 0 rfl ?_
      have hj_57 : v1 < 10 := by omega
      refine x_iast hx hW 1 rfl hj_57 (by decide) (upd_nA _ _ _) dX5_readPrice_57 [(tb, .inr (0, [.int (nI thd.toNat), .int (nI tlo), .int (iI ((te : Int) - 1)), .int (nI thn.toNat), .int (nI tcu), .ref tsc, .ref tfg, .ref ttv, .ref tpr])), (tpr, .inl (D.2.1, 10, .inl (nA (va_up tPR v1 v2)))), (tx, .inr (5, [.ref lt, .int (nI len), .int (iI s5.2.2.1), .int (nI s5.2.1), .int (nI s5.1), .int (nI s5.2.2.2), .int (nI tu), .int (nI pd)])), (lt, .inl (D.2.2.2.1, 220, .inl (nA LT)))] rfl (fun H locs hW => ?_)
      refine x_aload_n hx dX5_readPrice_58 hl 2 rfl ?_
      refine x_dup hx dX5_readPrice_59 rfl ?_
      refine x_get5 hx hW.1 2 rfl 7 (Nat.le_of_ble_eq_true rfl) wf_RX5_34 rfl dX5_readPrice_60 ?_
      refine x_iconst (v := nI 1) hx dX5_readPrice_63 (by decide) ?_
      refine x_iload_n hx dX5_readPrice_64 hl 1 rfl ?_
      refine x_ishl (v := nI (2 ^ v1)) hx dX5_readPrice_65 (nI_shl1 (by omega)) ?_
      refine x_ior (v := nI (pd ||| (2 ^ v1))) hx dX5_readPrice_66 (nI_or _ _) ?_
      refine x_put5 hx hW 2 rfl 7 (Nat.le_of_ble_eq_true rfl) wf_RX5_34 rfl rfl rfl (Nat.le_of_ble_eq_true rfl) dX5_readPrice_67 [(tb, .inr (0, [.int (nI thd.toNat), .int (nI tlo), .int (iI ((te : Int) - 1)), .int (nI thn.toNat), .int (nI tcu), .ref tsc, .ref tfg, .ref ttv, .ref tpr])), (tpr, .inl (D.2.1, 10, .inl (nA (va_up tPR v1 v2)))), (tx, .inr (5, [.ref lt, .int (nI len), .int (iI s5.2.2.1), .int (nI s5.2.1), .int (nI s5.1), .int (nI s5.2.2.2), .int (nI tu), .int (nI (pd ||| (2 ^ v1)))])), (lt, .inl (D.2.2.2.1, 220, .inl (nA LT)))] rfl (fun H locs hW => ?_)
      have e_22 : ∀ k, k < 10 → (va_up tPR v1 v2) k = (selN (decide ((pS5 LT len pd (at_, fn, fa, na)).2.1 = 0)) (va_up tPR (pA LT len (at_, fn, fa, na)) (pB LT len pd (at_, fn, fa, na))) tPR) k := by
        intro k hk
        rw [← hS6, ← hvA, ← hvB]; first | exact (sel_t (decide_eq_true (by assumption)) k).symm | exact (sel_f (decide_eq_false (by assumption)) k).symm
      have hW : Wd X D A [(tb, .inr (0, [.int (nI thd.toNat), .int (nI tlo), .int (iI ((te : Int) - 1)), .int (nI thn.toNat), .int (nI tcu), .ref tsc, .ref tfg, .ref ttv, .ref tpr])), (tpr, .inl (D.2.1, 10, .inl (nA (selN (decide ((pS5 LT len pd (at_, fn, fa, na)).2.1 = 0)) (va_up tPR (pA LT len (at_, fn, fa, na)) (pB LT len pd (at_, fn, fa, na))) tPR)))), (tx, .inr (5, [.ref lt, .int (nI len), .int (iI s5.2.2.1), .int (nI s5.2.1), .int (nI s5.1), .int (nI s5.2.2.2), .int (nI tu), .int (nI (pd ||| (2 ^ v1)))])), (lt, .inl (D.2.2.2.1, 220, .inl (nA LT)))] _ _ := hW.row 1 rfl (fun j hj => congrArg (nI) (e_22 j hj)) rfl
      have e_23 : (s5.2.2.1 : Int) = (pS5 LT len pd (at_, fn, fa, na)).2.2.1 := by
        rw [← hS6]; first | done | rfl | (rw [pk_t (decide_eq_true (by assumption)), ← hvA]; done) | (rw [pk_f (decide_eq_false (by assumption))]; done)
      have e_24 : (s5.2.1 : Nat) = (pS5 LT len pd (at_, fn, fa, na)).2.1 := by
        clear e_23
        rw [← hS6]; first | done | rfl | (rw [pk_t (decide_eq_true (by assumption)), ← hvA]; done) | (rw [pk_f (decide_eq_false (by assumption))]; done)
      have e_25 : (s5.1 : Nat) = (pS5 LT len pd (at_, fn, fa, na)).1 := by
        clear e_23 e_24
        rw [← hS6]; first | done | rfl | (rw [pk_t (decide_eq_true (by assumption)), ← hvA]; done) | (rw [pk_f (decide_eq_false (by assumption))]; done)
      have e_26 : (s5.2.2.2 : Nat) = (pS5 LT len pd (at_, fn, fa, na)).2.2.2 := by
        clear e_23 e_24 e_25
        rw [← hS6]; first | done | rfl | (rw [pk_t (decide_eq_true (by assumption)), ← hvA]; done) | (rw [pk_f (decide_eq_false (by assumption))]; done)
      have e_27 : (pd ||| (2 ^ v1) : Nat) = pk (decide ((pS5 LT len pd (at_, fn, fa, na)).2.1 = 0)) (pd ||| 2 ^ (pA LT len (at_, fn, fa, na))) pd := by
        clear e_23 e_24 e_25 e_26
        rw [← hS6]; first | done | rfl | (rw [pk_t (decide_eq_true (by assumption)), ← hvA]; done) | (rw [pk_f (decide_eq_false (by assumption))]; done)
      exact hret _ _ _ _ dX5_readPrice_70 (hW.conv [2, 3, 0, 1] (w1 := [(tx, .inr (5, [.ref lt, .int (nI len), .int (iI s5.2.2.1), .int (nI s5.2.1), .int (nI s5.1), .int (nI s5.2.2.2), .int (nI tu), .int (nI (pd ||| (2 ^ v1)))])), (lt, .inl (D.2.2.2.1, 220, .inl (nA LT))), (tb, .inr (0, [.int (nI thd.toNat), .int (nI tlo), .int (iI ((te : Int) - 1)), .int (nI thn.toNat), .int (nI tcu), .ref tsc, .ref tfg, .ref ttv, .ref tpr])), (tpr, .inl (D.2.1, 10, .inl (nA (selN (decide ((pS5 LT len pd (at_, fn, fa, na)).2.1 = 0)) (va_up tPR (pA LT len (at_, fn, fa, na)) (pB LT len pd (at_, fn, fa, na))) tPR))))]) (w2 := [(tx, .inr (5, [.ref lt, .int (nI len), .int (iI ((pS5 LT len pd (at_, fn, fa, na)).2.2.1)), .int (nI ((pS5 LT len pd (at_, fn, fa, na)).2.1)), .int (nI ((pS5 LT len pd (at_, fn, fa, na)).1)), .int (nI ((pS5 LT len pd (at_, fn, fa, na)).2.2.2)), .int (nI tu), .int (nI (pk (decide ((pS5 LT len pd (at_, fn, fa, na)).2.1 = 0)) (pd ||| 2 ^ (pA LT len (at_, fn, fa, na))) pd))])), (lt, .inl (D.2.2.2.1, 220, .inl (nA LT))), (tb, .inr (0, [.int (nI thd.toNat), .int (nI tlo), .int (iI ((te : Int) - 1)), .int (nI thn.toNat), .int (nI tcu), .ref tsc, .ref tfg, .ref ttv, .ref tpr])), (tpr, .inl (D.2.1, 10, .inl (nA (selN (decide ((pS5 LT len pd (at_, fn, fa, na)).2.1 = 0)) (va_up tPR (pA LT len (at_, fn, fa, na)) (pB LT len pd (at_, fn, fa, na))) tPR))))]) rfl rfl (cE (congrArg (fun z => ((tx, .inr (5, z)) : Nat × va_E)) (cE rfl (cE rfl (cE (congrArg Value.int (congrArg (fun z : Int => iI z) e_23)) (cE (congrArg Value.int (congrArg (fun z : Nat => nI z) e_24)) (cE (congrArg Value.int (congrArg (fun z : Nat => nI z) e_25)) (cE (congrArg Value.int (congrArg (fun z : Nat => nI z) e_26)) (cE rfl (cE (congrArg Value.int (congrArg (fun z : Nat => nI z) e_27)) rfl))))))))) (cE rfl (cE rfl (cE rfl rfl)))))
