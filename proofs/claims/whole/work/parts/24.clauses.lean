/-! the clauses -/
theorem rwS_ok {len : Nat} {b : Bool} {s : TS} (hl : len ≤ 220) (h : tsOk len s) (ha : s.1 < len) : tsOk len (rwS b s) := by
  unfold rwS
  split
  · exact blS_ok (by decide) (by omega) h
  · exact ⟨by simp only; omega, h.2⟩
def pk (b : Bool) (x y : Nat) : Nat := if b then x else y
theorem pk_t {b : Bool} {x y : Nat} (h : b = true) : pk b x y = x := by rw [pk, if_pos h]
theorem pk_f {b : Bool} {x y : Nat} (h : b = false) : pk b x y = y := by rw [pk, h]; rfl
def dS2 (LT : Nat → Nat) (len : Nat) (hd : Bool) (s : TS) : TS := rnS LT len 99 (rwS hd s)
def dS3 (LT : Nat → Nat) (len : Nat) (hd : Bool) (s : TS) : TS := rnS LT len 99 (dS2 LT len hd s)
def dL (LT : Nat → Nat) (len : Nat) (hd : Bool) (s : TS) : Nat := rnV LT len 99 (rwS hd s)
def dH (LT : Nat → Nat) (len : Nat) (hd : Bool) (s : TS) : Nat := rnV LT len 99 (dS2 LT len hd s)
def dS4 (LT : Nat → Nat) (len : Nat) (hd : Bool) (s : TS) : TS := if dH LT len hd s < dL LT len hd s then blS 4 (dS3 LT len hd s).2.2.2 (dS3 LT len hd s) else dS3 LT len hd s
def dZ (LT : Nat → Nat) (len : Nat) (hd : Bool) (s : TS) : Nat := rnV LT len 1 (dS4 LT len hd s)
def dS6 (LT : Nat → Nat) (len : Nat) (hd : Bool) (s : TS) : TS := reS LT len (rnS LT len 1 (dS4 LT len hd s))
set_option maxHeartbeats 4000000 in
set_option maxRecDepth 100000 in
theorem c_X5_readDays (l : Launch) (D : KD) (tx : Nat) (lt : Nat) (len : Nat) (fa : Int) (fn : Nat) (at_ : Nat) (na : Nat) (tu : Nat) (pd : Nat) (LT : Nat → Nat) (tb : Nat) (thd : Bool) (tlo : Nat) (te : Nat) (thn : Bool) (tcu : Nat) (tsc : Nat) (tfg : Nat) (ttv : Nat) (tpr : Nat) (hlen : len ≤ 220) (hat : at_ ≤ len) (hLT : ∀ k, k < 220 → LT k < 256) (hfn : fn ≤ 4) (hfa : -1 ≤ fa ∧ fa ≤ 220) (hna : na ≤ 220) (hatl : at_ < len) : cV l yX5_readDays cX5_readDays 5 rm_X5_readDays D [(tx, .inr (5, [.ref lt, .int (nI len), .int (iI fa), .int (nI fn), .int (nI at_), .int (nI na), .int (nI tu), .int (nI pd)])), (lt, .inl (D.2.2.2.1, 220, .inl (nA LT))), (tb, .inr (0, [.int (nI thd.toNat), .int (nI tlo), .int (iI ((te : Int) - 1)), .int (nI thn.toNat), .int (nI tcu), .ref tsc, .ref tfg, .ref ttv, .ref tpr]))] [.ref tx, .ref tb] [(tx, .inr (5, [.ref lt, .int (nI len), .int (iI ((dS6 LT len thd (at_, fn, fa, na)).2.2.1)), .int (nI ((dS6 LT len thd (at_, fn, fa, na)).2.1)), .int (nI ((dS6 LT len thd (at_, fn, fa, na)).1)), .int (nI ((dS6 LT len thd (at_, fn, fa, na)).2.2.2)), .int (nI tu), .int (nI pd)])), (lt, .inl (D.2.2.2.1, 220, .inl (nA LT))), (tb, .inr (0, [.int (nI (if (dS6 LT len thd (at_, fn, fa, na)).2.1 = 0 then true else thd).toNat), .int (nI (if (dS6 LT len thd (at_, fn, fa, na)).2.1 = 0 then dL LT len thd (at_, fn, fa, na) else tlo)), .int (iI (((pk (decide ((dS6 LT len thd (at_, fn, fa, na)).2.1 = 0)) (dH LT len thd (at_, fn, fa, na) + 1) te) : Int) - 1)), .int (nI (if (dS6 LT len thd (at_, fn, fa, na)).2.1 = 0 then decide (dZ LT len thd (at_, fn, fa, na) = 1) else thn).toNat), .int (nI tcu), .ref tsc, .ref tfg, .ref ttv, .ref tpr]))] := by
  refine cV.mk (by decide) (Nat.le_of_ble_eq_true rfl) ?_
  intro X A hx hL hA hW hret ls hl
  subst hL
  have hl : lv_has ls 5 [(0, .ref tx), (1, .ref tb)] := hl
  have ho_0 : tsOk len (at_, fn, fa, na) := ⟨by simp only; omega, by simp only; omega, by simp only; omega, by simp only; omega, by simp only; omega⟩
  refine x_aload_n hx dX5_readDays_0 hl 0 rfl ?_
  refine x_aload_n hx dX5_readDays_1 hl 1 rfl ?_
  refine x_get0 hx hW.1 2 rfl 0 (Nat.le_of_ble_eq_true rfl) wf_RX5_63 rfl dX5_readDays_2 ?_
  obtain ⟨s1, hs1⟩ : ∃ z : TS, z = rwS thd (at_, fn, fa, na) := ⟨_, rfl⟩
  refine x_callVV (As := [.int (nI thd.toNat)]) (rest := []) (wr := [(lt, .inl (D.2.2.2.1, 220, .inl (nA LT))), (tb, .inr (0, [.int (nI thd.toNat), .int (nI tlo), .int (iI ((te : Int) - 1)), .int (nI thn.toNat), .int (nI tcu), .ref tsc, .ref tfg, .ref ttv, .ref tpr]))]) hx yv_X5_readWord (c_X5_readWord _ D tx lt len fa fn at_ na tu pd thd (by first | assumption | omega | (simp [*]; done))) wm_RX5_80 hA hW [0] [1, 2] rfl rfl rfl rfl rfl 0 rfl rfl ⟨rfl, rfl⟩ ⟨Nat.le_of_ble_eq_true rfl, Nat.le_of_ble_eq_true rfl⟩ ⟨Nat.zero_le _, Nat.zero_le _⟩ hl rfl rfl (Nat.le_of_ble_eq_true rfl) dX5_readDays_5 [(lt, .inl (D.2.2.2.1, 220, .inl (nA LT))), (tb, .inr (0, [.int (nI thd.toNat), .int (nI tlo), .int (iI ((te : Int) - 1)), .int (nI thn.toNat), .int (nI tcu), .ref tsc, .ref tfg, .ref ttv, .ref tpr])), (tx, .inr (5, [.ref lt, .int (nI len), .int (iI s1.2.2.1), .int (nI s1.2.1), .int (nI s1.1), .int (nI s1.2.2.2), .int (nI tu), .int (nI pd)]))] (by subst hs1; rfl) (fun H locs hW => ?_)
  have ho_s1 : tsOk len s1 := by rw [hs1]; exact rwS_ok hlen ho_0 (by simp only; omega)
  obtain ⟨ho_s1a, ho_s1b, ho_s1c, ho_s1d, ho_s1e⟩ := ho_s1
  have ho_s1 : tsOk len s1 := ⟨ho_s1a, ho_s1b, ho_s1c, ho_s1d, ho_s1e⟩
  refine x_aload_n hx dX5_readDays_8 hl 0 rfl ?_
  refine x_bipush (v := nI 99) hx dX5_readDays_9 (by decide) ?_
  obtain ⟨s2, hs2⟩ : ∃ z : TS, z = rnS LT len 99 s1 := ⟨_, rfl⟩
  refine x_callMV (As := [.int (nI 99)]) (rest := []) (wr := [(tb, .inr (0, [.int (nI thd.toNat), .int (nI tlo), .int (iI ((te : Int) - 1)), .int (nI thn.toNat), .int (nI tcu), .ref tsc, .ref tfg, .ref ttv, .ref tpr]))]) hx yv_X5_readNumber (c_X5_readNumber _ D tx lt len s1.2.2.1 s1.2.1 s1.1 s1.2.2.2 tu pd LT 99 (by first | assumption | omega | (simp [*]; done)) (by first | assumption | omega | (simp [*]; done)) (by first | assumption | omega | (simp [*]; done)) (by first | assumption | omega | (simp [*]; done)) (by first | assumption | omega | (simp [*]; done))) wm_RX5_84 hA hW [2, 0] [1] rfl rfl rfl rfl rfl 2 rfl rfl ⟨rfl, rfl⟩ ⟨Nat.le_of_ble_eq_true rfl, Nat.le_of_ble_eq_true rfl⟩ ⟨Nat.zero_le _, Nat.zero_le _⟩ hl rfl rfl (Nat.le_of_ble_eq_true rfl) dX5_readDays_11 [(tb, .inr (0, [.int (nI thd.toNat), .int (nI tlo), .int (iI ((te : Int) - 1)), .int (nI thn.toNat), .int (nI tcu), .ref tsc, .ref tfg, .ref ttv, .ref tpr])), (tx, .inr (5, [.ref lt, .int (nI len), .int (iI s2.2.2.1), .int (nI s2.2.1), .int (nI s2.1), .int (nI s2.2.2.2), .int (nI tu), .int (nI pd)])), (lt, .inl (D.2.2.2.1, 220, .inl (nA LT)))] (by subst hs2; rfl) (fun H locs hW => ?_)
  obtain ⟨v1, hv1⟩ : ∃ z : Nat, z = rnV LT len 99 s1 := ⟨_, rfl⟩
  have hle_v1 : v1 ≤ 99 := by rw [hv1]; exact rnV_le
  refine x_top (u := nI v1) (congrArg nI hv1.symm) ?_
  have hvL : v1 = dL LT len thd (at_, fn, fa, na) := by rw [dL, ← hs1]; exact hv1
  have ho_s2 : tsOk len s2 := by rw [hs2]; exact rnS_ok hlen ho_s1
  obtain ⟨ho_s2a, ho_s2b, ho_s2c, ho_s2d, ho_s2e⟩ := ho_s2
  have ho_s2 : tsOk len s2 := ⟨ho_s2a, ho_s2b, ho_s2c, ho_s2d, ho_s2e⟩
  refine x_istore_n (lv' := [(2, .int (nI v1)), (0, .ref tx), (1, .ref tb)]) hx dX5_readDays_14 hl (Nat.le_of_ble_eq_true rfl) rfl (fun ls hl => ?_)
  refine x_aload_n hx dX5_readDays_15 hl 1 rfl ?_
  refine x_bipush (v := nI 99) hx dX5_readDays_16 (by decide) ?_
  obtain ⟨s3, hs3⟩ : ∃ z : TS, z = rnS LT len 99 s2 := ⟨_, rfl⟩
  refine x_callMV (As := [.int (nI 99)]) (rest := []) (wr := [(tb, .inr (0, [.int (nI thd.toNat), .int (nI tlo), .int (iI ((te : Int) - 1)), .int (nI thn.toNat), .int (nI tcu), .ref tsc, .ref tfg, .ref ttv, .ref tpr]))]) hx yv_X5_readNumber (c_X5_readNumber _ D tx lt len s2.2.2.1 s2.2.1 s2.1 s2.2.2.2 tu pd LT 99 (by first | assumption | omega | (simp [*]; done)) (by first | assumption | omega | (simp [*]; done)) (by first | assumption | omega | (simp [*]; done)) (by first | assumption | omega | (simp [*]; done)) (by first | assumption | omega | (simp [*]; done))) wm_RX5_84 hA hW [1, 2] [0] rfl rfl rfl rfl rfl 1 rfl rfl ⟨rfl, rfl⟩ ⟨Nat.le_of_ble_eq_true rfl, Nat.le_of_ble_eq_true rfl⟩ ⟨Nat.zero_le _, Nat.zero_le _⟩ hl rfl rfl (Nat.le_of_ble_eq_true rfl) dX5_readDays_18 [(tb, .inr (0, [.int (nI thd.toNat), .int (nI tlo), .int (iI ((te : Int) - 1)), .int (nI thn.toNat), .int (nI tcu), .ref tsc, .ref tfg, .ref ttv, .ref tpr])), (tx, .inr (5, [.ref lt, .int (nI len), .int (iI s3.2.2.1), .int (nI s3.2.1), .int (nI s3.1), .int (nI s3.2.2.2), .int (nI tu), .int (nI pd)])), (lt, .inl (D.2.2.2.1, 220, .inl (nA LT)))] (by subst hs3; rfl) (fun H locs hW => ?_)
  obtain ⟨v2, hv2⟩ : ∃ z : Nat, z = rnV LT len 99 s2 := ⟨_, rfl⟩
  have hle_v2 : v2 ≤ 99 := by rw [hv2]; exact rnV_le
  refine x_top (u := nI v2) (congrArg nI hv2.symm) ?_
  have hS2 : s2 = dS2 LT len thd (at_, fn, fa, na) := by rw [dS2, ← hs1]; exact hs2
  have hvH : v2 = dH LT len thd (at_, fn, fa, na) := by rw [dH, ← hS2]; exact hv2
  have ho_s3 : tsOk len s3 := by rw [hs3]; exact rnS_ok hlen ho_s2
  obtain ⟨ho_s3a, ho_s3b, ho_s3c, ho_s3d, ho_s3e⟩ := ho_s3
  have ho_s3 : tsOk len s3 := ⟨ho_s3a, ho_s3b, ho_s3c, ho_s3d, ho_s3e⟩
  have hS3 : s3 = dS3 LT len thd (at_, fn, fa, na) := by rw [dS3, ← hS2]; exact hs3
  refine x_istore_n (lv' := [(3, .int (nI v2)), (2, .int (nI v1)), (0, .ref tx), (1, .ref tb)]) hx dX5_readDays_21 hl (Nat.le_of_ble_eq_true rfl) rfl (fun ls hl => ?_)
  refine x_iload_n hx dX5_readDays_22 hl 0 rfl ?_
  refine x_iload_n hx dX5_readDays_23 hl 1 rfl ?_
  refine x_icmp_ge_N (a := v2) (b := v1) (tgt := 36) hx dX5_readDays_24 (by decide) (by omega) (by omega) (fun h_1 => ?_) (fun h_1 => ?_)
  · have hS4 : s3 = dS4 LT len thd (at_, fn, fa, na) := by rw [dS4, ← hS3, ← hvL, ← hvH, if_neg (by omega)]
    refine x_aload_n hx dX5_readDays_36 hl 2 rfl ?_
    refine x_iconst (v := nI 1) hx dX5_readDays_37 (by decide) ?_
    obtain ⟨s5, hs5⟩ : ∃ z : TS, z = rnS LT len 1 s3 := ⟨_, rfl⟩
    refine x_callMV (As := [.int (nI 1)]) (rest := []) (wr := [(tb, .inr (0, [.int (nI thd.toNat), .int (nI tlo), .int (iI ((te : Int) - 1)), .int (nI thn.toNat), .int (nI tcu), .ref tsc, .ref tfg, .ref ttv, .ref tpr]))]) hx yv_X5_readNumber (c_X5_readNumber _ D tx lt len s3.2.2.1 s3.2.1 s3.1 s3.2.2.2 tu pd LT 1 (by first | assumption | omega | (simp [*]; done)) (by first | assumption | omega | (simp [*]; done)) (by first | assumption | omega | (simp [*]; done)) (by first | assumption | omega | (simp [*]; done)) (by first | assumption | omega | (simp [*]; done))) wm_RX5_84 hA hW [1, 2] [0] rfl rfl rfl rfl rfl 1 rfl rfl ⟨rfl, rfl⟩ ⟨Nat.le_of_ble_eq_true rfl, Nat.le_of_ble_eq_true rfl⟩ ⟨Nat.zero_le _, Nat.zero_le _⟩ hl rfl rfl (Nat.le_of_ble_eq_true rfl) dX5_readDays_38 [(tb, .inr (0, [.int (nI thd.toNat), .int (nI tlo), .int (iI ((te : Int) - 1)), .int (nI thn.toNat), .int (nI tcu), .ref tsc, .ref tfg, .ref ttv, .ref tpr])), (tx, .inr (5, [.ref lt, .int (nI len), .int (iI s5.2.2.1), .int (nI s5.2.1), .int (nI s5.1), .int (nI s5.2.2.2), .int (nI tu), .int (nI pd)])), (lt, .inl (D.2.2.2.1, 220, .inl (nA LT)))] (by subst hs5; rfl) (fun H locs hW => ?_)
    obtain ⟨v3, hv3⟩ : ∃ z : Nat, z = rnV LT len 1 s3 := ⟨_, rfl⟩
    have hle_v3 : v3 ≤ 1 := by rw [hv3]; exact rnV_le
    refine x_top (u := nI v3) (congrArg nI hv3.symm) ?_
    have hvZ : v3 = dZ LT len thd (at_, fn, fa, na) := by rw [dZ, ← hS4]; exact hv3
    have ho_s5 : tsOk len s5 := by rw [hs5]; exact rnS_ok hlen ho_s3
    obtain ⟨ho_s5a, ho_s5b, ho_s5c, ho_s5d, ho_s5e⟩ := ho_s5
    have ho_s5 : tsOk len s5 := ⟨ho_s5a, ho_s5b, ho_s5c, ho_s5d, ho_s5e⟩
    refine x_istore (lv' := [(4, .int (nI v3)), (3, .int (nI v2)), (2, .int (nI v1)), (0, .ref tx), (1, .ref tb)]) hx dX5_readDays_41 hl (Nat.le_of_ble_eq_true rfl) rfl (fun ls hl => ?_)
    refine x_aload_n hx dX5_readDays_43 hl 3 rfl ?_
    obtain ⟨s6, hs6⟩ : ∃ z : TS, z = reS LT len s5 := ⟨_, rfl⟩
    refine x_callVV (As := []) (rest := []) (wr := [(tb, .inr (0, [.int (nI thd.toNat), .int (nI tlo), .int (iI ((te : Int) - 1)), .int (nI thn.toNat), .int (nI tcu), .ref tsc, .ref tfg, .ref ttv, .ref tpr]))]) hx yv_X5_readEnd (c_X5_readEnd _ D tx lt len s5.2.2.1 s5.2.1 s5.1 s5.2.2.2 tu pd LT (by first | assumption | omega | (simp [*]; done)) (by first | assumption | omega | (simp [*]; done)) (by first | assumption | omega | (simp [*]; done)) (by first | assumption | omega | (simp [*]; done))) wm_RX5_88 hA hW [1, 2] [0] rfl rfl rfl rfl rfl 1 rfl rfl ⟨rfl, rfl⟩ ⟨Nat.le_of_ble_eq_true rfl, Nat.le_of_ble_eq_true rfl⟩ ⟨Nat.zero_le _, Nat.zero_le _⟩ hl rfl rfl (Nat.le_of_ble_eq_true rfl) dX5_readDays_44 [(tb, .inr (0, [.int (nI thd.toNat), .int (nI tlo), .int (iI ((te : Int) - 1)), .int (nI thn.toNat), .int (nI tcu), .ref tsc, .ref tfg, .ref ttv, .ref tpr])), (tx, .inr (5, [.ref lt, .int (nI len), .int (iI s6.2.2.1), .int (nI s6.2.1), .int (nI s6.1), .int (nI s6.2.2.2), .int (nI tu), .int (nI pd)])), (lt, .inl (D.2.2.2.1, 220, .inl (nA LT)))] (by subst hs6; rfl) (fun H locs hW => ?_)
    have ho_s6 : tsOk len s6 := by rw [hs6]; exact reS_ok hlen ho_s5
    obtain ⟨ho_s6a, ho_s6b, ho_s6c, ho_s6d, ho_s6e⟩ := ho_s6
    have ho_s6 : tsOk len s6 := ⟨ho_s6a, ho_s6b, ho_s6c, ho_s6d, ho_s6e⟩
    have hS6 : s6 = dS6 LT len thd (at_, fn, fa, na) := by rw [dS6, ← hS4, ← hs5]; exact hs6
    refine x_aload_n hx dX5_readDays_47 hl 3 rfl ?_
    refine x_get5 hx hW.1 1 rfl 3 (Nat.le_of_ble_eq_true rfl) wf_RX5_22 rfl dX5_readDays_48 ?_
    refine x_if_ne_N (a := s6.2.1) (tgt := 84) hx dX5_readDays_51 (by decide) (by omega) (fun h_2 => ?_) (fun h_2 => ?_)
    · have e_3 : (s6.2.2.1 : Int) = (dS6 LT len thd (at_, fn, fa, na)).2.2.1 := by
        rw [hS6]
      have e_4 : (s6.2.1 : Nat) = (dS6 LT len thd (at_, fn, fa, na)).2.1 := by
        clear e_3
        rw [hS6]
      have e_5 : (s6.1 : Nat) = (dS6 LT len thd (at_, fn, fa, na)).1 := by
        clear e_3 e_4
        rw [hS6]
      have e_6 : (s6.2.2.2 : Nat) = (dS6 LT len thd (at_, fn, fa, na)).2.2.2 := by
        clear e_3 e_4 e_5
        rw [hS6]
      have e_7 : (thd : Bool) = if (dS6 LT len thd (at_, fn, fa, na)).2.1 = 0 then true else thd := by
        clear e_3 e_4 e_5 e_6
        rw [← hS6]; first | (rw [if_pos (by assumption)]; done) | (rw [if_neg (by assumption)]; done) | (rw [if_pos (by assumption), ← hvL]; done) | (rw [pk_t (decide_eq_true (by assumption)), ← hvH, nI_iI]; congr 1; omega) | (rw [pk_f (decide_eq_false (by assumption))]; done) | (rw [if_pos (by assumption), ← hvZ]; simp [*]; done) | (rw [if_pos (by assumption), ← hvZ]; first | exact (decide_eq_true (by assumption)).symm | exact (decide_eq_false (by assumption)).symm)
      have e_8 : (tlo : Nat) = if (dS6 LT len thd (at_, fn, fa, na)).2.1 = 0 then dL LT len thd (at_, fn, fa, na) else tlo := by
        clear e_3 e_4 e_5 e_6 e_7
        rw [← hS6]; first | (rw [if_pos (by assumption)]; done) | (rw [if_neg (by assumption)]; done) | (rw [if_pos (by assumption), ← hvL]; done) | (rw [pk_t (decide_eq_true (by assumption)), ← hvH, nI_iI]; congr 1; omega) | (rw [pk_f (decide_eq_false (by assumption))]; done) | (rw [if_pos (by assumption), ← hvZ]; simp [*]; done) | (rw [if_pos (by assumption), ← hvZ]; first | exact (decide_eq_true (by assumption)).symm | exact (decide_eq_false (by assumption)).symm)
      have e_9 : (te : Nat) = pk (decide ((dS6 LT len thd (at_, fn, fa, na)).2.1 = 0)) (dH LT len thd (at_, fn, fa, na) + 1) te := by
        clear e_3 e_4 e_5 e_6 e_7 e_8
        rw [← hS6]; first | (rw [if_pos (by assumption)]; done) | (rw [if_neg (by assumption)]; done) | (rw [if_pos (by assumption), ← hvL]; done) | (rw [pk_t (decide_eq_true (by assumption)), ← hvH, nI_iI]; congr 1; omega) | (rw [pk_f (decide_eq_false (by assumption))]; done) | (rw [if_pos (by assumption), ← hvZ]; simp [*]; done) | (rw [if_pos (by assumption), ← hvZ]; first | exact (decide_eq_true (by assumption)).symm | exact (decide_eq_false (by assumption)).symm)
      have e_10 : (thn : Bool) = if (dS6 LT len thd (at_, fn, fa, na)).2.1 = 0 then decide (dZ LT len thd (at_, fn, fa, na) = 1) else thn := by
        clear e_3 e_4 e_5 e_6 e_7 e_8 e_9
        rw [← hS6]; first | (rw [if_pos (by assumption)]; done) | (rw [if_neg (by assumption)]; done) | (rw [if_pos (by assumption), ← hvL]; done) | (rw [pk_t (decide_eq_true (by assumption)), ← hvH, nI_iI]; congr 1; omega) | (rw [pk_f (decide_eq_false (by assumption))]; done) | (rw [if_pos (by assumption), ← hvZ]; simp [*]; done) | (rw [if_pos (by assumption), ← hvZ]; first | exact (decide_eq_true (by assumption)).symm | exact (decide_eq_false (by assumption)).symm)
      exact hret _ _ _ _ dX5_readDays_84 (hW.conv [1, 2, 0] (w1 := [(tx, .inr (5, [.ref lt, .int (nI len), .int (iI s6.2.2.1), .int (nI s6.2.1), .int (nI s6.1), .int (nI s6.2.2.2), .int (nI tu), .int (nI pd)])), (lt, .inl (D.2.2.2.1, 220, .inl (nA LT))), (tb, .inr (0, [.int (nI thd.toNat), .int (nI tlo), .int (iI ((te : Int) - 1)), .int (nI thn.toNat), .int (nI tcu), .ref tsc, .ref tfg, .ref ttv, .ref tpr]))]) (w2 := [(tx, .inr (5, [.ref lt, .int (nI len), .int (iI ((dS6 LT len thd (at_, fn, fa, na)).2.2.1)), .int (nI ((dS6 LT len thd (at_, fn, fa, na)).2.1)), .int (nI ((dS6 LT len thd (at_, fn, fa, na)).1)), .int (nI ((dS6 LT len thd (at_, fn, fa, na)).2.2.2)), .int (nI tu), .int (nI pd)])), (lt, .inl (D.2.2.2.1, 220, .inl (nA LT))), (tb, .inr (0, [.int (nI (if (dS6 LT len thd (at_, fn, fa, na)).2.1 = 0 then true else thd).toNat), .int (nI (if (dS6 LT len thd (at_, fn, fa, na)).2.1 = 0 then dL LT len thd (at_, fn, fa, na) else tlo)), .int (iI (((pk (decide ((dS6 LT len thd (at_, fn, fa, na)).2.1 = 0)) (dH LT len thd (at_, fn, fa, na) + 1) te) : Int) - 1)), .int (nI (if (dS6 LT len thd (at_, fn, fa, na)).2.1 = 0 then decide (dZ LT len thd (at_, fn, fa, na) = 1) else thn).toNat), .int (nI tcu), .ref tsc, .ref tfg, .ref ttv, .ref tpr]))]) rfl rfl (cE (congrArg (fun z => ((tx, .inr (5, z)) : Nat × va_E)) (cE rfl (cE rfl (cE (congrArg Value.int (congrArg (fun z : Int => iI z) e_3)) (cE (congrArg Value.int (congrArg (fun z : Nat => nI z) e_4)) (cE (congrArg Value.int (congrArg (fun z : Nat => nI z) e_5)) (cE (congrArg Value.int (congrArg (fun z : Nat => nI z) e_6)) (cE rfl (cE rfl rfl))))))))) (cE rfl (cE (congrArg (fun z => ((tb, .inr (0, z)) : Nat × va_E)) (cE (congrArg Value.int (congrArg (fun z : Bool => nI z.toNat) e_7)) (cE (congrArg Value.int (congrArg (fun z : Nat => nI z) e_8)) (cE (congrArg Value.int (congrArg (fun z : Nat => iI ((z : Int) - 1)) e_9)) (cE (congrArg Value.int (congrArg (fun z : Bool => nI z.toNat) e_10)) (cE rfl (cE rfl (cE rfl (cE rfl (cE rfl rfl)))))))))) rfl))))
    · refine x_aload_n hx dX5_readDays_54 hl 4 rfl ?_
      refine x_iconst (v := nI 1) hx dX5_readDays_55 (by decide) ?_
      refine x_put0 hx hW 0 rfl 0 (Nat.le_of_ble_eq_true rfl) wf_RX5_63 rfl (narZ true) (fitZ true) (Nat.le_of_ble_eq_true rfl) dX5_readDays_56 [(tb, .inr (0, [.int (nI true.toNat), .int (nI tlo), .int (iI ((te : Int) - 1)), .int (nI thn.toNat), .int (nI tcu), .ref tsc, .ref tfg, .ref ttv, .ref tpr])), (tx, .inr (5, [.ref lt, .int (nI len), .int (iI s6.2.2.1), .int (nI s6.2.1), .int (nI s6.1), .int (nI s6.2.2.2), .int (nI tu), .int (nI pd)])), (lt, .inl (D.2.2.2.1, 220, .inl (nA LT)))] rfl (fun H locs hW => ?_)
      refine x_aload_n hx dX5_readDays_59 hl 4 rfl ?_
      refine x_iload_n hx dX5_readDays_60 hl 2 rfl ?_
      refine x_put0 hx hW 0 rfl 1 (Nat.le_of_ble_eq_true rfl) wf_RX5_91 rfl rfl rfl (Nat.le_of_ble_eq_true rfl) dX5_readDays_61 [(tb, .inr (0, [.int (nI true.toNat), .int (nI v1), .int (iI ((te : Int) - 1)), .int (nI thn.toNat), .int (nI tcu), .ref tsc, .ref tfg, .ref ttv, .ref tpr])), (tx, .inr (5, [.ref lt, .int (nI len), .int (iI s6.2.2.1), .int (nI s6.2.1), .int (nI s6.1), .int (nI s6.2.2.2), .int (nI tu), .int (nI pd)])), (lt, .inl (D.2.2.2.1, 220, .inl (nA LT)))] rfl (fun H locs hW => ?_)
      refine x_aload_n hx dX5_readDays_64 hl 4 rfl ?_
      refine x_iload_n hx dX5_readDays_65 hl 1 rfl ?_
      refine x_put0 hx hW 0 rfl 2 (Nat.le_of_ble_eq_true rfl) wf_RX5_94 rfl rfl rfl (Nat.le_of_ble_eq_true rfl) dX5_readDays_66 [(tb, .inr (0, [.int (nI true.toNat), .int (nI v1), .int (nI v2), .int (nI thn.toNat), .int (nI tcu), .ref tsc, .ref tfg, .ref ttv, .ref tpr])), (tx, .inr (5, [.ref lt, .int (nI len), .int (iI s6.2.2.1), .int (nI s6.2.1), .int (nI s6.1), .int (nI s6.2.2.2), .int (nI tu), .int (nI pd)])), (lt, .inl (D.2.2.2.1, 220, .inl (nA LT)))] rfl (fun H locs hW => ?_)
      refine x_aload_n hx dX5_readDays_69 hl 4 rfl ?_
      refine x_iload hx dX5_readDays_70 hl 0 rfl ?_
      refine x_iconst (v := nI 1) hx dX5_readDays_72 (by decide) ?_
      refine x_icmp_ne_N (a := v3) (b := 1) (tgt := 80) hx dX5_readDays_73 (by decide) (by omega) (by omega) (fun h_11 => ?_) (fun h_11 => ?_)
      · refine x_iconst (v := nI 0) hx dX5_readDays_80 (by decide) ?_
        refine x_put0 hx hW 0 rfl 3 (Nat.le_of_ble_eq_true rfl) wf_RX5_97 rfl (narZ false) (fitZ false) (Nat.le_of_ble_eq_true rfl) dX5_readDays_81 [(tb, .inr (0, [.int (nI true.toNat), .int (nI v1), .int (nI v2), .int (nI false.toNat), .int (nI tcu), .ref tsc, .ref tfg, .ref ttv, .ref tpr])), (tx, .inr (5, [.ref lt, .int (nI len), .int (iI s6.2.2.1), .int (nI s6.2.1), .int (nI s6.1), .int (nI s6.2.2.2), .int (nI tu), .int (nI pd)])), (lt, .inl (D.2.2.2.1, 220, .inl (nA LT)))] rfl (fun H locs hW => ?_)
        have e_12 : (s6.2.2.1 : Int) = (dS6 LT len thd (at_, fn, fa, na)).2.2.1 := by
          rw [hS6]
        have e_13 : (s6.2.1 : Nat) = (dS6 LT len thd (at_, fn, fa, na)).2.1 := by
          clear e_12
          rw [hS6]
        have e_14 : (s6.1 : Nat) = (dS6 LT len thd (at_, fn, fa, na)).1 := by
          clear e_12 e_13
          rw [hS6]
        have e_15 : (s6.2.2.2 : Nat) = (dS6 LT len thd (at_, fn, fa, na)).2.2.2 := by
          clear e_12 e_13 e_14
          rw [hS6]
        have e_16 : (true : Bool) = if (dS6 LT len thd (at_, fn, fa, na)).2.1 = 0 then true else thd := by
          clear e_12 e_13 e_14 e_15
          rw [← hS6]; first | (rw [if_pos (by assumption)]; done) | (rw [if_neg (by assumption)]; done) | (rw [if_pos (by assumption), ← hvL]; done) | (rw [pk_t (decide_eq_true (by assumption)), ← hvH, nI_iI]; congr 1; omega) | (rw [pk_f (decide_eq_false (by assumption))]; done) | (rw [if_pos (by assumption), ← hvZ]; simp [*]; done) | (rw [if_pos (by assumption), ← hvZ]; first | exact (decide_eq_true (by assumption)).symm | exact (decide_eq_false (by assumption)).symm)
        have e_17 : (v1 : Nat) = if (dS6 LT len thd (at_, fn, fa, na)).2.1 = 0 then dL LT len thd (at_, fn, fa, na) else tlo := by
          clear e_12 e_13 e_14 e_15 e_16
          rw [← hS6]; first | (rw [if_pos (by assumption)]; done) | (rw [if_neg (by assumption)]; done) | (rw [if_pos (by assumption), ← hvL]; done) | (rw [pk_t (decide_eq_true (by assumption)), ← hvH, nI_iI]; congr 1; omega) | (rw [pk_f (decide_eq_false (by assumption))]; done) | (rw [if_pos (by assumption), ← hvZ]; simp [*]; done) | (rw [if_pos (by assumption), ← hvZ]; first | exact (decide_eq_true (by assumption)).symm | exact (decide_eq_false (by assumption)).symm)
        have e_18 : nI v2 = iI (((pk (decide ((dS6 LT len thd (at_, fn, fa, na)).2.1 = 0)) (dH LT len thd (at_, fn, fa, na) + 1) te) : Int) - 1) := by
          clear e_12 e_13 e_14 e_15 e_16 e_17
          rw [← hS6]; first | (rw [if_pos (by assumption)]; done) | (rw [if_neg (by assumption)]; done) | (rw [if_pos (by assumption), ← hvL]; done) | (rw [pk_t (decide_eq_true (by assumption)), ← hvH, nI_iI]; congr 1; omega) | (rw [pk_f (decide_eq_false (by assumption))]; done) | (rw [if_pos (by assumption), ← hvZ]; simp [*]; done) | (rw [if_pos (by assumption), ← hvZ]; first | exact (decide_eq_true (by assumption)).symm | exact (decide_eq_false (by assumption)).symm)
        have e_19 : (false : Bool) = if (dS6 LT len thd (at_, fn, fa, na)).2.1 = 0 then decide (dZ LT len thd (at_, fn, fa, na) = 1) else thn := by
          clear e_12 e_13 e_14 e_15 e_16 e_17 e_18
          rw [← hS6]; first | (rw [if_pos (by assumption)]; done) | (rw [if_neg (by assumption)]; done) | (rw [if_pos (by assumption), ← hvL]; done) | (rw [pk_t (decide_eq_true (by assumption)), ← hvH, nI_iI]; congr 1; omega) | (rw [pk_f (decide_eq_false (by assumption))]; done) | (rw [if_pos (by assumption), ← hvZ]; simp [*]; done) | (rw [if_pos (by assumption), ← hvZ]; first | exact (decide_eq_true (by assumption)).symm | exact (decide_eq_false (by assumption)).symm)
        exact hret _ _ _ _ dX5_readDays_84 (hW.conv [1, 2, 0] (w1 := [(tx, .inr (5, [.ref lt, .int (nI len), .int (iI s6.2.2.1), .int (nI s6.2.1), .int (nI s6.1), .int (nI s6.2.2.2), .int (nI tu), .int (nI pd)])), (lt, .inl (D.2.2.2.1, 220, .inl (nA LT))), (tb, .inr (0, [.int (nI true.toNat), .int (nI v1), .int (nI v2), .int (nI false.toNat), .int (nI tcu), .ref tsc, .ref tfg, .ref ttv, .ref tpr]))]) (w2 := [(tx, .inr (5, [.ref lt, .int (nI len), .int (iI ((dS6 LT len thd (at_, fn, fa, na)).2.2.1)), .int (nI ((dS6 LT len thd (at_, fn, fa, na)).2.1)), .int (nI ((dS6 LT len thd (at_, fn, fa, na)).1)), .int (nI ((dS6 LT len thd (at_, fn, fa, na)).2.2.2)), .int (nI tu), .int (nI pd)])), (lt, .inl (D.2.2.2.1, 220, .inl (nA LT))), (tb, .inr (0, [.int (nI (if (dS6 LT len thd (at_, fn, fa, na)).2.1 = 0 then true else thd).toNat), .int (nI (if (dS6 LT len thd (at_, fn, fa, na)).2.1 = 0 then dL LT len thd (at_, fn, fa, na) else tlo)), .int (iI (((pk (decide ((dS6 LT len thd (at_, fn, fa, na)).2.1 = 0)) (dH LT len thd (at_, fn, fa, na) + 1) te) : Int) - 1)), .int (nI (if (dS6 LT len thd (at_, fn, fa, na)).2.1 = 0 then decide (dZ LT len thd (at_, fn, fa, na) = 1) else thn).toNat), .int (nI tcu), .ref tsc, .ref tfg, .ref ttv, .ref tpr]))]) rfl rfl (cE (congrArg (fun z => ((tx, .inr (5, z)) : Nat × va_E)) (cE rfl (cE rfl (cE (congrArg Value.int (congrArg (fun z : Int => iI z) e_12)) (cE (congrArg Value.int (congrArg (fun z : Nat => nI z) e_13)) (cE (congrArg Value.int (congrArg (fun z : Nat => nI z) e_14)) (cE (congrArg Value.int (congrArg (fun z : Nat => nI z) e_15)) (cE rfl (cE rfl rfl))))))))) (cE rfl (cE (congrArg (fun z => ((tb, .inr (0, z)) : Nat × va_E)) (cE (congrArg Value.int (congrArg (fun z : Bool => nI z.toNat) e_16)) (cE (congrArg Value.int (congrArg (fun z : Nat => nI z) e_17)) (cE (congrArg Value.int (e_18)) (cE (congrArg Value.int (congrArg (fun z : Bool => nI z.toNat) e_19)) (cE rfl (cE rfl (cE rfl (cE rfl (cE rfl rfl)))))))))) rfl))))
      · refine x_iconst (v := nI 1) hx dX5_readDays_76 (by decide) ?_
        refine x_goto (tgt := 81) hx dX5_readDays_77 (by decide) ?_
        refine x_put0 hx hW 0 rfl 3 (Nat.le_of_ble_eq_true rfl) wf_RX5_97 rfl (narZ true) (fitZ true) (Nat.le_of_ble_eq_true rfl) dX5_readDays_81 [(tb, .inr (0, [.int (nI true.toNat), .int (nI v1), .int (nI v2), .int (nI true.toNat), .int (nI tcu), .ref tsc, .ref tfg, .ref ttv, .ref tpr])), (tx, .inr (5, [.ref lt, .int (nI len), .int (iI s6.2.2.1), .int (nI s6.2.1), .int (nI s6.1), .int (nI s6.2.2.2), .int (nI tu), .int (nI pd)])), (lt, .inl (D.2.2.2.1, 220, .inl (nA LT)))] rfl (fun H locs hW => ?_)
        have e_20 : (s6.2.2.1 : Int) = (dS6 LT len thd (at_, fn, fa, na)).2.2.1 := by
          rw [hS6]
        have e_21 : (s6.2.1 : Nat) = (dS6 LT len thd (at_, fn, fa, na)).2.1 := by
          clear e_20
          rw [hS6]
        have e_22 : (s6.1 : Nat) = (dS6 LT len thd (at_, fn, fa, na)).1 := by
          clear e_20 e_21
          rw [hS6]
        have e_23 : (s6.2.2.2 : Nat) = (dS6 LT len thd (at_, fn, fa, na)).2.2.2 := by
          clear e_20 e_21 e_22
          rw [hS6]
        have e_24 : (true : Bool) = if (dS6 LT len thd (at_, fn, fa, na)).2.1 = 0 then true else thd := by
          clear e_20 e_21 e_22 e_23
          rw [← hS6]; first | (rw [if_pos (by assumption)]; done) | (rw [if_neg (by assumption)]; done) | (rw [if_pos (by assumption), ← hvL]; done) | (rw [pk_t (decide_eq_true (by assumption)), ← hvH, nI_iI]; congr 1; omega) | (rw [pk_f (decide_eq_false (by assumption))]; done) | (rw [if_pos (by assumption), ← hvZ]; simp [*]; done) | (rw [if_pos (by assumption), ← hvZ]; first | exact (decide_eq_true (by assumption)).symm | exact (decide_eq_false (by assumption)).symm)
        have e_25 : (v1 : Nat) = if (dS6 LT len thd (at_, fn, fa, na)).2.1 = 0 then dL LT len thd (at_, fn, fa, na) else tlo := by
          clear e_20 e_21 e_22 e_23 e_24
          rw [← hS6]; first | (rw [if_pos (by assumption)]; done) | (rw [if_neg (by assumption)]; done) | (rw [if_pos (by assumption), ← hvL]; done) | (rw [pk_t (decide_eq_true (by assumption)), ← hvH, nI_iI]; congr 1; omega) | (rw [pk_f (decide_eq_false (by assumption))]; done) | (rw [if_pos (by assumption), ← hvZ]; simp [*]; done) | (rw [if_pos (by assumption), ← hvZ]; first | exact (decide_eq_true (by assumption)).symm | exact (decide_eq_false (by assumption)).symm)
        have e_26 : nI v2 = iI (((pk (decide ((dS6 LT len thd (at_, fn, fa, na)).2.1 = 0)) (dH LT len thd (at_, fn, fa, na) + 1) te) : Int) - 1) := by
          clear e_20 e_21 e_22 e_23 e_24 e_25
          rw [← hS6]; first | (rw [if_pos (by assumption)]; done) | (rw [if_neg (by assumption)]; done) | (rw [if_pos (by assumption), ← hvL]; done) | (rw [pk_t (decide_eq_true (by assumption)), ← hvH, nI_iI]; congr 1; omega) | (rw [pk_f (decide_eq_false (by assumption))]; done) | (rw [if_pos (by assumption), ← hvZ]; simp [*]; done) | (rw [if_pos (by assumption), ← hvZ]; first | exact (decide_eq_true (by assumption)).symm | exact (decide_eq_false (by assumption)).symm)
        have e_27 : (true : Bool) = if (dS6 LT len thd (at_, fn, fa, na)).2.1 = 0 then decide (dZ LT len thd (at_, fn, fa, na) = 1) else thn := by
          clear e_20 e_21 e_22 e_23 e_24 e_25 e_26
          rw [← hS6]; first | (rw [if_pos (by assumption)]; done) | (rw [if_neg (by assumption)]; done) | (rw [if_pos (by assumption), ← hvL]; done) | (rw [pk_t (decide_eq_true (by assumption)), ← hvH, nI_iI]; congr 1; omega) | (rw [pk_f (decide_eq_false (by assumption))]; done) | (rw [if_pos (by assumption), ← hvZ]; simp [*]; done) | (rw [if_pos (by assumption), ← hvZ]; first | exact (decide_eq_true (by assumption)).symm | exact (decide_eq_false (by assumption)).symm)
        exact hret _ _ _ _ dX5_readDays_84 (hW.conv [1, 2, 0] (w1 := [(tx, .inr (5, [.ref lt, .int (nI len), .int (iI s6.2.2.1), .int (nI s6.2.1), .int (nI s6.1), .int (nI s6.2.2.2), .int (nI tu), .int (nI pd)])), (lt, .inl (D.2.2.2.1, 220, .inl (nA LT))), (tb, .inr (0, [.int (nI true.toNat), .int (nI v1), .int (nI v2), .int (nI true.toNat), .int (nI tcu), .ref tsc, .ref tfg, .ref ttv, .ref tpr]))]) (w2 := [(tx, .inr (5, [.ref lt, .int (nI len), .int (iI ((dS6 LT len thd (at_, fn, fa, na)).2.2.1)), .int (nI ((dS6 LT len thd (at_, fn, fa, na)).2.1)), .int (nI ((dS6 LT len thd (at_, fn, fa, na)).1)), .int (nI ((dS6 LT len thd (at_, fn, fa, na)).2.2.2)), .int (nI tu), .int (nI pd)])), (lt, .inl (D.2.2.2.1, 220, .inl (nA LT))), (tb, .inr (0, [.int (nI (if (dS6 LT len thd (at_, fn, fa, na)).2.1 = 0 then true else thd).toNat), .int (nI (if (dS6 LT len thd (at_, fn, fa, na)).2.1 = 0 then dL LT len thd (at_, fn, fa, na) else tlo)), .int (iI (((pk (decide ((dS6 LT len thd (at_, fn, fa, na)).2.1 = 0)) (dH LT len thd (at_, fn, fa, na) + 1) te) : Int) - 1)), .int (nI (if (dS6 LT len thd (at_, fn, fa, na)).2.1 = 0 then decide (dZ LT len thd (at_, fn, fa, na) = 1) else thn).toNat), .int (nI tcu), .ref tsc, .ref tfg, .ref ttv, .ref tpr]))]) rfl rfl (cE (congrArg (fun z => ((tx, .inr (5, z)) : Nat × va_E)) (cE rfl (cE rfl (cE (congrArg Value.int (congrArg (fun z : Int => iI z) e_20)) (cE (congrArg Value.int (congrArg (fun z : Nat => nI z) e_21)) (cE (congrArg Value.int (congrArg (fun z : Nat => nI z) e_22)) (cE (congrArg Value.int (congrArg (fun z : Nat => nI z) e_23)) (cE rfl (cE rfl rfl))))))))) (cE rfl (cE (congrArg (fun z => ((tb, .inr (0, z)) : Nat × va_E)) (cE (congrArg Value.int (congrArg (fun z : Bool => nI z.toNat) e_24)) (cE (congrArg Value.int (congrArg (fun z : Nat => nI z) e_25)) (cE (congrArg Value.int (e_26)) (cE (congrArg Value.int (congrArg (fun z : Bool => nI z.toNat) e_27)) (cE rfl (cE rfl (cE rfl (cE rfl (cE rfl rfl)))))))))) rfl))))
  · refine x_aload_n hx dX5_readDays_27 hl 2 rfl ?_
    refine x_iconst (v := nI 4) hx dX5_readDays_28 (by decide) ?_
    refine x_aload_n hx dX5_readDays_29 hl 2 rfl ?_
    refine x_get5 hx hW.1 1 rfl 5 (Nat.le_of_ble_eq_true rfl) wf_RX5_28 rfl dX5_readDays_30 ?_
    obtain ⟨s4, hs4⟩ : ∃ z : TS, z = blS 4 s3.2.2.2 s3 := ⟨_, rfl⟩
    refine x_callVV (As := [.int (nI 4), .int (nI s3.2.2.2)]) (rest := []) (wr := [(tb, .inr (0, [.int (nI thd.toNat), .int (nI tlo), .int (iI ((te : Int) - 1)), .int (nI thn.toNat), .int (nI tcu), .ref tsc, .ref tfg, .ref ttv, .ref tpr])), (lt, .inl (D.2.2.2.1, 220, .inl (nA LT)))]) hx yv_X5_blame (c_X5_blame _ D tx lt len s3.2.2.1 s3.2.1 s3.1 s3.2.2.2 tu pd 4 (s3.2.2.2 : Int) (by first | assumption | omega | (simp [*]; done))) wm_RX5_67 hA hW [1] [0, 2] rfl rfl rfl rfl rfl 1 rfl rfl ⟨rfl, rfl⟩ ⟨Nat.le_of_ble_eq_true rfl, Nat.le_of_ble_eq_true rfl⟩ ⟨Nat.zero_le _, Nat.zero_le _⟩ hl rfl rfl (Nat.le_of_ble_eq_true rfl) dX5_readDays_33 [(tb, .inr (0, [.int (nI thd.toNat), .int (nI tlo), .int (iI ((te : Int) - 1)), .int (nI thn.toNat), .int (nI tcu), .ref tsc, .ref tfg, .ref ttv, .ref tpr])), (lt, .inl (D.2.2.2.1, 220, .inl (nA LT))), (tx, .inr (5, [.ref lt, .int (nI len), .int (iI s4.2.2.1), .int (nI s4.2.1), .int (nI s4.1), .int (nI s4.2.2.2), .int (nI tu), .int (nI pd)]))] (by subst hs4; rfl) (fun H locs hW => ?_)
    have ho_s4 : tsOk len s4 := by rw [hs4]; exact blS_ok (by decide) (by omega) ho_s3
    obtain ⟨ho_s4a, ho_s4b, ho_s4c, ho_s4d, ho_s4e⟩ := ho_s4
    have ho_s4 : tsOk len s4 := ⟨ho_s4a, ho_s4b, ho_s4c, ho_s4d, ho_s4e⟩
    have hS4 : s4 = dS4 LT len thd (at_, fn, fa, na) := by rw [dS4, ← hS3, ← hvL, ← hvH, if_pos (by assumption)]; exact hs4
    refine x_aload_n hx dX5_readDays_36 hl 2 rfl ?_
    refine x_iconst (v := nI 1) hx dX5_readDays_37 (by decide) ?_
    obtain ⟨s5, hs5⟩ : ∃ z : TS, z = rnS LT len 1 s4 := ⟨_, rfl⟩
    refine x_callMV (As := [.int (nI 1)]) (rest := []) (wr := [(tb, .inr (0, [.int (nI thd.toNat), .int (nI tlo), .int (iI ((te : Int) - 1)), .int (nI thn.toNat), .int (nI tcu), .ref tsc, .ref tfg, .ref ttv, .ref tpr]))]) hx yv_X5_readNumber (c_X5_readNumber _ D tx lt len s4.2.2.1 s4.2.1 s4.1 s4.2.2.2 tu pd LT 1 (by first | assumption | omega | (simp [*]; done)) (by first | assumption | omega | (simp [*]; done)) (by first | assumption | omega | (simp [*]; done)) (by first | assumption | omega | (simp [*]; done)) (by first | assumption | omega | (simp [*]; done))) wm_RX5_84 hA hW [2, 1] [0] rfl rfl rfl rfl rfl 2 rfl rfl ⟨rfl, rfl⟩ ⟨Nat.le_of_ble_eq_true rfl, Nat.le_of_ble_eq_true rfl⟩ ⟨Nat.zero_le _, Nat.zero_le _⟩ hl rfl rfl (Nat.le_of_ble_eq_true rfl) dX5_readDays_38 [(tb, .inr (0, [.int (nI thd.toNat), .int (nI tlo), .int (iI ((te : Int) - 1)), .int (nI thn.toNat), .int (nI tcu), .ref tsc, .ref tfg, .ref ttv, .ref tpr])), (tx, .inr (5, [.ref lt, .int (nI len), .int (iI s5.2.2.1), .int (nI s5.2.1), .int (nI s5.1), .int (nI s5.2.2.2), .int (nI tu), .int (nI pd)])), (lt, .inl (D.2.2.2.1, 220, .inl (nA LT)))] (by subst hs5; rfl) (fun H locs hW => ?_)
    obtain ⟨v3, hv3⟩ : ∃ z : Nat, z = rnV LT len 1 s4 := ⟨_, rfl⟩
    have hle_v3 : v3 ≤ 1 := by rw [hv3]; exact rnV_le
    refine x_top (u := nI v3) (congrArg nI hv3.symm) ?_
    have hvZ : v3 = dZ LT len thd (at_, fn, fa, na) := by rw [dZ, ← hS4]; exact hv3
    have ho_s5 : tsOk len s5 := by rw [hs5]; exact rnS_ok hlen ho_s4
    obtain ⟨ho_s5a, ho_s5b, ho_s5c, ho_s5d, ho_s5e⟩ := ho_s5
    have ho_s5 : tsOk len s5 := ⟨ho_s5a, ho_s5b, ho_s5c, ho_s5d, ho_s5e⟩
    refine x_istore (lv' := [(4, .int (nI v3)), (3, .int (nI v2)), (2, .int (nI v1)), (0, .ref tx), (1, .ref tb)]) hx dX5_readDays_41 hl (Nat.le_of_ble_eq_true rfl) rfl (fun ls hl => ?_)
    refine x_aload_n hx dX5_readDays_43 hl 3 rfl ?_
    obtain ⟨s6, hs6⟩ : ∃ z : TS, z = reS LT len s5 := ⟨_, rfl⟩
    refine x_callVV (As := []) (rest := []) (wr := [(tb, .inr (0, [.int (nI thd.toNat), .int (nI tlo), .int (iI ((te : Int) - 1)), .int (nI thn.toNat), .int (nI tcu), .ref tsc, .ref tfg, .ref ttv, .ref tpr]))]) hx yv_X5_readEnd (c_X5_readEnd _ D tx lt len s5.2.2.1 s5.2.1 s5.1 s5.2.2.2 tu pd LT (by first | assumption | omega | (simp [*]; done)) (by first | assumption | omega | (simp [*]; done)) (by first | assumption | omega | (simp [*]; done)) (by first | assumption | omega | (simp [*]; done))) wm_RX5_88 hA hW [1, 2] [0] rfl rfl rfl rfl rfl 1 rfl rfl ⟨rfl, rfl⟩ ⟨Nat.le_of_ble_eq_true rfl, Nat.le_of_ble_eq_true rfl⟩ ⟨Nat.zero_le _, Nat.zero_le _⟩ hl rfl rfl (Nat.le_of_ble_eq_true rfl) dX5_readDays_44 [(tb, .inr (0, [.int (nI thd.toNat), .int (nI tlo), .int (iI ((te : Int) - 1)), .int (nI thn.toNat), .int (nI tcu), .ref tsc, .ref tfg, .ref ttv, .ref tpr])), (tx, .inr (5, [.ref lt, .int (nI len), .int (iI s6.2.2.1), .int (nI s6.2.1), .int (nI s6.1), .int (nI s6.2.2.2), .int (nI tu), .int (nI pd)])), (lt, .inl (D.2.2.2.1, 220, .inl (nA LT)))] (by subst hs6; rfl) (fun H locs hW => ?_)
    have ho_s6 : tsOk len s6 := by rw [hs6]; exact reS_ok hlen ho_s5
    obtain ⟨ho_s6a, ho_s6b, ho_s6c, ho_s6d, ho_s6e⟩ := ho_s6
    have ho_s6 : tsOk len s6 := ⟨ho_s6a, ho_s6b, ho_s6c, ho_s6d, ho_s6e⟩
    have hS6 : s6 = dS6 LT len thd (at_, fn, fa, na) := by rw [dS6, ← hS4, ← hs5]; exact hs6
    refine x_aload_n hx dX5_readDays_47 hl 3 rfl ?_
    refine x_get5 hx hW.1 1 rfl 3 (Nat.le_of_ble_eq_true rfl) wf_RX5_22 rfl dX5_readDays_48 ?_
    refine x_if_ne_N (a := s6.2.1) (tgt := 84) hx dX5_readDays_51 (by decide) (by omega) (fun h_28 => ?_) (fun h_28 => ?_)
    · have e_29 : (s6.2.2.1 : Int) = (dS6 LT len thd (at_, fn, fa, na)).2.2.1 := by
        rw [hS6]
      have e_30 : (s6.2.1 : Nat) = (dS6 LT len thd (at_, fn, fa, na)).2.1 := by
        clear e_29
        rw [hS6]
      have e_31 : (s6.1 : Nat) = (dS6 LT len thd (at_, fn, fa, na)).1 := by
        clear e_29 e_30
        rw [hS6]
      have e_32 : (s6.2.2.2 : Nat) = (dS6 LT len thd (at_, fn, fa, na)).2.2.2 := by
        clear e_29 e_30 e_31
        rw [hS6]
      have e_33 : (thd : Bool) = if (dS6 LT len thd (at_, fn, fa, na)).2.1 = 0 then true else thd := by
        clear e_29 e_30 e_31 e_32
        rw [← hS6]; first | (rw [if_pos (by assumption)]; done) | (rw [if_neg (by assumption)]; done) | (rw [if_pos (by assumption), ← hvL]; done) | (rw [pk_t (decide_eq_true (by assumption)), ← hvH, nI_iI]; congr 1; omega) | (rw [pk_f (decide_eq_false (by assumption))]; done) | (rw [if_pos (by assumption), ← hvZ]; simp [*]; done) | (rw [if_pos (by assumption), ← hvZ]; first | exact (decide_eq_true (by assumption)).symm | exact (decide_eq_false (by assumption)).symm)
      have e_34 : (tlo : Nat) = if (dS6 LT len thd (at_, fn, fa, na)).2.1 = 0 then dL LT len thd (at_, fn, fa, na) else tlo := by
        clear e_29 e_30 e_31 e_32 e_33
        rw [← hS6]; first | (rw [if_pos (by assumption)]; done) | (rw [if_neg (by assumption)]; done) | (rw [if_pos (by assumption), ← hvL]; done) | (rw [pk_t (decide_eq_true (by assumption)), ← hvH, nI_iI]; congr 1; omega) | (rw [pk_f (decide_eq_false (by assumption))]; done) | (rw [if_pos (by assumption), ← hvZ]; simp [*]; done) | (rw [if_pos (by assumption), ← hvZ]; first | exact (decide_eq_true (by assumption)).symm | exact (decide_eq_false (by assumption)).symm)
      have e_35 : (te : Nat) = pk (decide ((dS6 LT len thd (at_, fn, fa, na)).2.1 = 0)) (dH LT len thd (at_, fn, fa, na) + 1) te := by
        clear e_29 e_30 e_31 e_32 e_33 e_34
        rw [← hS6]; first | (rw [if_pos (by assumption)]; done) | (rw [if_neg (by assumption)]; done) | (rw [if_pos (by assumption), ← hvL]; done) | (rw [pk_t (decide_eq_true (by assumption)), ← hvH, nI_iI]; congr 1; omega) | (rw [pk_f (decide_eq_false (by assumption))]; done) | (rw [if_pos (by assumption), ← hvZ]; simp [*]; done) | (rw [if_pos (by assumption), ← hvZ]; first | exact (decide_eq_true (by assumption)).symm | exact (decide_eq_false (by assumption)).symm)
      have e_36 : (thn : Bool) = if (dS6 LT len thd (at_, fn, fa, na)).2.1 = 0 then decide (dZ LT len thd (at_, fn, fa, na) = 1) else thn := by
        clear e_29 e_30 e_31 e_32 e_33 e_34 e_35
        rw [← hS6]; first | (rw [if_pos (by assumption)]; done) | (rw [if_neg (by assumption)]; done) | (rw [if_pos (by assumption), ← hvL]; done) | (rw [pk_t (decide_eq_true (by assumption)), ← hvH, nI_iI]; congr 1; omega) | (rw [pk_f (decide_eq_false (by assumption))]; done) | (rw [if_pos (by assumption), ← hvZ]; simp [*]; done) | (rw [if_pos (by assumption), ← hvZ]; first | exact (decide_eq_true (by assumption)).symm | exact (decide_eq_false (by assumption)).symm)
      exact hret _ _ _ _ dX5_readDays_84 (hW.conv [1, 2, 0] (w1 := [(tx, .inr (5, [.ref lt, .int (nI len), .int (iI s6.2.2.1), .int (nI s6.2.1), .int (nI s6.1), .int (nI s6.2.2.2), .int (nI tu), .int (nI pd)])), (lt, .inl (D.2.2.2.1, 220, .inl (nA LT))), (tb, .inr (0, [.int (nI thd.toNat), .int (nI tlo), .int (iI ((te : Int) - 1)), .int (nI thn.toNat), .int (nI tcu), .ref tsc, .ref tfg, .ref ttv, .ref tpr]))]) (w2 := [(tx, .inr (5, [.ref lt, .int (nI len), .int (iI ((dS6 LT len thd (at_, fn, fa, na)).2.2.1)), .int (nI ((dS6 LT len thd (at_, fn, fa, na)).2.1)), .int (nI ((dS6 LT len thd (at_, fn, fa, na)).1)), .int (nI ((dS6 LT len thd (at_, fn, fa, na)).2.2.2)), .int (nI tu), .int (nI pd)])), (lt, .inl (D.2.2.2.1, 220, .inl (nA LT))), (tb, .inr (0, [.int (nI (if (dS6 LT len thd (at_, fn, fa, na)).2.1 = 0 then true else thd).toNat), .int (nI (if (dS6 LT len thd (at_, fn, fa, na)).2.1 = 0 then dL LT len thd (at_, fn, fa, na) else tlo)), .int (iI (((pk (decide ((dS6 LT len thd (at_, fn, fa, na)).2.1 = 0)) (dH LT len thd (at_, fn, fa, na) + 1) te) : Int) - 1)), .int (nI (if (dS6 LT len thd (at_, fn, fa, na)).2.1 = 0 then decide (dZ LT len thd (at_, fn, fa, na) = 1) else thn).toNat), .int (nI tcu), .ref tsc, .ref tfg, .ref ttv, .ref tpr]))]) rfl rfl (cE (congrArg (fun z => ((tx, .inr (5, z)) : Nat × va_E)) (cE rfl (cE rfl (cE (congrArg Value.int (congrArg (fun z : Int => iI z) e_29)) (cE (congrArg Value.int (congrArg (fun z : Nat => nI z) e_30)) (cE (congrArg Value.int (congrArg (fun z : Nat => nI z) e_31)) (cE (congrArg Value.int (congrArg (fun z : Nat => nI z) e_32)) (cE rfl (cE rfl rfl))))))))) (cE rfl (cE (congrArg (fun z => ((tb, .inr (0, z)) : Nat × va_E)) (cE (congrArg Value.int (congrArg (fun z : Bool => nI z.toNat) e_33)) (cE (congrArg Value.int (congrArg (fun z : Nat => nI z) e_34)) (cE (congrArg Value.int (congrArg (fun z : Nat => iI ((z : Int) - 1)) e_35)) (cE (congrArg Value.int (congrArg (fun z : Bool => nI z.toNat) e_36)) (cE rfl (cE rfl (cE rfl (cE rfl (cE rfl rfl)))))))))) rfl))))
    · refine x_aload_n hx dX5_readDays_54 hl 4 rfl ?_
      refine x_iconst (v := nI 1) hx dX5_readDays_55 (by decide) ?_
      refine x_put0 hx hW 0 rfl 0 (Nat.le_of_ble_eq_true rfl) wf_RX5_63 rfl (narZ true) (fitZ true) (Nat.le_of_ble_eq_true rfl) dX5_readDays_56 [(tb, .inr (0, [.int (nI true.toNat), .int (nI tlo), .int (iI ((te : Int) - 1)), .int (nI thn.toNat), .int (nI tcu), .ref tsc, .ref tfg, .ref ttv, .ref tpr])), (tx, .inr (5, [.ref lt, .int (nI len), .int (iI s6.2.2.1), .int (nI s6.2.1), .int (nI s6.1), .int (nI s6.2.2.2), .int (nI tu), .int (nI pd)])), (lt, .inl (D.2.2.2.1, 220, .inl (nA LT)))] rfl (fun H locs hW => ?_)
      refine x_aload_n hx dX5_readDays_59 hl 4 rfl ?_
      refine x_iload_n hx dX5_readDays_60 hl 2 rfl ?_
      refine x_put0 hx hW 0 rfl 1 (Nat.le_of_ble_eq_true rfl) wf_RX5_91 rfl rfl rfl (Nat.le_of_ble_eq_true rfl) dX5_readDays_61 [(tb, .inr (0, [.int (nI true.toNat), .int (nI v1), .int (iI ((te : Int) - 1)), .int (nI thn.toNat), .int (nI tcu), .ref tsc, .ref tfg, .ref ttv, .ref tpr])), (tx, .inr (5, [.ref lt, .int (nI len), .int (iI s6.2.2.1), .int (nI s6.2.1), .int (nI s6.1), .int (nI s6.2.2.2), .int (nI tu), .int (nI pd)])), (lt, .inl (D.2.2.2.1, 220, .inl (nA LT)))] rfl (fun H locs hW => ?_)
      refine x_aload_n hx dX5_readDays_64 hl 4 rfl ?_
      refine x_iload_n hx dX5_readDays_65 hl 1 rfl ?_
      refine x_put0 hx hW 0 rfl 2 (Nat.le_of_ble_eq_true rfl) wf_RX5_94 rfl rfl rfl (Nat.le_of_ble_eq_true rfl) dX5_readDays_66 [(tb, .inr (0, [.int (nI true.toNat), .int (nI v1), .int (nI v2), .int (nI thn.toNat), .int (nI tcu), .ref tsc, .ref tfg, .ref ttv, .ref tpr])), (tx, .inr (5, [.ref lt, .int (nI len), .int (iI s6.2.2.1), .int (nI s6.2.1), .int (nI s6.1), .int (nI s6.2.2.2), .int (nI tu), .int (nI pd)])), (lt, .inl (D.2.2.2.1, 220, .inl (nA LT)))] rfl (fun H locs hW => ?_)
      refine x_aload_n hx dX5_readDays_69 hl 4 rfl ?_
      refine x_iload hx dX5_readDays_70 hl 0 rfl ?_
      refine x_iconst (v := nI 1) hx dX5_readDays_72 (by decide) ?_
      refine x_icmp_ne_N (a := v3) (b := 1) (tgt := 80) hx dX5_readDays_73 (by decide) (by omega) (by omega) (fun h_37 => ?_) (fun h_37 => ?_)
      · refine x_iconst (v := nI 0) hx dX5_readDays_80 (by decide) ?_
        refine x_put0 hx hW 0 rfl 3 (Nat.le_of_ble_eq_true rfl) wf_RX5_97 rfl (narZ false) (fitZ false) (Nat.le_of_ble_eq_true rfl) dX5_readDays_81 [(tb, .inr (0, [.int (nI true.toNat), .int (nI v1), .int (nI v2), .int (nI false.toNat), .int (nI tcu), .ref tsc, .ref tfg, .ref ttv, .ref tpr])), (tx, .inr (5, [.ref lt, .int (nI len), .int (iI s6.2.2.1), .int (nI s6.2.1), .int (nI s6.1), .int (nI s6.2.2.2), .int (nI tu), .int (nI pd)])), (lt, .inl (D.2.2.2.1, 220, .inl (nA LT)))] rfl (fun H locs hW => ?_)
        have e_38 : (s6.2.2.1 : Int) = (dS6 LT len thd (at_, fn, fa, na)).2.2.1 := by
          rw [hS6]
        have e_39 : (s6.2.1 : Nat) = (dS6 LT len thd (at_, fn, fa, na)).2.1 := by
          clear e_38
          rw [hS6]
        have e_40 : (s6.1 : Nat) = (dS6 LT len thd (at_, fn, fa, na)).1 := by
          clear e_38 e_39
          rw [hS6]
        have e_41 : (s6.2.2.2 : Nat) = (dS6 LT len thd (at_, fn, fa, na)).2.2.2 := by
          clear e_38 e_39 e_40
          rw [hS6]
        have e_42 : (true : Bool) = if (dS6 LT len thd (at_, fn, fa, na)).2.1 = 0 then true else thd := by
          clear e_38 e_39 e_40 e_41
          rw [← hS6]; first | (rw [if_pos (by assumption)]; done) | (rw [if_neg (by assumption)]; done) | (rw [if_pos (by assumption), ← hvL]; done) | (rw [pk_t (decide_eq_true (by assumption)), ← hvH, nI_iI]; congr 1; omega) | (rw [pk_f (decide_eq_false (by assumption))]; done) | (rw [if_pos (by assumption), ← hvZ]; simp [*]; done) | (rw [if_pos (by assumption), ← hvZ]; first | exact (decide_eq_true (by assumption)).symm | exact (decide_eq_false (by assumption)).symm)
        have e_43 : (v1 : Nat) = if (dS6 LT len thd (at_, fn, fa, na)).2.1 = 0 then dL LT len thd (at_, fn, fa, na) else tlo := by
          clear e_38 e_39 e_40 e_41 e_42
          rw [← hS6]; first | (rw [if_pos (by assumption)]; done) | (rw [if_neg (by assumption)]; done) | (rw [if_pos (by assumption), ← hvL]; done) | (rw [pk_t (decide_eq_true (by assumption)), ← hvH, nI_iI]; congr 1; omega) | (rw [pk_f (decide_eq_false (by assumption))]; done) | (rw [if_pos (by assumption), ← hvZ]; simp [*]; done) | (rw [if_pos (by assumption), ← hvZ]; first | exact (decide_eq_true (by assumption)).symm | exact (decide_eq_false (by assumption)).symm)
        have e_44 : nI v2 = iI (((pk (decide ((dS6 LT len thd (at_, fn, fa, na)).2.1 = 0)) (dH LT len thd (at_, fn, fa, na) + 1) te) : Int) - 1) := by
          clear e_38 e_39 e_40 e_41 e_42 e_43
          rw [← hS6]; first | (rw [if_pos (by assumption)]; done) | (rw [if_neg (by assumption)]; done) | (rw [if_pos (by assumption), ← hvL]; done) | (rw [pk_t (decide_eq_true (by assumption)), ← hvH, nI_iI]; congr 1; omega) | (rw [pk_f (decide_eq_false (by assumption))]; done) | (rw [if_pos (by assumption), ← hvZ]; simp [*]; done) | (rw [if_pos (by assumption), ← hvZ]; first | exact (decide_eq_true (by assumption)).symm | exact (decide_eq_false (by assumption)).symm)
        have e_45 : (false : Bool) = if (dS6 LT len thd (at_, fn, fa, na)).2.1 = 0 then decide (dZ LT len thd (at_, fn, fa, na) = 1) else thn := by
          clear e_38 e_39 e_40 e_41 e_42 e_43 e_44
          rw [← hS6]; first | (rw [if_pos (by assumption)]; done) | (rw [if_neg (by assumption)]; done) | (rw [if_pos (by assumption), ← hvL]; done) | (rw [pk_t (decide_eq_true (by assumption)), ← hvH, nI_iI]; congr 1; omega) | (rw [pk_f (decide_eq_false (by assumption))]; done) | (rw [if_pos (by assumption), ← hvZ]; simp [*]; done) | (rw [if_pos (by assumption), ← hvZ]; first | exact (decide_eq_true (by assumption)).symm | exact (decide_eq_false (by assumption)).symm)
        exact hret _ _ _ _ dX5_readDays_84 (hW.conv [1, 2, 0] (w1 := [(tx, .inr (5, [.ref lt, .int (nI len), .int (iI s6.2.2.1), .int (nI s6.2.1), .int (nI s6.1), .int (nI s6.2.2.2), .int (nI tu), .int (nI pd)])), (lt, .inl (D.2.2.2.1, 220, .inl (nA LT))), (tb, .inr (0, [.int (nI true.toNat), .int (nI v1), .int (nI v2), .int (nI false.toNat), .int (nI tcu), .ref tsc, .ref tfg, .ref ttv, .ref tpr]))]) (w2 := [(tx, .inr (5, [.ref lt, .int (nI len), .int (iI ((dS6 LT len thd (at_, fn, fa, na)).2.2.1)), .int (nI ((dS6 LT len thd (at_, fn, fa, na)).2.1)), .int (nI ((dS6 LT len thd (at_, fn, fa, na)).1)), .int (nI ((dS6 LT len thd (at_, fn, fa, na)).2.2.2)), .int (nI tu), .int (nI pd)])), (lt, .inl (D.2.2.2.1, 220, .inl (nA LT))), (tb, .inr (0, [.int (nI (if (dS6 LT len thd (at_, fn, fa, na)).2.1 = 0 then true else thd).toNat), .int (nI (if (dS6 LT len thd (at_, fn, fa, na)).2.1 = 0 then dL LT len thd (at_, fn, fa, na) else tlo)), .int (iI (((pk (decide ((dS6 LT len thd (at_, fn, fa, na)).2.1 = 0)) (dH LT len thd (at_, fn, fa, na) + 1) te) : Int) - 1)), .int (nI (if (dS6 LT len thd (at_, fn, fa, na)).2.1 = 0 then decide (dZ LT len thd (at_, fn, fa, na) = 1) else thn).toNat), .int (nI tcu), .ref tsc, .ref tfg, .ref ttv, .ref tpr]))]) rfl rfl (cE (congrArg (fun z => ((tx, .inr (5, z)) : Nat × va_E)) (cE rfl (cE rfl (cE (congrArg Value.int (congrArg (fun z : Int => iI z) e_38)) (cE (congrArg Value.int (congrArg (fun z : Nat => nI z) e_39)) (cE (congrArg Value.int (congrArg (fun z : Nat => nI z) e_40)) (cE (congrArg Value.int (congrArg (fun z : Nat => nI z) e_41)) (cE rfl (cE rfl rfl))))))))) (cE rfl (cE (congrArg (fun z => ((tb, .inr (0, z)) : Nat × va_E)) (cE (congrArg Value.int (congrArg (fun z : Bool => nI z.toNat) e_42)) (cE (congrArg Value.int (congrArg (fun z : Nat => nI z) e_43)) (cE (congrArg Value.int (e_44)) (cE (congrArg Value.int (congrArg (fun z : Bool => nI z.toNat) e_45)) (cE rfl (cE rfl (cE rfl (cE rfl (cE rfl rfl)))))))))) rfl))))
      · refine x_iconst (v := nI 1) hx dX5_readDays_76 (by decide) ?_
        refine x_goto (tgt := 81) hx dX5_readDays_77 (by decide) ?_
        refine x_put0 hx hW 0 rfl 3 (Nat.le_of_ble_eq_true rfl) wf_RX5_97 rfl (narZ true) (fitZ true) (Nat.le_of_ble_eq_true rfl) dX5_readDays_81 [(tb, .inr (0, [.int (nI true.toNat), .int (nI v1), .int (nI v2), .int (nI true.toNat), .int (nI tcu), .ref tsc, .ref tfg, .ref ttv, .ref tpr])), (tx, .inr (5, [.ref lt, .int (nI len), .int (iI s6.2.2.1), .int (nI s6.2.1), .int (nI s6.1), .int (nI s6.2.2.2), .int (nI tu), .int (nI pd)])), (lt, .inl (D.2.2.2.1, 220, .inl (nA LT)))] rfl (fun H locs hW => ?_)
        have e_46 : (s6.2.2.1 : Int) = (dS6 LT len thd (at_, fn, fa, na)).2.2.1 := by
          rw [hS6]
        have e_47 : (s6.2.1 : Nat) = (dS6 LT len thd (at_, fn, fa, na)).2.1 := by
          clear e_46
          rw [hS6]
        have e_48 : (s6.1 : Nat) = (dS6 LT len thd (at_, fn, fa, na)).1 := by
          clear e_46 e_47
          rw [hS6]
        have e_49 : (s6.2.2.2 : Nat) = (dS6 LT len thd (at_, fn, fa, na)).2.2.2 := by
          clear e_46 e_47 e_48
          rw [hS6]
        have e_50 : (true : Bool) = if (dS6 LT len thd (at_, fn, fa, na)).2.1 = 0 then true else thd := by
          clear e_46 e_47 e_48 e_49
          rw [← hS6]; first | (rw [if_pos (by assumption)]; done) | (rw [if_neg (by assumption)]; done) | (rw [if_pos (by assumption), ← hvL]; done) | (rw [pk_t (decide_eq_true (by assumption)), ← hvH, nI_iI]; congr 1; omega) | (rw [pk_f (decide_eq_false (by assumption))]; done) | (rw [if_pos (by assumption), ← hvZ]; simp [*]; done) | (rw [if_pos (by assumption), ← hvZ]; first | exact (decide_eq_true (by assumption)).symm | exact (decide_eq_false (by assumption)).symm)
        have e_51 : (v1 : Nat) = if (dS6 LT len thd (at_, fn, fa, na)).2.1 = 0 then dL LT len thd (at_, fn, fa, na) else tlo := by
          clear e_46 e_47 e_48 e_49 e_50
          rw [← hS6]; first | (rw [if_pos (by assumption)]; done) | (rw [if_neg (by assumption)]; done) | (rw [if_pos (by assumption), ← hvL]; done) | (rw [pk_t (decide_eq_true (by assumption)), ← hvH, nI_iI]; congr 1; omega) | (rw [pk_f (decide_eq_false (by assumption))]; done) | (rw [if_pos (by assumption), ← hvZ]; simp [*]; done) | (rw [if_pos (by assumption), ← hvZ]; first | exact (decide_eq_true (by assumption)).symm | exact (decide_eq_false (by assumption)).symm)
        have e_52 : nI v2 = iI (((pk (decide ((dS6 LT len thd (at_, fn, fa, na)).2.1 = 0)) (dH LT len thd (at_, fn, fa, na) + 1) te) : Int) - 1) := by
          clear e_46 e_47 e_48 e_49 e_50 e_51
          rw [← hS6]; first | (rw [if_pos (by assumption)]; done) | (rw [if_neg (by assumption)]; done) | (rw [if_pos (by assumption), ← hvL]; done) | (rw [pk_t (decide_eq_true (by assumption)), ← hvH, nI_iI]; congr 1; omega) | (rw [pk_f (decide_eq_false (by assumption))]; done) | (rw [if_pos (by assumption), ← hvZ]; simp [*]; done) | (rw [if_pos (by assumption), ← hvZ]; first | exact (decide_eq_true (by assumption)).symm | exact (decide_eq_false (by assumption)).symm)
        have e_53 : (true : Bool) = if (dS6 LT len thd (at_, fn, fa, na)).2.1 = 0 then decide (dZ LT len thd (at_, fn, fa, na) = 1) else thn := by
          clear e_46 e_47 e_48 e_49 e_50 e_51 e_52
          rw [← hS6]; first | (rw [if_pos (by assumption)]; done) | (rw [if_neg (by assumption)]; done) | (rw [if_pos (by assumption), ← hvL]; done) | (rw [pk_t (decide_eq_true (by assumption)), ← hvH, nI_iI]; congr 1; omega) | (rw [pk_f (decide_eq_false (by assumption))]; done) | (rw [if_pos (by assumption), ← hvZ]; simp [*]; done) | (rw [if_pos (by assumption), ← hvZ]; first | exact (decide_eq_true (by assumption)).symm | exact (decide_eq_false (by assumption)).symm)
        exact hret _ _ _ _ dX5_readDays_84 (hW.conv [1, 2, 0] (w1 := [(tx, .inr (5, [.ref lt, .int (nI len), .int (iI s6.2.2.1), .int (nI s6.2.1), .int (nI s6.1), .int (nI s6.2.2.2), .int (nI tu), .int (nI pd)])), (lt, .inl (D.2.2.2.1, 220, .inl (nA LT))), (tb, .inr (0, [.int (nI true.toNat), .int (nI v1), .int (nI v2), .int (nI true.toNat), .int (nI tcu), .ref tsc, .ref tfg, .ref ttv, .ref tpr]))]) (w2 := [(tx, .inr (5, [.ref lt, .int (nI len), .int (iI ((dS6 LT len thd (at_, fn, fa, na)).2.2.1)), .int (nI ((dS6 LT len thd (at_, fn, fa, na)).2.1)), .int (nI ((dS6 LT len thd (at_, fn, fa, na)).1)), .int (nI ((dS6 LT len thd (at_, fn, fa, na)).2.2.2)), .int (nI tu), .int (nI pd)])), (lt, .inl (D.2.2.2.1, 220, .inl (nA LT))), (tb, .inr (0, [.int (nI (if (dS6 LT len thd (at_, fn, fa, na)).2.1 = 0 then true else thd).toNat), .int (nI (if (dS6 LT len thd (at_, fn, fa, na)).2.1 = 0 then dL LT len thd (at_, fn, fa, na) else tlo)), .int (iI (((pk (decide ((dS6 LT len thd (at_, fn, fa, na)).2.1 = 0)) (dH LT len thd (at_, fn, fa, na) + 1) te) : Int) - 1)), .int (nI (if (dS6 LT len thd (at_, fn, fa, na)).2.1 = 0 then decide (dZ LT len thd (at_, fn, fa, na) = 1) else thn).toNat), .int (nI tcu), .ref tsc, .ref tfg, .ref ttv, .ref tpr]))]) rfl rfl (cE (congrArg (fun z => ((tx, .inr (5, z)) : Nat × va_E)) (cE rfl (cE rfl (cE (congrArg Value.int (congrArg (fun z : Int => iI z) e_46)) (cE (congrArg Value.int (congrArg (fun z : Nat => nI z) e_47)) (cE (congrArg Value.int (congrArg (fun z : Nat => nI z) e_48)) (cE (congrArg Value.int (congrArg (fun z : Nat => nI z) e_49)) (cE rfl (cE rfl rfl))))))))) (cE rfl (cE (congrArg (fun z => ((tb, .inr (0, z)) : Nat × va_E)) (cE (congrArg Value.int (congrArg (fun z : Bool => nI z.toNat) e_50)) (cE (congrArg Value.int (congrArg (fun z : Nat => nI z) e_51)) (cE (congrArg Value.int (e_52)) (cE (congrArg Value.int (congrArg (fun z : Bool => nI z.toNat) e_53)) (cE rfl (cE rfl (cE rfl (cE rfl (cE rfl rfl)))))))))) rfl))))
