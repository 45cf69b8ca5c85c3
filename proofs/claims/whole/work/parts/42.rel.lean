/-! a clause -/
theorem reS_keep {LT : Nat → Nat} {len : Nat} {T : TS} (h : ¬ T.2.1 = 0) : (reS LT len T).2.1 = T.2.1 ∧ (reS LT len T).2.2.1 = T.2.2.1 := by
  unfold reS
  split
  · exact ⟨rfl, rfl⟩
  · rw [blS_f (s := (skipB LT len T.1, T.2.1, T.2.2.1, T.2.2.2)) h]; exact ⟨rfl, rfl⟩
theorem reS_y {LT : Nat → Nat} {len : Nat} {T : TS} (h : hereV LT len T.1 = 59) : reS LT len T = (skipB LT len T.1 + 1, T.2.1, T.2.2.1, T.2.2.2) := by
  rw [reS, if_pos (hereV_is.mp h)]
theorem reS_n {LT : Nat → Nat} {len : Nat} {T : TS} (h0 : T.2.1 = 0) (h : ¬ hereV LT len T.1 = 59) : reS LT len T = (skipB LT len T.1, 1, (skipB LT len T.1 : Int), T.2.2.2) := by
  rw [reS, if_neg (fun h9 => h (hereV_is.mpr h9)), blS, if_pos h0]
theorem reS_cX {LT : Nat → Nat} {len : Nat} {T : TS} (h : ¬ (cX LT len T).2.1 = 0) : (reS LT len T).2.1 = (cX LT len T).2.1 ∧ (reS LT len T).2.2.1 = (cX LT len T).2.2.1 := by
  by_cases hc : T.2.1 = 0 ∧ hereV LT len T.1 = 44
  · rw [cX_y hc.1 hc.2, reS_n hc.1 (by rw [hc.2]; decide)]; exact ⟨rfl, rfl⟩
  · have e : cX LT len T = T := by rw [cX, if_neg hc]
    rw [e] at h ⊢
    exact reS_keep h
theorem hereV_cg {LT : Nat → Nat} {len a b : Nat} (h : skipB LT len a = skipB LT len b) : hereV LT len a = hereV LT len b := by
  unfold hereV; rw [h]
def rdR (ri : Bool) (rc rp tp : Nat) (RD RS RF RO RP : Nat → Nat) (q : PT) : Prop :=
  ri = q.2.2.2.1 ∧ rc = q.2.2.2.2.2.2.2.1 ∧ rp = q.2.1 ∧ tp = q.2.2.1 ∧ (ri = true → RD 0 = q.2.2.2.2.1 ∧ RD 1 + 1 = q.2.2.2.2.2.1 ∧ q.2.2.2.2.2.2.1 = decide (RD 2 = 1) ∧ RD 2 ≤ 1 ∧ RD 0 ≤ RD 1 ∧ RD 1 ≤ 99) ∧ (ri = false → rc = 0 ∧ q.2.2.2.2.1 = 0 ∧ q.2.2.2.2.2.1 = 0 ∧ q.2.2.2.2.2.2.1 = false) ∧ (∀ k, k < rc → RS k = q.2.2.2.2.2.2.2.2.1 k ∧ 1 ≤ q.2.2.2.2.2.2.2.2.1 k) ∧ (∀ x, x < 6 * rc → x % 6 < q.2.2.2.2.2.2.2.2.1 (x / 6) → RF x = q.2.2.2.2.2.2.2.2.2.1 x) ∧ (∀ k, k < 10 → RO k = q.2.2.2.2.2.2.2.2.2.2.1 k) ∧ (∀ k, k < 10 → RP k = q.2.2.2.2.2.2.2.2.2.2.2 k) ∧ (∀ k, k < 10 → q.2.2.2.2.2.2.2.2.2.2.1 k < 10 ∧ q.2.2.2.2.2.2.2.2.2.2.1 (q.2.2.2.2.2.2.2.2.2.2.1 k) = k)
section RD
variable {LT : Nat → Nat} {len w : Nat} {fa : Int} {na tu pd lo e cu : Nat} {hn : Bool} {SC FG TV PR RD RS RF RO RP : Nat → Nat}
theorem dS6_3 : (dS6 LT len true (w, 0, fa, na)).2.1 = 3 ∧ (dS6 LT len true (w, 0, fa, na)).2.2.1 = (w : Int) := by
  have e1 : rwS true (w, 0, fa, na) = (w, 3, (w : Int), na) := rfl
  have h3 : ¬ ((w, 3, (w : Int), na) : TS).2.1 = 0 := (show ¬ (3 : Nat) = 0 by decide)
  have e2 : dS2 LT len true (w, 0, fa, na) = (w, 3, (w : Int), na) := by rw [dS2, e1, rnS_f h3]
  have e3 : dS3 LT len true (w, 0, fa, na) = (w, 3, (w : Int), na) := by rw [dS3, e2, rnS_f h3]
  have e4 : dS4 LT len true (w, 0, fa, na) = (w, 3, (w : Int), na) := by rw [dS4, e3, bl_if h3]
  have e6 : dS6 LT len true (w, 0, fa, na) = reS LT len (w, 3, (w : Int), na) := by rw [dS6, e4, rnS_f h3]
  rw [e6]
  exact reS_keep h3
theorem cS6_3 (hc : 4 ≤ cu) : (cS6 LT len cu FG SC (w, 0, fa, na)).2.1 = 3 ∧ (cS6 LT len cu FG SC (w, 0, fa, na)).2.2.1 = (w : Int) := by
  have e1 : rwS (decide (4 ≤ cu)) (w, 0, fa, na) = (w, 3, (w : Int), na) := by rw [decide_eq_true hc]; rfl
  have h3 : ¬ ((w, 3, (w : Int), na) : TS).2.1 = 0 := (show ¬ (3 : Nat) = 0 by decide)
  have h2 : cq LT len cu FG SC (w, 0, fa, na) = (true, (w, 3, (w : Int), na), FG, SC) := by
    rw [cq, e1]
    exact cbN_stay (LT := LT) (len := len) (c := cu) (q0 := (true, (w, 3, (w : Int), na), FG, SC)) (f := 0) (fun g => h3 g.2) 6
  rw [cS6, h2]
  exact reS_keep h3
theorem tS6_3 (hc : 4 ≤ tu) : (tS6 LT len TV tu (w, 0, fa, na)).2.1 = 3 ∧ (tS6 LT len TV tu (w, 0, fa, na)).2.2.1 = (w : Int) := by
  have e1 : tS1 tu (w, 0, fa, na) = (w, 3, (w : Int), na) := by rw [tS1, decide_eq_true hc]; rfl
  have h3 : ¬ ((w, 3, (w : Int), na) : TS).2.1 = 0 := (show ¬ (3 : Nat) = 0 by decide)
  have e2 : tS2 LT len tu (w, 0, fa, na) = (w, 3, (w : Int), na) := by rw [tS2, e1, rnS_f h3]
  have e3 : tS3 LT len TV tu (w, 0, fa, na) = (w, 3, (w : Int), na) := by rw [tS3, e2, bl_if2 h3]
  have e4 : tS4 LT len TV tu (w, 0, fa, na) = (w, 3, (w : Int), na) := by rw [tS4, e3, rnS_f h3]
  have e5 : tS5 LT len TV tu (w, 0, fa, na) = (w, 3, (w : Int), na) := by rw [tS5, e4, bl_if h3]
  rw [tS6, e5]
  exact reS_keep h3
theorem dT_le (h : (dT LT len w fa na).2.1 = 0) : dL LT len false (w, 0, fa, na) ≤ dH LT len false (w, 0, fa, na) := by
  rcases Nat.lt_or_ge (dH LT len false (w, 0, fa, na)) (dL LT len false (w, 0, fa, na)) with h1 | h1
  · exfalso
    have h2 : ¬ (dS4 LT len false (w, 0, fa, na)).2.1 = 0 := by
      rw [dS4, if_pos h1]; exact blS_f2 (by decide)
    rw [dT, rnS_f h2] at h
    exact h2 h
  · exact h1
theorem reS_0 {T : TS} (h : (reS LT len T).2.1 = 0) : T.2.1 = 0 := by
  by_cases h1 : T.2.1 = 0
  · exact h1
  · exact absurd h (reS_f h1)
theorem rel_day (h0 : (dS6 LT len false (w, 0, fa, na)).2.1 = 0) (h1 : RD 0 = dL LT len false (w, 0, fa, na)) (h2 : RD 1 = dH LT len false (w, 0, fa, na)) (h3 : RD 2 = dZ LT len false (w, 0, fa, na)) {RD' : Nat → Nat} {s : TS} (hR : rdR false cu tu pd RD' RS RF RO RP (s, tu, pd, false, lo, e, hn, cu, SC, FG, TV, PR)) : rdR true cu tu pd RD RS RF RO RP (fDay LT len (w, 0, fa, na) tu pd false lo e hn cu SC FG TV PR) := by
  obtain ⟨-, -, -, -, -, hz, h7, h8, h9, h10, h11⟩ := hR
  have hT : (dT LT len w fa na).2.1 = 0 := reS_0 (show (reS LT len (dT LT len w fa na)).2.1 = 0 from h0)
  refine ⟨?_, rfl, rfl, rfl, fun _ => ⟨?_, ?_, ?_, ?_, ?_, ?_⟩, (fun h => by cases h), h7, h8, h9, h10, h11⟩
  · show true = if (dS6 LT len false (w, 0, fa, na)).2.1 = 0 then true else false
    rw [if_pos h0]
  · show RD 0 = if (dS6 LT len false (w, 0, fa, na)).2.1 = 0 then _ else _
    rw [if_pos h0, h1]
  · show RD 1 + 1 = pk _ _ _
    rw [pk_t (decide_eq_true h0), h2]
  · show (if (dS6 LT len false (w, 0, fa, na)).2.1 = 0 then _ else _) = _
    rw [if_pos h0, h3]
  · rw [h3]; exact rnV_le
  · rw [h1, h2]; exact dT_le hT
  · rw [h2]; exact rnV_le
theorem rel_cube {RS' RF' : Nat → Nat} {s : TS} (hc : cu < 4) (h0 : (cS6 LT len cu FG SC (w, 0, fa, na)).2.1 = 0) (hs1 : ∀ k, k < cu → RS' k = SC k) (hs2 : RS' cu = (cq LT len cu FG SC (w, 0, fa, na)).2.2.2 cu) (hf : ∀ x, x < 6 * cu + (cq LT len cu FG SC (w, 0, fa, na)).2.2.2 cu → (x < 6 * cu → x % 6 < SC (x / 6)) → RF' x = (cq LT len cu FG SC (w, 0, fa, na)).2.2.1 x) (hq1 : ∀ k, ¬ k = cu → (cq LT len cu FG SC (w, 0, fa, na)).2.2.2 k = SC k) (hq2 : 1 ≤ (cq LT len cu FG SC (w, 0, fa, na)).2.2.2 cu) (hR : rdR true cu tu pd RD RS RF RO RP (s, tu, pd, true, lo, e, hn, cu, SC, FG, TV, PR)) : rdR true (cu + 1) tu pd RD RS' RF' RO RP (fCub LT len (w, 0, fa, na) tu pd true lo e hn cu SC FG TV PR) := by
  obtain ⟨-, -, -, -, h5, hz, h7, h8, h9, h10, h11⟩ := hR
  refine ⟨rfl, ?_, rfl, rfl, h5, (fun h => by cases h), fun k hk => ?_, fun x hx hx2 => ?_, h9, h10, h11⟩
  · show cu + 1 = pk _ _ _
    rw [pk_t (decide_eq_true h0)]
  · show RS' k = (cq LT len cu FG SC (w, 0, fa, na)).2.2.2 k ∧ 1 ≤ (cq LT len cu FG SC (w, 0, fa, na)).2.2.2 k
    by_cases hk2 : k = cu
    · rw [hk2]; exact ⟨hs2, hq2⟩
    · rw [hq1 k hk2]; exact ⟨hs1 k (by omega), (h7 k (by omega)).2⟩
  · have hx3 : x % 6 < (cq LT len cu FG SC (w, 0, fa, na)).2.2.2 (x / 6) := hx2
    refine hf x ?_ (fun h => ?_)
    · by_cases h : x < 6 * cu
      · omega
      · rw [show x / 6 = cu by omega] at hx3
        omega
    · rw [hq1 (x / 6) (by omega)] at hx3; exact hx3
theorem inv_up {TV : Nat → Nat} {a b : Nat} (ha : a < 10) (hb : b < 10) (hab : ¬ b = a) (h1 : TV a = a) (h2 : TV b = b) (hI : ∀ k, k < 10 → TV k < 10 ∧ TV (TV k) = k) : ∀ k, k < 10 → va_up (va_up TV a b) b a k < 10 ∧ va_up (va_up TV a b) b a (va_up (va_up TV a b) b a k) = k := by
  intro k hk
  have hk2 := hI k hk
  by_cases e1 : k = b
  · subst e1
    have e2 : ¬ a = k := fun h => hab h.symm
    simp [va_up, e2, ha]
  · by_cases e2 : k = a
    · subst e2; simp [va_up, e1, hb]
    · have e3 : ¬ TV k = b := fun h => by rw [h, h2] at hk2; exact e1 hk2.2.symm
      have e4 : ¬ TV k = a := fun h => by rw [h, h1] at hk2; exact e2 hk2.2.symm
      simp [va_up, e1, e2, e3, e4, hk2]
theorem rel_pair {RO' : Nat → Nat} {s : TS} (ht : tu < 4) (h0 : (tS6 LT len TV tu (w, 0, fa, na)).2.1 = 0) (ho : ∀ k, k < 10 → RO' k = va_up (va_up TV (tA LT len tu (w, 0, fa, na)) (tB LT len TV tu (w, 0, fa, na))) (tB LT len TV tu (w, 0, fa, na)) (tA LT len tu (w, 0, fa, na)) k) (hR : rdR true cu tu pd RD RS RF RO RP (s, tu, pd, true, lo, e, hn, cu, SC, FG, TV, PR)) : rdR true cu (tu + 1) pd RD RS RF RO' RP (fTur LT len (w, 0, fa, na) tu pd true lo e hn cu SC FG TV PR) := by
  obtain ⟨-, -, -, -, h5, hz, h7, h8, h9, h10, h11⟩ := hR
  have h5' : (tS5 LT len TV tu (w, 0, fa, na)).2.1 = 0 := reS_0 h0
  have hc : ¬ (tB LT len TV tu (w, 0, fa, na) = tA LT len tu (w, 0, fa, na) ∨ ¬ TV (tB LT len TV tu (w, 0, fa, na)) = tB LT len TV tu (w, 0, fa, na)) := by
    intro h
    rw [tS5, if_pos h] at h5'
    exact absurd h5' (blS_f2 (by decide))
  have h4' : (tS4 LT len TV tu (w, 0, fa, na)).2.1 = 0 := by rw [tS5, if_neg hc] at h5'; exact h5'
  have h3' : (tS3 LT len TV tu (w, 0, fa, na)).2.1 = 0 := by
    by_cases h : (tS3 LT len TV tu (w, 0, fa, na)).2.1 = 0
    · exact h
    · rw [tS4, rnS_f h] at h4'; exact h4'
  have hA : TV (tA LT len tu (w, 0, fa, na)) = tA LT len tu (w, 0, fa, na) := by
    by_cases h : TV (tA LT len tu (w, 0, fa, na)) = tA LT len tu (w, 0, fa, na)
    · exact h
    · rw [tS3, if_neg h] at h3'; exact absurd h3' (blS_f2 (by decide))
  have hB : TV (tB LT len TV tu (w, 0, fa, na)) = tB LT len TV tu (w, 0, fa, na) := by
    by_cases h : TV (tB LT len TV tu (w, 0, fa, na)) = tB LT len TV tu (w, 0, fa, na)
    · exact h
    · exact absurd (Or.inr h) hc
  have hab : ¬ tB LT len TV tu (w, 0, fa, na) = tA LT len tu (w, 0, fa, na) := fun h => hc (Or.inl h)
  have ha : tA LT len tu (w, 0, fa, na) < 10 := Nat.lt_succ_of_le rnV_le
  have hb : tB LT len TV tu (w, 0, fa, na) < 10 := Nat.lt_succ_of_le rnV_le
  have hsel : selN (decide ((tS6 LT len TV tu (w, 0, fa, na)).2.1 = 0)) (va_up (va_up TV (tA LT len tu (w, 0, fa, na)) (tB LT len TV tu (w, 0, fa, na))) (tB LT len TV tu (w, 0, fa, na)) (tA LT len tu (w, 0, fa, na))) TV = va_up (va_up TV (tA LT len tu (w, 0, fa, na)) (tB LT len TV tu (w, 0, fa, na))) (tB LT len TV tu (w, 0, fa, na)) (tA LT len tu (w, 0, fa, na)) := by
    rw [selN, if_pos (decide_eq_true h0)]
  refine ⟨rfl, rfl, ?_, rfl, h5, (fun h => by cases h), h7, h8, fun k hk => ?_, h10, fun k hk => ?_⟩
  · show tu + 1 = pk _ _ _
    rw [pk_t (decide_eq_true h0)]
  · show RO' k = selN _ _ _ k
    rw [hsel]; exact ho k hk
  · show selN _ _ _ k < 10 ∧ selN _ _ _ (selN _ _ _ k) = k
    rw [hsel]; exact inv_up ha hb hab hA hB h11 k hk
theorem rel_price {RP' : Nat → Nat} {s : TS} (h0 : (pS5 LT len pd (w, 0, fa, na)).2.1 = 0) (hp : ∀ k, k < 10 → RP' k = va_up PR (pA LT len (w, 0, fa, na)) (pB LT len pd (w, 0, fa, na)) k) (hR : rdR true cu tu pd RD RS RF RO RP (s, tu, pd, true, lo, e, hn, cu, SC, FG, TV, PR)) : rdR true cu tu (pd ||| 2 ^ pA LT len (w, 0, fa, na)) RD RS RF RO RP' (fPri LT len (w, 0, fa, na) tu pd true lo e hn cu SC FG TV PR) := by
  obtain ⟨-, -, -, -, h5, hz, h7, h8, h9, h10, h11⟩ := hR
  refine ⟨rfl, rfl, rfl, ?_, h5, (fun h => by cases h), h7, h8, h9, fun k hk => ?_, h11⟩
  · show _ = pk _ _ _
    rw [pk_t (decide_eq_true h0)]
  · show RP' k = selN _ _ _ k
    rw [selN, if_pos (decide_eq_true h0)]; exact hp k hk
theorem cbN_sc {LT : Nat → Nat} {len c : Nat} {q0 : CS} : ∀ f, (∀ k, ¬ k = c → (cbN LT len c q0 f).2.2.2 k = q0.2.2.2 k) ∧ (0 < f → q0.1 = true → q0.2.1.2.1 = 0 → 1 ≤ (cbN LT len c q0 f).2.2.2 c)
  | 0 => ⟨fun _ _ => rfl, fun h => by omega⟩
  | f + 1 => by
    have ih := cbN_sc (LT := LT) (len := len) (c := c) (q0 := q0) f
    simp only [cbN]
    split
    · refine ⟨fun k hk => ?_, fun _ _ _ => ?_⟩
      · show va_up _ c _ k = _
        rw [va_up_ne _ _ hk]; exact ih.1 k hk
      · show 1 ≤ va_up _ c _ c
        rw [va_up_same]; omega
    · next hn =>
      refine ⟨ih.1, fun _ h1 h2 => ?_⟩
      cases f with
      | zero => exact absurd ⟨h1, h2⟩ hn
      | succ f => exact ih.2 (by omega) h1 h2
theorem cq_sc (hc : cu < 4) : (∀ k, ¬ k = cu → (cq LT len cu FG SC (w, 0, fa, na)).2.2.2 k = SC k) ∧ 1 ≤ (cq LT len cu FG SC (w, 0, fa, na)).2.2.2 cu := by
  rw [cq_0 hc]
  have h := cbN_sc (LT := LT) (len := len) (c := cu) (q0 := cQ0 w fa na FG SC) 6
  exact ⟨h.1, h.2 (by omega) rfl rfl⟩
end RD
