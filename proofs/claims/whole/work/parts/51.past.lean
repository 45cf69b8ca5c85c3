/-! drifts, sums, the past -/
theorem stR_cg {cu lost cost : Nat} {SC NF NW NW' : Nat → Nat} (hcu : cu ≤ 4) (h7 : ∀ k, k < 4 → SC k < 7) (h : stR cu SC NF NW lost cost) (e : ∀ k, k < 26 → NW' k = NW k) : stR cu SC NF NW' lost cost := by
  obtain ⟨h1, h2, h3, h4, h5, h6⟩ := h
  refine ⟨fun c f hc hf => ?_, by rw [e 24 (by omega), h2], by rw [e 25 (by omega), h3], h4, h5, fun k hk => by rw [e k (by omega)]; exact h6 k hk⟩
  have := h7 c (by omega)
  rw [e _ (by omega)]; exact h1 c f hc hf
section DR
variable {cu lost cost dr : Nat} {SC mSC PR NF NW : Nat → Nat}
theorem dr_eq (h : stR cu SC NF NW lost cost) (hc0 : 0 < cu) (hcu : cu ≤ 4) (h7 : ∀ k, k < 4 → SC k < 7) (hS : ∀ k, k < cu → mSC k = SC k) (hp : ∀ k, k < cu → 0 < SC k) : ∀ j, (drN cu mSC PR (NW, cost, dr) j).2 = (drN cu SC PR (NF, cost, dr) j).2 ∧ (∀ c f, c < cu → f < SC c → (drN cu mSC PR (NW, cost, dr) j).1 (6 * c + f) = (drN cu SC PR (NF, cost, dr) j).1 (c * 6 + f)) ∧ (drN cu mSC PR (NW, cost, dr) j).1 24 = lost ∧ (∀ k, k < 24 → (drN cu SC PR (NF, cost, dr) j).1 k < 10) ∧ ∀ k, k < 24 → (drN cu mSC PR (NW, cost, dr) j).1 k < 10
  | 0 => ⟨rfl, h.1, h.2.1, h.2.2.2.2.1, h.2.2.2.2.2⟩
  | j + 1 => by
    obtain ⟨e2, e1, e24, b1, b2⟩ := dr_eq h hc0 hcu h7 hS hp j
    simp only [drN]
    generalize drN cu mSC PR (NW, cost, dr) j = m at e2 e1 e24 b2 ⊢
    generalize drN cu SC PR (NF, cost, dr) j = s at e2 e1 b1 ⊢
    have hC : drC cu m = drC cu s := by unfold drC; rw [e2]
    have hCl : drC cu s < cu := Nat.mod_lt _ hc0
    have hF : drF cu mSC m = drF cu SC s := by unfold drF; rw [hC, e2, hS _ hCl]
    have hFl : drF cu SC s < SC (drC cu s) := Nat.mod_lt _ (hp _ hCl)
    have hG : drG m = drG s := by unfold drG; rw [e2]
    have hGl : drG s < 10 := Nat.mod_lt _ (by decide)
    have h7c := h7 (drC cu s) (by omega)
    unfold drStep
    rw [hC, hF, hG, e2]
    refine ⟨rfl, fun c f hc hf => ?_, ?_, bnd_up b1 hGl, bnd_up b2 hGl⟩
    · have h7d := h7 c (by omega)
      show va_up m.1 _ _ _ = va_up s.1 _ _ _
      by_cases hi : 6 * c + f = drC cu s * 6 + drF cu SC s
      · rw [hi, va_up_same, show c * 6 + f = drC cu s * 6 + drF cu SC s by omega, va_up_same]
      · rw [va_up_ne _ _ hi, va_up_ne _ _ (show ¬ c * 6 + f = drC cu s * 6 + drF cu SC s by omega)]; exact e1 c f hc hf
    · show va_up m.1 _ _ 24 = lost
      rw [va_up_ne _ _ (by omega)]; exact e24
theorem dr_st (h : stR cu SC NF NW lost cost) (hc0 : 0 < cu) (hcu : cu ≤ 4) (h7 : ∀ k, k < 4 → SC k < 7) (hS : ∀ k, k < cu → mSC k = SC k) (hp : ∀ k, k < cu → 0 < SC k) (j : Nat) : stR cu SC (drN cu SC PR (NF, cost, dr) j).1 (dnw (drN cu mSC PR (NW, cost, dr) j)) lost (drN cu SC PR (NF, cost, dr) j).2.1 := by
  obtain ⟨e2, e1, e24, b1, b2⟩ := dr_eq (PR := PR) (dr := dr) h hc0 hcu h7 hS hp j
  refine ⟨fun c f hc hf => ?_, ?_, ?_, h.2.2.2.1, b1, fun k hk => ?_⟩
  · have h7d := h7 c (by omega)
    unfold dnw
    rw [va_up_ne _ _ (by omega)]; exact e1 c f hc hf
  · unfold dnw
    rw [va_up_ne _ _ (by decide)]; exact e24
  · unfold dnw
    rw [va_up_same, e2]
  · unfold dnw
    rw [va_up_ne _ _ (by omega)]; exact b2 k hk
end DR
theorem smN_mul (a : Nat) (f : Nat → Nat) : ∀ n, smN (fun k => a * f k) n = a * smN f n
  | 0 => by simp [smN]
  | n + 1 => by simp only [smN]; rw [smN_mul a f n, Nat.mul_add]
theorem smN_mulr (a : Nat) (f : Nat → Nat) (n : Nat) : smN (fun k => f k * a) n = smN f n * a := by
  rw [smN_cong (g := fun k => a * f k) (fun k _ => Nat.mul_comm _ _), smN_mul, Nat.mul_comm]
theorem smN_swap (g : Nat → Nat → Nat) (m : Nat) : ∀ n, smN (fun v => smN (fun f => g v f) m) n = smN (fun f => smN (fun v => g v f) n) m
  | 0 => by
    simp only [smN]
    rw [smN_zero]
  | n + 1 => by
    simp only [smN]
    rw [smN_swap g m n, ← smN_add]
theorem smN_shift (W T : Nat → Nat) (a : Nat) : ∀ n, smN (fun u => (if a ≤ u then W (u - a) else 0) * T u) (n + a) = smN (fun v => W v * T (v + a)) n
  | 0 => by
    rw [Nat.zero_add, smN_cong (g := fun _ => 0) (fun k hk => by rw [if_neg (by omega), Nat.zero_mul]), smN_zero]; rfl
  | n + 1 => by
    rw [show n + 1 + a = (n + a) + 1 by omega]
    simp only [smN]
    rw [smN_shift W T a n, if_pos (by omega), Nat.add_sub_cancel]
theorem smN_ext (F : Nat → Nat) {n : Nat} : ∀ m, (∀ k, n ≤ k → F k = 0) → smN F (n + m) = smN F n
  | 0, _ => rfl
  | m + 1, h => by
    show smN F (n + m) + F (n + m) = _
    rw [smN_ext F m h, h _ (by omega)]; rfl
theorem wsN_neg (SC NF : Nat → Nat) (lost cu : Nat) : ∀ (n c : Nat) (s : Int), s < 0 → wsN SC NF lost cu n c s = 0
  | 0, _, s, h => by rw [wsN, if_neg (by omega)]
  | n + 1, c, s, h => by
    rw [wsN]
    split
    · split
      · exact wsN_neg SC NF lost cu n (c + 1) s h
      · rw [smN_cong (g := fun _ => 0) (fun k _ => wsN_neg SC NF lost cu n (c + 1) _ (by omega)), smN_zero]
    · rw [if_neg (by omega)]
section WS
variable {cu lost cost : Nat} {SC mSC NF NW : Nat → Nat}
theorem ws_conv (h : stR cu SC NF NW lost cost) (hcu : cu ≤ 4) (h7 : ∀ k, k < 4 → SC k < 7) (hS : ∀ k, k < cu → mSC k = SC k) {s : Nat} (hs : s ≤ 36) : ∀ c, c ≤ cu → smN (fun v => wyC mSC NW lost c v * wsN SC NF lost cu (4 - c) c ((s : Int) - (v : Int))) 37 = wsN SC NF lost cu 4 0 (s : Int)
  | 0, _ => by
    rw [smN_cong (g := fun v => if v = 0 then wsN SC NF lost cu 4 0 (s : Int) else 0) (fun k _ => by
      rw [wyC]
      by_cases hk : k = 0
      · subst hk; simp
      · simp [hk])]
    exact smN_one (by decide)
  | c + 1, hc => by
    rw [← ws_conv h hcu h7 hS hs c (by omega)]
    have e4 : 4 - c = (4 - (c + 1)) + 1 := by omega
    rw [e4]
    cases hl : lost.testBit c with
    | true =>
      refine smN_cong (fun v _ => ?_)
      rw [wsN_l (by omega) hl, wyC, hl]; rfl
    | false =>
      have hcl : c < cu := by omega
      have h7c := h7 c (by omega)
      have hL : smN (fun v => wyC mSC NW lost c v * wsN SC NF lost cu (4 - (c + 1) + 1) c ((s : Int) - (v : Int))) 37 = smN (fun f => smN (fun v => wyC mSC NW lost c v * wsN SC NF lost cu (4 - (c + 1)) (c + 1) ((s : Int) - ((v + NF (c * 6 + f) : Nat) : Int))) 37) (SC c) := by
        rw [← smN_swap]
        refine smN_cong (fun v _ => ?_)
        rw [wsN_s hcl hl, ← smN_mul]
        refine smN_cong (fun f _ => ?_)
        rw [show (s : Int) - (v : Int) - (NF (c * 6 + f) : Int) = (s : Int) - ((v + NF (c * 6 + f) : Nat) : Int) by omega]
      have hR : ∀ f, f < SC c → smN (fun v => wyC mSC NW lost c v * wsN SC NF lost cu (4 - (c + 1)) (c + 1) ((s : Int) - ((v + NF (c * 6 + f) : Nat) : Int))) 37 = smN (fun u => (if NF (c * 6 + f) ≤ u then wyC mSC NW lost c (u - NF (c * 6 + f)) else 0) * wsN SC NF lost cu (4 - (c + 1)) (c + 1) ((s : Int) - (u : Int))) 37 := by
        intro f hf
        rw [← smN_shift (wyC mSC NW lost c) (fun u => wsN SC NF lost cu (4 - (c + 1)) (c + 1) ((s : Int) - (u : Int))) (NF (c * 6 + f)) 37]
        exact smN_ext _ _ (fun k hk => by
          show _ * wsN SC NF lost cu (4 - (c + 1)) (c + 1) ((s : Int) - (k : Int)) = 0
          rw [wsN_neg SC NF lost cu _ _ _ (by omega), Nat.mul_zero])
      rw [hL, smN_cong hR, ← smN_swap]
      refine smN_cong (fun v _ => ?_)
      rw [smN_mulr, wyC, hl, hS c hcl]
      simp only [Bool.false_eq_true, if_false]
      congr 1
      exact smN_cong (fun f hf => by rw [h.1 c f hcl hf])
theorem ws_eq (h : stR cu SC NF NW lost cost) (hcu : cu ≤ 4) (h7 : ∀ k, k < 4 → SC k < 7) (hS : ∀ k, k < cu → mSC k = SC k) {s : Nat} (hs : s ≤ 36) : wyC mSC NW lost cu s = wsN SC NF lost cu 4 0 (s : Int) := by
  rw [← ws_conv h hcu h7 hS hs cu (Nat.le_refl _)]
  rw [smN_cong (g := fun v => if v = s then wyC mSC NW lost cu v else 0) (fun k _ => by
    rw [wsN_e (Nat.le_refl _)]
    by_cases hk : k = s
    · subst hk; simp
    · rw [if_neg (by omega), if_neg hk, Nat.mul_zero])]
  exact (smN_pick (c := fun v => wyC mSC NW lost cu v) (by omega)).symm
end WS
/-- the ring of the class against the rows of the reference -/
def paR (cu : Nat) (SC : Nat → Nat) (psz pnx : Nat) (QL QC : Nat → Nat) (QF : Nat → Nat → Nat) (PA : Nat → Nat) : Prop := ∀ i, i < psz → stR cu SC (QF ((pnx + 20 - psz + i) % 20)) (fun k => PA (26 * i + k)) (QL ((pnx + 20 - psz + i) % 20)) (QC ((pnx + 20 - psz + i) % 20))
section PA
variable {cu lost cost psz pnx : Nat} {SC NF NW QL QC PA : Nat → Nat} {QF : Nat → Nat → Nat}
theorem paR_rem (hcu : cu ≤ 4) (h7 : ∀ k, k < 4 → SC k < 7) (hs : psz ≤ 20) (hn : pnx < 20) (h : stR cu SC NF NW lost cost) (hp : paR cu SC psz pnx QL QC QF PA) : paR cu SC (min (psz + 1) 20) ((pnx + 1) % 20) (va_up QL pnx lost) (va_up QC pnx cost) (va_up QF pnx NF) (rmP PA NW psz) := by
  intro i hi
  by_cases h20 : psz = 20
  · subst h20
    by_cases h19 : i = 19
    · have e : ((pnx + 1) % 20 + 20 - min (20 + 1) 20 + i) % 20 = pnx := by omega
      rw [e, va_up_same, va_up_same, va_up_same]
      refine stR_cg hcu h7 h (fun k hk => ?_)
      show rmP PA NW 20 (26 * i + k) = NW k
      unfold rmP
      rw [if_pos rfl, if_neg (by omega), show 26 * i + k - 494 = k by omega]
    · have e : ((pnx + 1) % 20 + 20 - min (20 + 1) 20 + i) % 20 = (pnx + 20 - 20 + (i + 1)) % 20 := by omega
      have hne : ¬ (pnx + 20 - 20 + (i + 1)) % 20 = pnx := by omega
      rw [e, va_up_ne _ _ hne, va_up_ne _ _ hne, va_up_ne _ _ hne]
      refine stR_cg hcu h7 (hp (i + 1) (by omega)) (fun k hk => ?_)
      show rmP PA NW 20 (26 * i + k) = PA (26 * (i + 1) + k)
      unfold rmP
      rw [if_pos rfl, if_pos (by omega), show 26 * i + k + 26 = 26 * (i + 1) + k by omega]
  · by_cases hl : i = psz
    · have e : ((pnx + 1) % 20 + 20 - min (psz + 1) 20 + i) % 20 = pnx := by omega
      rw [e, va_up_same, va_up_same, va_up_same]
      refine stR_cg hcu h7 h (fun k hk => ?_)
      show rmP PA NW psz (26 * i + k) = NW k
      unfold rmP
      rw [if_neg h20, if_neg (by omega), if_pos (by omega), show 26 * i + k - 26 * psz = k by omega]
    · have e : ((pnx + 1) % 20 + 20 - min (psz + 1) 20 + i) % 20 = (pnx + 20 - psz + i) % 20 := by omega
      have hne : ¬ (pnx + 20 - psz + i) % 20 = pnx := by omega
      rw [e, va_up_ne _ _ hne, va_up_ne _ _ hne, va_up_ne _ _ hne]
      refine stR_cg hcu h7 (hp i (by omega)) (fun k hk => ?_)
      show rmP PA NW psz (26 * i + k) = PA (26 * i + k)
      unfold rmP
      rw [if_neg h20, if_pos (by omega)]
theorem paR_und (hs : psz ≤ 20) (hn : pnx < 20) (h0 : 0 < psz) (hp : paR cu SC psz pnx QL QC QF PA) : stR cu SC (QF ((pnx + 20 - 1) % 20)) (fun k => PA (26 * (psz - 1) + k)) (QL ((pnx + 20 - 1) % 20)) (QC ((pnx + 20 - 1) % 20)) ∧ paR cu SC (psz - 1) ((pnx + 20 - 1) % 20) QL QC QF PA := by
  refine ⟨?_, fun i hi => ?_⟩
  · have h := hp (psz - 1) (by omega)
    rw [show (pnx + 20 - psz + (psz - 1)) % 20 = (pnx + 20 - 1) % 20 by omega] at h
    exact h
  · have h := hp i (by omega)
    rw [show ((pnx + 20 - 1) % 20 + 20 - (psz - 1) + i) % 20 = (pnx + 20 - psz + i) % 20 by omega]
    exact h
end PA
