/-! the class and the reference: the same numbers -/
def stR (cu : Nat) (SC NF NW : Nat → Nat) (lost cost : Nat) : Prop := (∀ c f, c < cu → f < SC c → NW (6 * c + f) = NF (c * 6 + f)) ∧ NW 24 = lost ∧ NW 25 = cost ∧ lost < 16 ∧ (∀ k, k < 24 → NF k < 10) ∧ ∀ k, k < 24 → NW k < 10
theorem nwU_at {NW : Nat → Nat} {c f g : Nat} : nwU NW c f g (6 * c + f) = g := va_up_same _ _ _
theorem nwU_ne {NW : Nat → Nat} {c f g k : Nat} (h : ¬ k = 6 * c + f) : nwU NW c f g k = NW k := va_up_ne _ _ h
section EQ
variable {cu lost cost : Nat} {SC mSC TV NF NW : Nat → Nat}
theorem seenM_eq (h : stR cu SC NF NW lost cost) (hcu : cu ≤ 4) (h7 : ∀ k, k < 4 → SC k < 7) {c : Nat} (hc : c < cu) : ∀ j, j ≤ SC c → seenM TV NW c j = seenN TV NF c (-1) j
  | 0, _ => rfl
  | j + 1, hj => by
    have h6 := h7 c (by omega)
    have ih := seenM_eq h hcu h7 hc j (by omega)
    have e := h.1 c j hc (by omega)
    have h10 := h.2.2.2.2.1 (c * 6 + j) (by omega)
    simp only [seenM, seenN]
    rw [e, if_neg (by omega), if_neg (by omega), ih]
theorem seenM_up (h : stR cu SC NF NW lost cost) (hcu : cu ≤ 4) (h7 : ∀ k, k < 4 → SC k < 7) {c f g : Nat} (hc : c < cu) (hf : f < SC c) (hg : g < 10) : ∀ j, j ≤ SC c → seenM TV (nwU NW c f g) c j = if f < j then seenN TV NF c (f : Int) j ||| both TV g else seenN TV NF c (f : Int) j
  | 0, _ => by simp [seenM, seenN]
  | j + 1, hj => by
    have h6 := h7 c (by omega)
    have ih := seenM_up h hcu h7 hc hf hg j (by omega)
    have e := h.1 c j hc (by omega)
    have h10 := h.2.2.2.2.1 (c * 6 + j) (by omega)
    simp only [seenM, seenN]
    by_cases hjf : j = f
    · subst hjf
      rw [nwU_at, if_neg (by omega), ih, if_neg (by omega), if_pos (by omega), if_pos rfl]
    · rw [nwU_ne (show ¬ 6 * c + j = 6 * c + f by omega), e, if_neg (by omega), ih, if_neg (show ¬ (j : Int) = (f : Int) by omega)]
      by_cases h2 : f < j
      · rw [if_pos h2, if_pos (by omega), Nat.or_assoc, Nat.or_comm (both TV g), ← Nat.or_assoc]
      · rw [if_neg h2, if_neg (by omega)]
theorem seenM_bl (h : stR cu SC NF NW lost cost) (hcu : cu ≤ 4) (h7 : ∀ k, k < 4 → SC k < 7) {c f : Nat} (hc : c < cu) (hf : f < SC c) : ∀ j, j ≤ SC c → seenM TV (nwU NW c f 10) c j = seenN TV NF c (f : Int) j
  | 0, _ => by simp [seenM, seenN]
  | j + 1, hj => by
    have h6 := h7 c (by omega)
    have ih := seenM_bl h hcu h7 hc hf j (by omega)
    have e := h.1 c j hc (by omega)
    have h10 := h.2.2.2.2.1 (c * 6 + j) (by omega)
    simp only [seenM, seenN]
    by_cases hjf : j = f
    · subst hjf
      rw [nwU_at, if_pos rfl, ih, if_pos rfl]
    · rw [nwU_ne (show ¬ 6 * c + j = 6 * c + f by omega), e, if_neg (by omega), ih, if_neg (show ¬ (j : Int) = (f : Int) by omega)]
theorem seenM_ot {c f g i : Nat} (hf : f < 6) (hi : ¬ i = c) : ∀ j, j ≤ 6 → seenM TV (nwU NW c f g) i j = seenM TV NW i j
  | 0, _ => rfl
  | j + 1, hj => by
    have ih := seenM_ot (g := g) hf hi j (by omega)
    simp only [seenM]
    rw [nwU_ne (show ¬ 6 * i + j = 6 * c + f by omega), ih]
theorem shM_eq (h : stR cu SC NF NW lost cost) (hcu : cu ≤ 4) (h7 : ∀ k, k < 4 → SC k < 7) (hS : ∀ k, k < cu → mSC k = SC k) (i : Nat) : shM TV mSC NW cu i = shN lost SC TV NF cu i := by
  unfold shM shN lz
  by_cases hc : i < cu
  · rw [if_pos hc, h.2.1, hS i hc]
    cases hl : lost.testBit i with
    | true => simp
    | false => simp [hc]; exact seenM_eq h hcu h7 hc _ (Nat.le_refl _)
  · rw [if_neg hc]; simp [hc]
theorem shM_up (h : stR cu SC NF NW lost cost) (hcu : cu ≤ 4) (h7 : ∀ k, k < 4 → SC k < 7) (hS : ∀ k, k < cu → mSC k = SC k) {c f g : Nat} (hc : c < cu) (hf : f < SC c) (hg : g < 10) (i : Nat) : shM TV mSC (nwU NW c f g) cu i = va_up (shN lost SC TV NF cu) c (lz lost c (seen SC TV NF c (f : Int) ||| both TV g)) i := by
  have h6 := h7 c (by omega)
  have e24 : nwU NW c f g 24 = lost := (nwU_24 (by omega) (by omega)).trans h.2.1
  by_cases hi : i = c
  · subst hi
    rw [va_up_same]
    unfold shM lz
    rw [e24, hS i hc]
    cases hl : lost.testBit i with
    | true => simp
    | false => simp [hc]; rw [seenM_up h hcu h7 hc hf hg _ (Nat.le_refl _), if_pos hf]; rfl
  · rw [va_up_ne _ _ hi, ← shM_eq (TV := TV) h hcu h7 hS i]
    unfold shM
    rw [e24, h.2.1]
    by_cases hic : i < cu
    · rw [hS i hic, seenM_ot (by omega) hi _ (by have := h7 i (by omega); omega)]
    · simp [hic]
theorem shM_bl (h : stR cu SC NF NW lost cost) (hcu : cu ≤ 4) (h7 : ∀ k, k < 4 → SC k < 7) (hS : ∀ k, k < cu → mSC k = SC k) {c f : Nat} (hc : c < cu) (hf : f < SC c) (i : Nat) : shM TV mSC (nwU NW c f 10) cu i = va_up (shN lost SC TV NF cu) c (lz lost c (seen SC TV NF c (f : Int))) i := by
  have h6 := h7 c (by omega)
  have e24 : nwU NW c f 10 24 = lost := (nwU_24 (by omega) (by omega)).trans h.2.1
  by_cases hi : i = c
  · subst hi
    rw [va_up_same]
    unfold shM lz
    rw [e24, hS i hc]
    cases hl : lost.testBit i with
    | true => simp
    | false => simp [hc]; exact seenM_bl h hcu h7 hc hf _ (Nat.le_refl _)
  · rw [va_up_ne _ _ hi, ← shM_eq (TV := TV) h hcu h7 hS i]
    unfold shM
    rw [e24, h.2.1]
    by_cases hic : i < cu
    · rw [hS i hic, seenM_ot (by omega) hi _ (by have := h7 i (by omega); omega)]
    · simp [hic]
end EQ
theorem canS_fn {s1 s2 : Nat → Nat} (h : ∀ c, s1 c = s2 c) (hn : Bool) (e : Nat) : canS hn e s1 = canS hn e s2 := by
  funext d; exact canS_cong (fun c _ => h c) hn e d
theorem okS_fn {lost cu : Nat} {SC mSC : Nat → Nat} (hS : ∀ k, k < cu → mSC k = SC k) : okS lost cu mSC = okS lost cu SC := by
  funext c f
  unfold okS
  by_cases h : c < cu
  · rw [hS c h]
  · simp [h]
theorem wfold_cg {q q' : Nat → Nat → Nat} {ok : Nat → Nat → Bool} (h : ∀ c f, ok c f = true → q c f = q' c f) : ∀ k, wfold q ok k = wfold q' ok k
  | 0 => rfl
  | k + 1 => by
    simp only [wfold]
    rw [wfold_cg h k]
    by_cases h1 : ok (k / 6) (k % 6) = true
    · rw [h _ _ h1]
    · rw [if_neg (fun h9 => h1 h9.1), if_neg (fun h9 => h1 h9.1)]
theorem fsTo_cg {p p' : Nat → Nat → Bool} {ok : Nat → Nat → Bool} (h : ∀ c f, ok c f = true → p c f = p' c f) : ∀ n k, fsTo p ok k n = fsTo p' ok k n
  | 0, _ => rfl
  | n + 1, k => by
    simp only [fsTo]
    rw [fsTo_cg h n (k + 1)]
    by_cases h1 : ok (k / 6) (k % 6) = true
    · rw [h _ _ h1]
    · rw [if_neg (fun h9 => h1 h9.1), if_neg (fun h9 => h1 h9.1)]
theorem insS_cg {q q' PR : Nat → Nat} : ∀ j, (∀ i, i < j → q i = q' i) → insS q PR j = insS q' PR j
  | 0, _ => rfl
  | j + 1, h => by
    simp only [insS]
    rw [insS_cg j (fun i hi => h i (by omega)), h j (by omega)]
theorem chS_cg {fs fs' : Nat → Int} {PR : Nat → Nat} : ∀ j, (∀ i, i < j → fs i = fs' i) → chS fs PR j = chS fs' PR j
  | 0, _ => rfl
  | j + 1, h => by
    simp only [chS]
    rw [chS_cg j (fun i hi => h i (by omega)), h j (by omega)]
theorem agr_cg {hn : Bool} {e : Nat} {s1 s2 WD : Nat → Nat} {WS : Nat → Bool} (h : ∀ c, s1 c = s2 c) : ∀ n, agr hn e s1 WD WS n = agr hn e s2 WD WS n
  | 0 => rfl
  | n + 1 => by simp only [agr]; rw [agr_cg h n, canS_fn h]
theorem sgK_cg {fits : Nat → Bool} {p p' : Nat → Nat → Bool} {lo e : Nat} (h : ∀ k, fits k = true → p k = p' k) : ∀ k, sgK fits p lo e k = sgK fits p' lo e k
  | 0 => rfl
  | k + 1 => by
    simp only [sgK]
    rw [sgK_cg h k]
    by_cases h1 : fits k = true
    · rw [h k h1]
    · rw [if_neg h1, if_neg h1]
section EQ2
variable {cu lost cost : Nat} {SC mSC TV NF NW : Nat → Nat} {hn : Bool} {e : Nat} {WD : Nat → Nat} {WS : Nat → Bool} {wn : Nat}
theorem susp_eq (h : stR cu SC NF NW lost cost) (hS : ∀ k, k < cu → mSC k = SC k) (k : Nat) : suspM cu mSC NW k = susp cu SC NF k := by
  unfold suspM susp
  by_cases h1 : k / 60 < cu
  · rw [hS _ h1]
    by_cases h2 : k / 10 % 6 < SC (k / 60)
    · rw [h.1 _ _ h1 h2]
    · simp [h2]
  · simp [h1]
theorem shK_eq (h : stR cu SC NF NW lost cost) (hcu : cu ≤ 4) (h7 : ∀ k, k < 4 → SC k < 7) (hS : ∀ k, k < cu → mSC k = SC k) {k : Nat} (hs : susp cu SC NF k = true) (i : Nat) : shK TV mSC NW cu k i = trS lost cu SC TV NF (shN lost SC TV NF cu) k i := by
  rw [trS, if_pos hs]
  unfold susp at hs
  simp only [Bool.and_eq_true, decide_eq_true_eq] at hs
  exact shM_up h hcu h7 hS hs.1 hs.2.1 (by omega) i
theorem fit_eq (h : stR cu SC NF NW lost cost) (hcu : cu ≤ 4) (h7 : ∀ k, k < 4 → SC k < 7) (hS : ∀ k, k < cu → mSC k = SC k) : fitM hn e TV mSC NW cu WD WS wn = fitS hn e lost cu SC TV NF (shN lost SC TV NF cu) WD WS wn := by
  funext k
  unfold fitM fitS
  rw [susp_eq h hS k]
  cases hs : susp cu SC NF k with
  | false => rfl
  | true => rw [agr_cg (shK_eq h hcu h7 hS hs)]
end EQ2
