/-! pairs of sets: the days that both show, by sums -/
theorem smN_pick {c : Nat → Nat} {i n : Nat} (h : i < n) : smN (fun k => if k = i then c k else 0) n = c i := by
  rw [smN_cong (g := fun k => if k = i then c i else 0) (fun k _ => by by_cases e : k = i <;> simp [e])]
  exact smN_one h
theorem alF_add (X : Nat) (S s : Nat → Nat) : alF X (fun g => S g + s g) = alF X S + alF X s := by
  unfold alF; rw [← smN_add]; exact smN_cong (fun k _ => Nat.mul_add _ _ _)
theorem adF_add (X : Nat) (S s T t : Nat → Nat) (g : Nat) : adF X (fun g => S g + s g) (fun k => T k + t k) g = adF X S T g + adF X s t g := by
  simp only [adF]
  rw [smN_cong (g := fun o => (X.testBit o).toNat * T (g * 10 + o) + (X.testBit o).toNat * t (g * 10 + o)) (fun k _ => Nat.mul_add _ _ _), smN_add]
  omega
def yyF (X Y : Nat) (S T : Nat → Nat) : Nat := smN (fun g => (Y.testBit g).toNat * adF X S T g) 10
theorem yyF_add (X Y : Nat) (S s T t : Nat → Nat) : yyF X Y (fun g => S g + s g) (fun k => T k + t k) = yyF X Y S T + yyF X Y s t := by
  unfold yyF; rw [← smN_add]; exact smN_cong (fun k _ => by rw [adF_add, Nat.mul_add])
theorem dblF_add (Z : Nat) (S s T t : Nat → Nat) : dblF (fun g => S g + s g) (fun k => T k + t k) Z = dblF S T Z + dblF s t Z := by
  simp only [dblF]; rw [← smN_add]
  refine smN_cong (fun g _ => ?_)
  rw [smTo_cong (g := fun h => (Z.testBit h).toNat * T (g * 10 + h) + (Z.testBit h).toNat * t (g * 10 + h)) (fun k _ _ => Nat.mul_add _ _ _), smTo_add, ← Nat.mul_add]
  congr 1; omega
def shP (TV : Nat → Nat) (hn : Bool) (e X Y x : Nat) : Bool := if hasTwo hn e x then (X.testBit (les TV (x / 10)) && Y.testBit (les TV (x % 10)) || Y.testBit (les TV (x / 10)) && X.testBit (les TV (x % 10))) else (X ||| Y).testBit (les TV (x % 10))
theorem one_1 {X Y l : Nat} (hl : l < 10) (s t : Nat → Nat) (hs : ∀ g, s g = if g = l then 1 else 0) (ht : ∀ k, t k = 0) : alF X s + yyF X Y s t = ((X ||| Y).testBit l).toNat + dblF s t (X &&& Y) := by
  have h1 : alF X s = (X.testBit l).toNat := by
    unfold alF
    rw [smN_cong (g := fun g => if g = l then (X.testBit g).toNat else 0) (fun k _ => by rw [hs]; by_cases e : k = l <;> simp [e])]
    exact smN_pick hl
  have h2 : yyF X Y s t = (Y.testBit l).toNat := by
    unfold yyF adF
    rw [smN_cong (g := fun g => if g = l then (Y.testBit g).toNat else 0) (fun k _ => by
      rw [hs, smN_cong (g := fun _ => 0) (fun o _ => by rw [ht]; simp), smN_zero]
      by_cases e : k = l <;> simp [e])]
    exact smN_pick hl
  have h3 : dblF s t (X &&& Y) = ((X &&& Y).testBit l).toNat := by
    unfold dblF
    rw [smN_cong (g := fun g => if g = l then ((X &&& Y).testBit g).toNat else 0) (fun k _ => by
      rw [hs, smTo_cong (g := fun _ => 0) (fun o _ _ => by rw [ht]; simp), smTo_zero]
      by_cases e : k = l <;> simp [e])]
    exact smN_pick hl
  rw [h1, h2, h3, Nat.testBit_or, Nat.testBit_and]
  cases X.testBit l <;> cases Y.testBit l <;> rfl
theorem one_2 {X Y f l : Nat} (hf : f < 10) (hl : l < 10) (s t : Nat → Nat) (hs : ∀ g, s g = 0) (ht : ∀ g o, g < 10 → o < 10 → t (g * 10 + o) = if (g = f ∧ o = l) ∨ (g = l ∧ o = f) then 1 else 0) : alF X s + yyF X Y s t = (X.testBit f && Y.testBit l || Y.testBit f && X.testBit l).toNat + dblF s t (X &&& Y) := by
  have h1 : alF X s = 0 := by
    unfold alF
    rw [smN_cong (g := fun _ => 0) (fun k _ => by rw [hs]; simp), smN_zero]
  have had : ∀ g, g < 10 → adF X s t g = if f = l then (if g = f then (X.testBit f).toNat else 0) else (if g = f then (X.testBit l).toNat else 0) + (if g = l then (X.testBit f).toNat else 0) := by
    intro g hg
    unfold adF
    rw [hs, Nat.zero_add]
    by_cases e1 : g = f
    · by_cases e2 : f = l
      · rw [if_pos e2, if_pos e1]
        rw [smN_cong (g := fun o => if o = f then (X.testBit o).toNat else 0) (fun o ho => by
          rw [ht g o hg ho]
          by_cases e3 : o = f
          · rw [if_pos e3, if_pos (Or.inl ⟨e1, by omega⟩)]; simp
          · rw [if_neg e3, if_neg (by omega)]; simp)]
        exact smN_pick hf
      · rw [if_neg e2, if_pos e1, if_neg (by omega), Nat.add_zero]
        rw [smN_cong (g := fun o => if o = l then (X.testBit o).toNat else 0) (fun o ho => by
          rw [ht g o hg ho]
          by_cases e3 : o = l
          · rw [if_pos e3, if_pos (Or.inl ⟨e1, e3⟩)]; simp
          · rw [if_neg e3, if_neg (by omega)]; simp)]
        exact smN_pick hl
    · by_cases e2 : g = l
      · rw [if_neg (by omega), if_neg e1, if_pos e2, Nat.zero_add]
        rw [smN_cong (g := fun o => if o = f then (X.testBit o).toNat else 0) (fun o ho => by
          rw [ht g o hg ho]
          by_cases e3 : o = f
          · rw [if_pos e3, if_pos (Or.inr ⟨e2, e3⟩)]; simp
          · rw [if_neg e3, if_neg (by omega)]; simp)]
        exact smN_pick hf
      · rw [smN_cong (g := fun _ => 0) (fun o ho => by rw [ht g o hg ho, if_neg (by omega)]; simp), smN_zero]
        simp [e1, e2]
  have h2 : yyF X Y s t = if f = l then (Y.testBit f).toNat * (X.testBit f).toNat else (Y.testBit f).toNat * (X.testBit l).toNat + (Y.testBit l).toNat * (X.testBit f).toNat := by
    unfold yyF
    by_cases e2 : f = l
    · rw [if_pos e2]
      rw [smN_cong (g := fun g => if g = f then (Y.testBit g).toNat * (X.testBit f).toNat else 0) (fun g hg => by
        rw [had g hg, if_pos e2]; by_cases e : g = f <;> simp [e])]
      exact smN_pick hf
    · rw [if_neg e2]
      rw [smN_cong (g := fun g => (if g = f then (Y.testBit g).toNat * (X.testBit l).toNat else 0) + (if g = l then (Y.testBit g).toNat * (X.testBit f).toNat else 0)) (fun g hg => by
        rw [had g hg, if_neg e2, Nat.mul_add]
        congr 1
        · by_cases e : g = f <;> simp [e]
        · by_cases e : g = l <;> simp [e]), smN_add, smN_pick (c := fun g => (Y.testBit g).toNat * (X.testBit l).toNat) hf, smN_pick (c := fun g => (Y.testBit g).toNat * (X.testBit f).toNat) hl]
  have h3 : dblF s t (X &&& Y) = if f = l then 0 else ((X &&& Y).testBit f).toNat * ((X &&& Y).testBit l).toNat := by
    unfold dblF
    have hin : ∀ g, g < 10 → smTo (fun h => ((X &&& Y).testBit h).toNat * t (g * 10 + h)) (g + 1) 10 = (if g = f ∧ f < l then ((X &&& Y).testBit l).toNat else 0) + (if g = l ∧ l < f then ((X &&& Y).testBit f).toNat else 0) := by
      intro g hg
      by_cases e1 : g = f ∧ f < l
      · rw [if_pos e1, if_neg (by omega), Nat.add_zero]
        rw [smTo_cong (g := fun h => if h = l then ((X &&& Y).testBit l).toNat else 0) (fun h _ h2 => by
          rw [ht g h hg h2]
          by_cases e3 : h = l
          · rw [if_pos e3, if_pos (Or.inl ⟨e1.1, e3⟩), e3]; simp
          · rw [if_neg e3, if_neg (by omega)]; simp)]
        exact smTo_one (by omega) hl
      · by_cases e2 : g = l ∧ l < f
        · rw [if_neg e1, if_pos e2, Nat.zero_add]
          rw [smTo_cong (g := fun h => if h = f then ((X &&& Y).testBit f).toNat else 0) (fun h _ h2 => by
            rw [ht g h hg h2]
            by_cases e3 : h = f
            · rw [if_pos e3, if_pos (Or.inr ⟨e2.1, e3⟩), e3]; simp
            · rw [if_neg e3, if_neg (by omega)]; simp)]
          exact smTo_one (by omega) hf
        · rw [if_neg e1, if_neg e2]
          rw [smTo_cong (g := fun _ => 0) (fun h h1 h2 => by rw [ht g h hg h2, if_neg (by omega)]; simp), smTo_zero]
    rcases Nat.lt_trichotomy f l with c | c | c
    · rw [if_neg (by omega)]
      rw [smN_cong (g := fun g => if g = f then ((X &&& Y).testBit g).toNat * ((X &&& Y).testBit l).toNat else 0) (fun g hg => by
        rw [hin g hg, hs]
        by_cases e : g = f
        · rw [if_pos ⟨e, c⟩, if_neg (by omega), if_pos e]; simp
        · rw [if_neg (by omega), if_neg (by omega), if_neg e]; simp)]
      exact smN_pick hf
    · rw [if_pos c]
      rw [smN_cong (g := fun _ => 0) (fun g hg => by rw [hin g hg, hs, if_neg (by omega), if_neg (by omega)]; simp), smN_zero]
    · rw [if_neg (by omega)]
      rw [smN_cong (g := fun g => if g = l then ((X &&& Y).testBit f).toNat * ((X &&& Y).testBit g).toNat else 0) (fun g hg => by
        rw [hin g hg, hs]
        by_cases e : g = l
        · rw [if_neg (by omega), if_pos ⟨e, c⟩, if_pos e, Nat.mul_comm]; simp
        · rw [if_neg (by omega), if_neg (by omega), if_neg e]; simp)]
      exact smN_pick hl
  rw [h1, h2, h3, Nat.testBit_and, Nat.testBit_and]
  by_cases e : f = l
  · subst e
    simp only [if_true]
    cases X.testBit f <;> cases Y.testBit f <;> rfl
  · simp only [e, if_false]
    cases X.testBit f <;> cases Y.testBit f <;> cases X.testBit l <;> cases Y.testBit l <;> rfl
theorem pair_id (TV : Nat → Nat) (hn : Bool) (e lo X Y : Nat) : ∀ n, lo + n ≤ 100 → alF X (sgD TV hn e lo (lo + n)) + yyF X Y (sgD TV hn e lo (lo + n)) (twD TV hn e lo (lo + n)) = cntTo (shP TV hn e X Y) lo (lo + n) + dblF (sgD TV hn e lo (lo + n)) (twD TV hn e lo (lo + n)) (X &&& Y)
  | 0, _ => by
    have z1 : sgD TV hn e lo (lo + 0) = fun _ => 0 := by funext g; simp [sgD, cntTo_0]
    have z2 : twD TV hn e lo (lo + 0) = fun _ => 0 := by funext g; simp [twD, cntTo_0]
    rw [z1, z2]
    simp only [Nat.add_zero, cntTo_0]
    have a1 : alF X (fun _ => 0) = 0 := by unfold alF; rw [smN_cong (g := fun _ => 0) (fun k _ => by simp), smN_zero]
    have a2 : yyF X Y (fun _ => 0) (fun _ => 0) = 0 := by
      unfold yyF adF
      rw [smN_cong (g := fun _ => 0) (fun k _ => by rw [smN_cong (g := fun _ => 0) (fun o _ => by simp), smN_zero]; simp), smN_zero]
    have a3 : dblF (fun _ => 0) (fun _ => 0) (X &&& Y) = 0 := by
      unfold dblF
      rw [smN_cong (g := fun _ => 0) (fun k _ => by rw [smTo_cong (g := fun _ => 0) (fun o _ _ => by simp), smTo_zero]; simp), smN_zero]
    rw [a1, a2, a3]
  | n + 1, h => by
    have ih := pair_id TV hn e lo X Y n (by omega)
    have hle : lo ≤ lo + n := by omega
    have z1 : sgD TV hn e lo (lo + (n + 1)) = fun g => sgD TV hn e lo (lo + n) g + (sgP TV hn e g (lo + n)).toNat := by
      funext g; exact cntTo_s _ hle
    have z2 : twD TV hn e lo (lo + (n + 1)) = fun k => twD TV hn e lo (lo + n) k + (twP TV hn e k (lo + n)).toNat := by
      funext g; exact cntTo_s _ hle
    have z3 : cntTo (shP TV hn e X Y) lo (lo + (n + 1)) = cntTo (shP TV hn e X Y) lo (lo + n) + (shP TV hn e X Y (lo + n)).toNat := cntTo_s _ hle
    have hl := les_lt (TV := TV) (show (lo + n) % 10 < 10 by omega)
    have hf := les_lt (TV := TV) (show (lo + n) / 10 < 10 by omega)
    have one : alF X (fun g => (sgP TV hn e g (lo + n)).toNat) + yyF X Y (fun g => (sgP TV hn e g (lo + n)).toNat) (fun k => (twP TV hn e k (lo + n)).toNat) = (shP TV hn e X Y (lo + n)).toNat + dblF (fun g => (sgP TV hn e g (lo + n)).toNat) (fun k => (twP TV hn e k (lo + n)).toNat) (X &&& Y) := by
      cases ht : hasTwo hn e (lo + n) with
      | false =>
        have e1 : shP TV hn e X Y (lo + n) = (X ||| Y).testBit (les TV ((lo + n) % 10)) := by simp [shP, ht]
        rw [e1]
        refine one_1 hl _ _ (fun g => ?_) (fun k => by simp [twP, ht])
        by_cases eg : g = les TV ((lo + n) % 10)
        · simp [sgP, ht, eg]
        · have : ¬ les TV ((lo + n) % 10) = g := fun h => eg h.symm
          simp [sgP, ht, eg, this]
      | true =>
        have e1 : shP TV hn e X Y (lo + n) = (X.testBit (les TV ((lo + n) / 10)) && Y.testBit (les TV ((lo + n) % 10)) || Y.testBit (les TV ((lo + n) / 10)) && X.testBit (les TV ((lo + n) % 10))) := by simp [shP, ht]
        rw [e1]
        refine one_2 hf hl _ _ (fun g => by simp [sgP, ht]) (fun g o hg ho => ?_)
        by_cases ec : (g = les TV ((lo + n) / 10) ∧ o = les TV ((lo + n) % 10)) ∨ (g = les TV ((lo + n) % 10) ∧ o = les TV ((lo + n) / 10))
        · rw [if_pos ec]
          have : les TV ((lo + n) / 10) * 10 + les TV ((lo + n) % 10) = g * 10 + o ∨ les TV ((lo + n) % 10) * 10 + les TV ((lo + n) / 10) = g * 10 + o := by omega
          rcases this with h9 | h9 <;> simp [twP, ht, h9]
        · rw [if_neg ec]
          have n1 : ¬ les TV ((lo + n) / 10) * 10 + les TV ((lo + n) % 10) = g * 10 + o := by omega
          have n2 : ¬ les TV ((lo + n) % 10) * 10 + les TV ((lo + n) / 10) = g * 10 + o := by omega
          simp [twP, ht, n1, n2]
    rw [z1, z2, z3, alF_add, yyF_add, dblF_add]
    omega
theorem hlf_all (F : Nat → Nat) {Y : Nat} (hY : Y < 1024) : hlfL F (Y % 32) + hlfH F (Y / 32) = smN (fun g => (Y.testBit g).toNat * F g) 10 := by
  have b1 : ∀ g, g < 5 → (Y % 32).testBit g = Y.testBit g := by
    intro g hg
    rw [show (32 : Nat) = 2 ^ 5 from rfl, Nat.testBit_mod_two_pow]; simp [hg]
  have b2 : ∀ g, (Y / 32).testBit g = Y.testBit (5 + g) := by
    intro g
    rw [show (32 : Nat) = 2 ^ 5 from rfl, Nat.testBit_div_two_pow]; congr 1; omega
  unfold hlfL hlfH
  rw [smN_cong (g := fun g => (Y.testBit g).toNat * F g) (fun k hk => by rw [b1 k hk])]
  simp only [smN, b2, Nat.reduceAdd]
  omega
theorem pair_sum (TV : Nat → Nat) (hn : Bool) {e lo : Nat} (hle : lo ≤ e) (he : e ≤ 100) (X : Nat) {Y : Nat} (hY : Y < 1024) : alF X (sgD TV hn e lo e) + hlfL (adF X (sgD TV hn e lo e) (twD TV hn e lo e)) (Y % 32) + hlfH (adF X (sgD TV hn e lo e) (twD TV hn e lo e)) (Y / 32) = cntTo (shP TV hn e X Y) lo e + dblF (sgD TV hn e lo e) (twD TV hn e lo e) (X &&& Y) := by
  have h1 := pair_id TV hn e lo X Y (e - lo) (by omega)
  rw [show lo + (e - lo) = e by omega] at h1
  have h2 := hlf_all (adF X (sgD TV hn e lo e) (twD TV hn e lo e)) hY
  unfold yyF at h1
  omega
def pstep (tot x y v : Nat) (s : Nat × Int × Nat) : Nat × Int × Nat := (if v = tot then s.1 + 1 else s.1, if v = tot ∧ s.1 = 0 then ((1024 * x + y : Nat) : Int) else s.2.1, max s.2.2 v)
def pinN (tot : Nat) (F : Nat → Nat → Nat) (ST : Nat → Nat) (i : Nat) (s : Nat × Int × Nat) : Nat → Nat × Int × Nat
  | 0 => s
  | m + 1 => pstep tot (ST i) (ST (i + m)) (F (ST i) (ST (i + m))) (pinN tot F ST i s m)
def pin (tot : Nat) (F : Nat → Nat → Nat) (ST : Nat → Nat) (i d : Nat) (s : Nat × Int × Nat) : Nat × Int × Nat := pinN tot F ST i s (d - i)
theorem pin_0 (tot : Nat) (F : Nat → Nat → Nat) (ST : Nat → Nat) (i : Nat) (s : Nat × Int × Nat) : pin tot F ST i i s = s := by simp [pin, pinN]
theorem pin_s {tot : Nat} {F : Nat → Nat → Nat} {ST : Nat → Nat} {i d : Nat} {s : Nat × Int × Nat} (h : i ≤ d) : pin tot F ST i (d + 1) s = pstep tot (ST i) (ST d) (F (ST i) (ST d)) (pin tot F ST i d s) := by
  have e : d + 1 - i = (d - i) + 1 := by omega
  simp only [pin, e, pinN]
  rw [show i + (d - i) = d by omega]
theorem pin_md {F : Nat → Nat → Nat} (h : ∀ X Y, F X Y ≤ 100) (tot : Nat) (ST : Nat → Nat) (i d : Nat) (s : Nat × Int × Nat) (hs : s.2.2 ≤ 100) : (pin tot F ST i d s).2.2 ≤ 100 := by
  unfold pin
  induction (d - i) with
  | zero => exact hs
  | succ m ih =>
    simp only [pinN, pstep]
    have := h (ST i) (ST (i + m))
    omega
def pout (tot : Nat) (F : Nat → Nat → Nat) (ST : Nat → Nat) (sn : Nat) : Nat → Nat × Int × Nat
  | 0 => (0, -1, 0)
  | i + 1 => pin tot F ST i sn (pout tot F ST sn i)
theorem pin_w (tot : Nat) (F : Nat → Nat → Nat) (ST : Nat → Nat) (i d : Nat) (s : Nat × Int × Nat) : (pin tot F ST i d s).1 ≤ s.1 + (d - i) := by
  unfold pin
  induction (d - i) with
  | zero => exact Nat.le_refl _
  | succ m ih =>
    simp only [pinN, pstep]
    split <;> omega
theorem pout_w (tot : Nat) (F : Nat → Nat → Nat) (ST : Nat → Nat) (sn : Nat) : ∀ i, (pout tot F ST sn i).1 ≤ i * sn
  | 0 => Nat.zero_le _
  | i + 1 => by
    have h1 := pout_w tot F ST sn i
    have h2 := pin_w tot F ST i sn (pout tot F ST sn i)
    simp only [pout]
    rw [Nat.succ_mul]
    omega
theorem pout_md {F : Nat → Nat → Nat} (h : ∀ X Y, F X Y ≤ 100) (tot : Nat) (ST : Nat → Nat) (sn : Nat) : ∀ i, (pout tot F ST sn i).2.2 ≤ 100
  | 0 => Nat.zero_le _
  | i + 1 => pin_md h tot ST i sn _ (pout_md h tot ST sn i)
set_option maxHeartbeats 4000000 in
set_option maxRecDepth 100000 in
theorem c_X2_weighFirst (l : Launch) (D : KD) (pr : Nat) (pwy : Nat) (pfp : Nat) (pmd : Nat) (pik : Nat) (psg : Nat) (ptw : Nat) (pdb : Nat) (pad : Nat) (pal : Nat) (pah : Nat) (pst : Nat) (ic : Bool) (sn : Nat) (SI : Nat → Nat) (TW : Nat → Nat) (AD : Nat → Nat) (AL : Nat → Nat) (AH : Nat → Nat) (m : Nat) (hm : m < 1024) (hal : AL 0 = 0) (hah : AH 0 = 0) : cM l yX2_weighFirst cX2_weighFirst 6 (some .int) rm_X2_weighFirst D [(pr, .inr (2, [.ref pwy, .ref pfp, .ref pmd, .ref pik, .int (nI ic.toNat), .ref psg, .ref ptw, .ref pdb, .ref pad, .ref pal, .ref pah, .ref pst, .int (nI sn)])), (psg, .inl (D.2.1, 10, .inl (nA SI))), (ptw, .inl (D.2.1, 100, .inl (nA TW))), (pad, .inl (D.2.1, 10, .inl (nA AD))), (pal, .inl (D.2.1, 32, .inl (nA AL))), (pah, .inl (D.2.1, 32, .inl (nA AH)))] [.ref pr, .int (nI m)] (nI (alF m SI)) [(pr, .inr (2, [.ref pwy, .ref pfp, .ref pmd, .ref pik, .int (nI ic.toNat), .ref psg, .ref ptw, .ref pdb, .ref pad, .ref pal, .ref pah, .ref pst, .int (nI sn)])), (psg, .inl (D.2.1, 10, .inl (nA SI))), (ptw, .inl (D.2.1, 100, .inl (nA TW))), (pad, .inl (D.2.1, 10, .inl (nA (adF m SI TW)))), (pal, .inl (D.2.1, 32, .inl (nA (hlfL (adF m SI TW))))), (pah, .inl (D.2.1, 32, .inl (nA (hlfH (adF m SI TW)))))] := by
  refine cM.mk (by decide) (retI _) (Nat.le_of_ble_eq_true rfl) ?_
  intro X A hx hL hA hW hret ls hl
  subst hL
  have hl : lv_has ls 6 [(0, .ref pr), (1, .int (nI m))] := hl
  refine x_iconst (v := nI 0) hx dX2_weighFirst_0 (by decide) ?_
  refine x_istore_n (lv' := [(2, .int (nI 0)), (0, .ref pr), (1, .int (nI m))]) hx dX2_weighFirst_1 hl (Nat.le_of_ble_eq_true rfl) rfl (fun ls hl => ?_)
  refine x_iconst (v := nI 0) hx dX2_weighFirst_2 (by decide) ?_
  refine x_istore_n (lv' := [(3, .int (nI 0)), (2, .int (nI 0)), (0, .ref pr), (1, .int (nI m))]) hx dX2_weighFirst_3 hl (Nat.le_of_ble_eq_true rfl) rfl (fun ls hl => ?_)
  have L4_1 : ∀ (L4_1n : Nat) (j : Nat), (j ≤ 10) → 10 - j < L4_1n → ∀ (H : Heap) (locs : List Loc), Wd X D A [(pr, .inr (2, [.ref pwy, .ref pfp, .ref pmd, .ref pik, .int (nI ic.toNat), .ref psg, .ref ptw, .ref pdb, .ref pad, .ref pal, .ref pah, .ref pst, .int (nI sn)])), (psg, .inl (D.2.1, 10, .inl (nA SI))), (ptw, .inl (D.2.1, 100, .inl (nA TW))), (pad, .inl (D.2.1, 10, .inl (nA (filN (adF m SI TW) AD j)))), (pal, .inl (D.2.1, 32, .inl (nA AL))), (pah, .inl (D.2.1, 32, .inl (nA AH)))] H locs → ∀ ls : Array Slot, lv_has ls 6 [(0, .ref pr), (1, .int (nI m)), (2, .int (nI (smN (fun g => (m.testBit g).toNat * SI g) j))), (3, .int (nI j))] → Wx X 0 0 H locs 4 ls [] := by
    intro L4_1n
    induction L4_1n with
    | zero =>
      intro j h1 hm
      exact absurd hm (Nat.not_lt_zero _)
    | succ L4_1n ihL4_1 =>
      intro j h1 hm H locs hW ls hl
      refine x_iload_n hx dX2_weighFirst_4 hl 3 rfl ?_
      refine x_bipush (v := nI 10) hx dX2_weighFirst_5 (by decide) ?_
      refine x_icmp_ge_N (a := j) (b := 10) (tgt := 87) hx dX2_weighFirst_7 (by decide) (by omega) (by omega) (fun h_2 => ?_) (fun h_2 => ?_)
      · refine x_iconst (v := nI 1) hx dX2_weighFirst_87 (by decide) ?_
        refine x_istore_n (lv' := [(3, .int (nI 1)), (0, .ref pr), (1, .int (nI m)), (2, .int (nI (smN (fun g => (m.testBit g).toNat * SI g) j)))]) hx dX2_weighFirst_88 hl (Nat.le_of_ble_eq_true rfl) rfl (fun ls hl => ?_)
        have L89_3 : ∀ (L89_3n : Nat) (h : Nat), (1 ≤ h) → (h ≤ 32) → 32 - h < L89_3n → ∀ (H : Heap) (locs : List Loc), Wd X D A [(pr, .inr (2, [.ref pwy, .ref pfp, .ref pmd, .ref pik, .int (nI ic.toNat), .ref psg, .ref ptw, .ref pdb, .ref pad, .ref pal, .ref pah, .ref pst, .int (nI sn)])), (psg, .inl (D.2.1, 10, .inl (nA SI))), (ptw, .inl (D.2.1, 100, .inl (nA TW))), (pad, .inl (D.2.1, 10, .inl (nA (adF m SI TW)))), (pal, .inl (D.2.1, 32, .inl (nA (filN (hlfL (adF m SI TW)) AL h)))), (pah, .inl (D.2.1, 32, .inl (nA (filN (hlfH (adF m SI TW)) AH h))))] H locs → ∀ ls : Array Slot, lv_has ls 6 [(0, .ref pr), (1, .int (nI m)), (2, .int (nI (alF m SI))), (3, .int (nI h))] → Wx X 0 0 H locs 89 ls [] := by
          intro L89_3n
          induction L89_3n with
          | zero =>
            intro h h1 h2 hm
            exact absurd hm (Nat.not_lt_zero _)
          | succ L89_3n ihL89_3 =>
            intro h h1 h2 hm H locs hW ls hl
            refine x_iload_n hx dX2_weighFirst_89 hl 3 rfl ?_
            refine x_bipush (v := nI 32) hx dX2_weighFirst_90 (by decide) ?_
            refine x_icmp_ge_N (a := h) (b := 32) (tgt := 158) hx dX2_weighFirst_92 (by decide) (by omega) (by omega) (fun h_4 => ?_) (fun h_4 => ?_)
            · refine x_iload_n hx dX2_weighFirst_158 hl 2 rfl ?_
              have e_5 : ∀ k, k < 32 → (filN (hlfL (adF m SI TW)) AL h) k = (hlfL (adF m SI TW)) k := by
                intro k hk
                have e9 : h = 32 := by omega
                rw [e9]; exact filN_in hk
              have hW : Wd X D A [(pr, .inr (2, [.ref pwy, .ref pfp, .ref pmd, .ref pik, .int (nI ic.toNat), .ref psg, .ref ptw, .ref pdb, .ref pad, .ref pal, .ref pah, .ref pst, .int (nI sn)])), (psg, .inl (D.2.1, 10, .inl (nA SI))), (ptw, .inl (D.2.1, 100, .inl (nA TW))), (pad, .inl (D.2.1, 10, .inl (nA (adF m SI TW)))), (pal, .inl (D.2.1, 32, .inl (nA (hlfL (adF m SI TW))))), (pah, .inl (D.2.1, 32, .inl (nA (filN (hlfH (adF m SI TW)) AH h))))] _ _ := hW.row 4 rfl (fun j hj => congrArg (nI) (e_5 j hj)) rfl
              have e_6 : ∀ k, k < 32 → (filN (hlfH (adF m SI TW)) AH h) k = (hlfH (adF m SI TW)) k := by
                intro k hk
                have e9 : h = 32 := by omega
                rw [e9]; exact filN_in hk
              have hW : Wd X D A [(pr, .inr (2, [.ref pwy, .ref pfp, .ref pmd, .ref pik, .int (nI ic.toNat), .ref psg, .ref ptw, .ref pdb, .ref pad, .ref pal, .ref pah, .ref pst, .int (nI sn)])), (psg, .inl (D.2.1, 10, .inl (nA SI))), (ptw, .inl (D.2.1, 100, .inl (nA TW))), (pad, .inl (D.2.1, 10, .inl (nA (adF m SI TW)))), (pal, .inl (D.2.1, 32, .inl (nA (hlfL (adF m SI TW))))), (pah, .inl (D.2.1, 32, .inl (nA (hlfH (adF m SI TW)))))] _ _ := hW.row 5 rfl (fun j hj => congrArg (nI) (e_6 j hj)) rfl
              exact hret _ _ _ _ _ dX2_weighFirst_159 (rfl) hW
            · have hlb := hlf_bits h (by omega) (by omega)
              have hlb1 := hlb.1
              have hlb3 := hlb.2.2.1
              refine x_iload_n hx dX2_weighFirst_95 hl 3 rfl ?_
              refine x_callRN (As := [.int (nI h)]) (rest := []) hx yv_X7_leastOf (c_X7_leastOf _ D h (by first | assumption | omega | (simp [*]; done)) (by first | assumption | omega | (simp [*]; done))) (List.mem_of_getElem? (i := 11) rfl) hW.1 [] rfl ⟨rfl, rfl⟩ ⟨Nat.le_of_ble_eq_true rfl, Nat.le_of_ble_eq_true rfl⟩ ⟨Nat.zero_le _, Nat.zero_le _⟩ hl rfl rfl (Nat.le_of_ble_eq_true rfl) dX2_weighFirst_96 ?_
              refine x_istore (lv' := [(4, .int (nI (lowB h))), (0, .ref pr), (1, .int (nI m)), (2, .int (nI (alF m SI))), (3, .int (nI h))]) hx dX2_weighFirst_99 hl (Nat.le_of_ble_eq_true rfl) rfl (fun ls hl => ?_)
              refine x_iload_n hx dX2_weighFirst_101 hl 4 rfl ?_
              refine x_iload_n hx dX2_weighFirst_102 hl 4 rfl ?_
              refine x_iconst (v := nI 1) hx dX2_weighFirst_103 (by decide) ?_
              refine x_isub (v := nI (h - 1)) hx dX2_weighFirst_104 (pk_sub (by omega)) ?_
              refine x_iand (v := nI (h &&& (h - 1))) hx dX2_weighFirst_105 (nI_and _ _) ?_
              refine x_istore (lv' := [(5, .int (nI (h &&& (h - 1)))), (4, .int (nI (lowB h))), (0, .ref pr), (1, .int (nI m)), (2, .int (nI (alF m SI))), (3, .int (nI h))]) hx dX2_weighFirst_106 hl (Nat.le_of_ble_eq_true rfl) rfl (fun ls hl => ?_)
              refine x_aload_n hx dX2_weighFirst_108 hl 2 rfl ?_
              refine x_get2 hx hW.1 0 rfl 9 (Nat.le_of_ble_eq_true rfl) wf_RX2_41 rfl dX2_weighFirst_109 ?_
              refine x_iload_n hx dX2_weighFirst_112 hl 5 rfl ?_
              refine x_aload_n hx dX2_weighFirst_113 hl 2 rfl ?_
              refine x_get2 hx hW.1 0 rfl 9 (Nat.le_of_ble_eq_true rfl) wf_RX2_41 rfl dX2_weighFirst_114 ?_
              refine x_iload hx dX2_weighFirst_117 hl 0 rfl ?_
              have hj_119 : h &&& (h - 1) < 32 := by omega
              refine x_iald (v := nI ((filN (hlfL (adF m SI TW)) AL h) (h &&& (h - 1)))) hx hW.1 4 rfl hj_119 (by decide) (rfl) dX2_weighFirst_119 ?_
              refine x_aload_n hx dX2_weighFirst_120 hl 2 rfl ?_
              refine x_get2 hx hW.1 0 rfl 8 (Nat.le_of_ble_eq_true rfl) wf_RX2_38 rfl dX2_weighFirst_121 ?_
              refine x_iload hx dX2_weighFirst_124 hl 1 rfl ?_
              have hj_126 : lowB h < 10 := by omega
              refine x_iald (v := nI ((adF m SI TW) (lowB h))) hx hW.1 3 rfl hj_126 (by decide) (rfl) dX2_weighFirst_126 ?_
              refine x_iadd (v := nI (((filN (hlfL (adF m SI TW)) AL h) (h &&& (h - 1))) + ((adF m SI TW) (lowB h)))) hx dX2_weighFirst_127 (nI_add _ _) ?_
              have hj_128 : h < 32 := by omega
              refine x_iast hx hW 4 rfl hj_128 (by decide) (upd_nA _ _ _) dX2_weighFirst_128 [(pr, .inr (2, [.ref pwy, .ref pfp, .ref pmd, .ref pik, .int (nI ic.toNat), .ref psg, .ref ptw, .ref pdb, .ref pad, .ref pal, .ref pah, .ref pst, .int (nI sn)])), (psg, .inl (D.2.1, 10, .inl (nA SI))), (ptw, .inl (D.2.1, 100, .inl (nA TW))), (pad, .inl (D.2.1, 10, .inl (nA (adF m SI TW)))), (pal, .inl (D.2.1, 32, .inl (nA (va_up (filN (hlfL (adF m SI TW)) AL h) h (((filN (hlfL (adF m SI TW)) AL h) (h &&& (h - 1))) + ((adF m SI TW) (lowB h))))))), (pah, .inl (D.2.1, 32, .inl (nA (filN (hlfH (adF m SI TW)) AH h))))] rfl (fun H locs hW => ?_)
              refine x_aload_n hx dX2_weighFirst_129 hl 2 rfl ?_
              refine x_get2 hx hW.1 0 rfl 10 (Nat.le_of_ble_eq_true rfl) wf_RX2_44 rfl dX2_weighFirst_130 ?_
              refine x_iload_n hx dX2_weighFirst_133 hl 5 rfl ?_
              refine x_aload_n hx dX2_weighFirst_134 hl 2 rfl ?_
              refine x_get2 hx hW.1 0 rfl 10 (Nat.le_of_ble_eq_true rfl) wf_RX2_44 rfl dX2_weighFirst_135 ?_
              refine x_iload hx dX2_weighFirst_138 hl 0 rfl ?_
              have hj_140 : h &&& (h - 1) < 32 := by omega
              refine x_iald (v := nI ((filN (hlfH (adF m SI TW)) AH h) (h &&& (h - 1)))) hx hW.1 5 rfl hj_140 (by decide) (rfl) dX2_weighFirst_140 ?_
              refine x_aload_n hx dX2_weighFirst_141 hl 2 rfl ?_
              refine x_get2 hx hW.1 0 rfl 8 (Nat.le_of_ble_eq_true rfl) wf_RX2_38 rfl dX2_weighFirst_142 ?_
              refine x_iconst (v := nI 5) hx dX2_weighFirst_145 (by decide) ?_
              refine x_iload hx dX2_weighFirst_146 hl 1 rfl ?_
              refine x_iadd (v := nI (5 + (lowB h))) hx dX2_weighFirst_148 (nI_add _ _) ?_
              have hj_149 : 5 + (lowB h) < 10 := by omega
              refine x_iald (v := nI ((adF m SI TW) (5 + (lowB h)))) hx hW.1 3 rfl hj_149 (by decide) (rfl) dX2_weighFirst_149 ?_
              refine x_iadd (v := nI (((filN (hlfH (adF m SI TW)) AH h) (h &&& (h - 1))) + ((adF m SI TW) (5 + (lowB h))))) hx dX2_weighFirst_150 (nI_add _ _) ?_
              have hj_151 : h < 32 := by omega
              refine x_iast hx hW 5 rfl hj_151 (by decide) (upd_nA _ _ _) dX2_weighFirst_151 [(pr, .inr (2, [.ref pwy, .ref pfp, .ref pmd, .ref pik, .int (nI ic.toNat), .ref psg, .ref ptw, .ref pdb, .ref pad, .ref pal, .ref pah, .ref pst, .int (nI sn)])), (psg, .inl (D.2.1, 10, .inl (nA SI))), (ptw, .inl (D.2.1, 100, .inl (nA TW))), (pad, .inl (D.2.1, 10, .inl (nA (adF m SI TW)))), (pal, .inl (D.2.1, 32, .inl (nA (va_up (filN (hlfL (adF m SI TW)) AL h) h (((filN (hlfL (adF m SI TW)) AL h) (h &&& (h - 1))) + ((adF m SI TW) (lowB h))))))), (pah, .inl (D.2.1, 32, .inl (nA (va_up (filN (hlfH (adF m SI TW)) AH h) h (((filN (hlfH (adF m SI TW)) AH h) (h &&& (h - 1))) + ((adF m SI TW) (5 + (lowB h))))))))] rfl (fun H locs hW => ?_)
              refine x_iinc (v := nI (h + 1)) (lv' := [(3, .int (nI (h + 1))), (5, .int (nI (h &&& (h - 1)))), (4, .int (nI (lowB h))), (0, .ref pr), (1, .int (nI m)), (2, .int (nI (alF m SI)))]) hx dX2_weighFirst_152 hl 5 rfl (nI_addc h 1) (Nat.le_of_ble_eq_true rfl) rfl (fun ls hl => ?_)
              refine x_goto (tgt := 89) hx dX2_weighFirst_155 (by decide) ?_
              have e_7 : (h + 1 : Nat) = (h + 1) := by
                first | rfl | omega | (simp [*]; done) | (simp [*]; omega)
              have e_8 : ∀ k, k < 32 → (va_up (filN (hlfL (adF m SI TW)) AL h) h (((filN (hlfL (adF m SI TW)) AL h) (h &&& (h - 1))) + ((adF m SI TW) (lowB h)))) k = (filN (hlfL (adF m SI TW)) AL (h + 1)) k := by
                intro k hk
                first | (by_cases h0 : k = 0 <;> simp [filN, hlfL, smN_zero, h0, hal]; done) | exact filN_up (by rw [filN_in hlb3]; exact hlf_s (adF m SI TW) (by omega) (by omega)) k
              have hW : Wd X D A [(pr, .inr (2, [.ref pwy, .ref pfp, .ref pmd, .ref pik, .int (nI ic.toNat), .ref psg, .ref ptw, .ref pdb, .ref pad, .ref pal, .ref pah, .ref pst, .int (nI sn)])), (psg, .inl (D.2.1, 10, .inl (nA SI))), (ptw, .inl (D.2.1, 100, .inl (nA TW))), (pad, .inl (D.2.1, 10, .inl (nA (adF m SI TW)))), (pal, .inl (D.2.1, 32, .inl (nA (filN (hlfL (adF m SI TW)) AL (h + 1))))), (pah, .inl (D.2.1, 32, .inl (nA (va_up (filN (hlfH (adF m SI TW)) AH h) h (((filN (hlfH (adF m SI TW)) AH h) (h &&& (h - 1))) + ((adF m SI TW) (5 + (lowB h))))))))] _ _ := hW.row 4 rfl (fun j hj => congrArg (nI) (e_8 j hj)) rfl
              have e_9 : ∀ k, k < 32 → (va_up (filN (hlfH (adF m SI TW)) AH h) h (((filN (hlfH (adF m SI TW)) AH h) (h &&& (h - 1))) + ((adF m SI TW) (5 + (lowB h))))) k = (filN (hlfH (adF m SI TW)) AH (h + 1)) k := by
                intro k hk
                first | (by_cases h0 : k = 0 <;> simp [filN, hlfH, smN_zero, h0, hah]; done) | exact filN_up (by rw [filN_in hlb3]; exact hlf_s (fun g => adF m SI TW (5 + g)) (by omega) (by omega)) k
              have hW : Wd X D A [(pr, .inr (2, [.ref pwy, .ref pfp, .ref pmd, .ref pik, .int (nI ic.toNat), .ref psg, .ref ptw, .ref pdb, .ref pad, .ref pal, .ref pah, .ref pst, .int (nI sn)])), (psg, .inl (D.2.1, 10, .inl (nA SI))), (ptw, .inl (D.2.1, 100, .inl (nA TW))), (pad, .inl (D.2.1, 10, .inl (nA (adF m SI TW)))), (pal, .inl (D.2.1, 32, .inl (nA (filN (hlfL (adF m SI TW)) AL (h + 1))))), (pah, .inl (D.2.1, 32, .inl (nA (filN (hlfH (adF m SI TW)) AH (h + 1)))))] _ _ := hW.row 5 rfl (fun j hj => congrArg (nI) (e_9 j hj)) rfl
              exact ihL89_3 (h + 1) (by first | assumption | omega | (simp [*]; done)) (by first | assumption | omega | (simp [*]; done)) (by omega) _ _ hW _ (lv_to (l := [(0, .ref pr), (1, .int (nI m)), (2, .int (nI (alF m SI))), (3, .int (nI (h + 1)))]) (l2 := [(0, .ref pr), (1, .int (nI m)), (2, .int (nI (alF m SI))), (3, .int (nI (h + 1)))]) (lv_sub hl [3, 4, 5, 0] rfl) (cE rfl (cE rfl (cE rfl (cE (congrArg (fun z => ((3, Value.int z) : Nat × Value)) (congrArg (fun z : Nat => nI z) e_7)) rfl)))))
        have e_10 : (smN (fun g => (m.testBit g).toNat * SI g) j : Nat) = alF m SI := by
          have e9 : j = 10 := by omega
          rw [e9]; rfl
        have e_11 : ∀ k, k < 10 → (filN (adF m SI TW) AD j) k = (adF m SI TW) k := by
          intro k hk
          exact filN_in (by omega)
        have hW : Wd X D A [(pr, .inr (2, [.ref pwy, .ref pfp, .ref pmd, .ref pik, .int (nI ic.toNat), .ref psg, .ref ptw, .ref pdb, .ref pad, .ref pal, .ref pah, .ref pst, .int (nI sn)])), (psg, .inl (D.2.1, 10, .inl (nA SI))), (ptw, .inl (D.2.1, 100, .inl (nA TW))), (pad, .inl (D.2.1, 10, .inl (nA (adF m SI TW)))), (pal, .inl (D.2.1, 32, .inl (nA AL))), (pah, .inl (D.2.1, 32, .inl (nA AH)))] _ _ := hW.row 3 rfl (fun j hj => congrArg (nI) (e_11 j hj)) rfl
        have e_12 : ∀ k, k < 32 → (AL) k = (filN (hlfL (adF m SI TW)) AL 1) k := by
          intro k hk
          first | (by_cases h0 : k = 0 <;> simp [filN, hlfL, smN_zero, h0, hal]; done) | exact filN_up (by rw [filN_in hlb3]; exact hlf_s (adF m SI TW) (by omega) (by omega)) k
        have hW : Wd X D A [(pr, .inr (2, [.ref pwy, .ref pfp, .ref pmd, .ref pik, .int (nI ic.toNat), .ref psg, .ref ptw, .ref pdb, .ref pad, .ref pal, .ref pah, .ref pst, .int (nI sn)])), (psg, .inl (D.2.1, 10, .inl (nA SI))), (ptw, .inl (D.2.1, 100, .inl (nA TW))), (pad, .inl (D.2.1, 10, .inl (nA (adF m SI TW)))), (pal, .inl (D.2.1, 32, .inl (nA (filN (hlfL (adF m SI TW)) AL 1)))), (pah, .inl (D.2.1, 32, .inl (nA AH)))] _ _ := hW.row 4 rfl (fun j hj => congrArg (nI) (e_12 j hj)) rfl
        have e_13 : ∀ k, k < 32 → (AH) k = (filN (hlfH (adF m SI TW)) AH 1) k := by
          intro k hk
          first | (by_cases h0 : k = 0 <;> simp [filN, hlfH, smN_zero, h0, hah]; done) | exact filN_up (by rw [filN_in hlb3]; exact hlf_s (fun g => adF m SI TW (5 + g)) (by omega) (by omega)) k
        have hW : Wd X D A [(pr, .inr (2, [.ref pwy, .ref pfp, .ref pmd, .ref pik, .int (nI ic.toNat), .ref psg, .ref ptw, .ref pdb, .ref pad, .ref pal, .ref pah, .ref pst, .int (nI sn)])), (psg, .inl (D.2.1, 10, .inl (nA SI))), (ptw, .inl (D.2.1, 100, .inl (nA TW))), (pad, .inl (D.2.1, 10, .inl (nA (adF m SI TW)))), (pal, .inl (D.2.1, 32, .inl (nA (filN (hlfL (adF m SI TW)) AL 1)))), (pah, .inl (D.2.1, 32, .inl (nA (filN (hlfH (adF m SI TW)) AH 1))))] _ _ := hW.row 5 rfl (fun j hj => congrArg (nI) (e_13 j hj)) rfl
        exact L89_3 (32 - 1 + 1) 1 (by first | assumption | omega | (simp [*]; done)) (by first | assumption | omega | (simp [*]; done)) (Nat.lt_succ_self _) _ _ hW _ (lv_to (l := [(0, .ref pr), (1, .int (nI m)), (2, .int (nI (smN (fun g => (m.testBit g).toNat * SI g) j))), (3, .int (nI 1))]) (l2 := [(0, .ref pr), (1, .int (nI m)), (2, .int (nI (alF m SI))), (3, .int (nI 1))]) (lv_sub hl [1, 2, 3, 0] rfl) (cE rfl (cE rfl (cE (congrArg (fun z => ((2, Value.int z) : Nat × Value)) (congrArg (fun z : Nat => nI z) e_10)) (cE rfl rfl)))))
      · refine x_aload_n hx dX2_weighFirst_10 hl 0 rfl ?_
        refine x_get2 hx hW.1 0 rfl 5 (Nat.le_of_ble_eq_true rfl) wf_RX2_29 rfl dX2_weighFirst_11 ?_
        refine x_iload_n hx dX2_weighFirst_14 hl 3 rfl ?_
        have hj_15 : j < 10 := by omega
        refine x_iald (v := nI (SI j)) hx hW.1 1 rfl hj_15 (by decide) (rfl) dX2_weighFirst_15 ?_
        refine x_istore (lv' := [(4, .int (nI (SI j))), (0, .ref pr), (1, .int (nI m)), (2, .int (nI (smN (fun g => (m.testBit g).toNat * SI g) j))), (3, .int (nI j))]) hx dX2_weighFirst_16 hl (Nat.le_of_ble_eq_true rfl) rfl (fun ls hl => ?_)
        refine x_iconst (v := nI 0) hx dX2_weighFirst_18 (by decide) ?_
        refine x_istore (lv' := [(5, .int (nI 0)), (4, .int (nI (SI j))), (0, .ref pr), (1, .int (nI m)), (2, .int (nI (smN (fun g => (m.testBit g).toNat * SI g) j))), (3, .int (nI j))]) hx dX2_weighFirst_19 hl (Nat.le_of_ble_eq_true rfl) rfl (fun ls hl => ?_)
        have L21_14 : ∀ (L21_14n : Nat) (o : Nat), (o ≤ 10) → 10 - o < L21_14n → ∀ (H : Heap) (locs : List Loc), Wd X D A [(pr, .inr (2, [.ref pwy, .ref pfp, .ref pmd, .ref pik, .int (nI ic.toNat), .ref psg, .ref ptw, .ref pdb, .ref pad, .ref pal, .ref pah, .ref pst, .int (nI sn)])), (psg, .inl (D.2.1, 10, .inl (nA SI))), (ptw, .inl (D.2.1, 100, .inl (nA TW))), (pad, .inl (D.2.1, 10, .inl (nA (filN (adF m SI TW) AD j)))), (pal, .inl (D.2.1, 32, .inl (nA AL))), (pah, .inl (D.2.1, 32, .inl (nA AH)))] H locs → ∀ ls : Array Slot, lv_has ls 6 [(0, .ref pr), (1, .int (nI m)), (2, .int (nI (smN (fun g => (m.testBit g).toNat * SI g) j))), (3, .int (nI j)), (4, .int (nI (SI j + smN (fun y9 => (m.testBit y9).toNat * TW (j * 10 + y9)) o))), (5, .int (nI o))] → Wx X 0 0 H locs 21 ls [] := by
          intro L21_14n
          induction L21_14n with
          | zero =>
            intro o h2 hm
            exact absurd hm (Nat.not_lt_zero _)
          | succ L21_14n ihL21_14 =>
            intro o h2 hm H locs hW ls hl
            refine x_iload hx dX2_weighFirst_21 hl 5 rfl ?_
            refine x_bipush (v := nI 10) hx dX2_weighFirst_23 (by decide) ?_
            refine x_icmp_ge_N (a := o) (b := 10) (tgt := 58) hx dX2_weighFirst_25 (by decide) (by omega) (by omega) (fun h_15 => ?_) (fun h_15 => ?_)
            · have ho : SI j + smN (fun y9 => (m.testBit y9).toNat * TW (j * 10 + y9)) o = adF m SI TW j := by
                have e9 : o = 10 := by omega
                rw [e9]; rfl
              refine x_aload_n hx dX2_weighFirst_58 hl 0 rfl ?_
              refine x_get2 hx hW.1 0 rfl 8 (Nat.le_of_ble_eq_true rfl) wf_RX2_38 rfl dX2_weighFirst_59 ?_
              refine x_iload_n hx dX2_weighFirst_62 hl 3 rfl ?_
              refine x_iload hx dX2_weighFirst_63 hl 4 rfl ?_
              have hj_65 : j < 10 := by omega
              refine x_iast hx hW 3 rfl hj_65 (by decide) (upd_nA _ _ _) dX2_weighFirst_65 [(pr, .inr (2, [.ref pwy, .ref pfp, .ref pmd, .ref pik, .int (nI ic.toNat), .ref psg, .ref ptw, .ref pdb, .ref pad, .ref pal, .ref pah, .ref pst, .int (nI sn)])), (psg, .inl (D.2.1, 10, .inl (nA SI))), (ptw, .inl (D.2.1, 100, .inl (nA TW))), (pad, .inl (D.2.1, 10, .inl (nA (va_up (filN (adF m SI TW) AD j) j (SI j + smN (fun y9 => (m.testBit y9).toNat * TW (j * 10 + y9)) o))))), (pal, .inl (D.2.1, 32, .inl (nA AL))), (pah, .inl (D.2.1, 32, .inl (nA AH)))] rfl (fun H locs hW => ?_)
              refine x_iload_n hx dX2_weighFirst_66 hl 2 rfl ?_
              refine x_iload_n hx dX2_weighFirst_67 hl 1 rfl ?_
              refine x_iload_n hx dX2_weighFirst_68 hl 3 rfl ?_
              refine x_ishr (v := nI (m >>> j)) hx dX2_weighFirst_69 (nI_shr (by omega) (by omega)) ?_
              refine x_iconst (v := nI 1) hx dX2_weighFirst_70 (by decide) ?_
              refine x_iand (v := nI (m.testBit j).toNat) hx dX2_weighFirst_71 (nI_tb _ _) ?_
              refine x_aload_n hx dX2_weighFirst_72 hl 0 rfl ?_
              refine x_get2 hx hW.1 0 rfl 5 (Nat.le_of_ble_eq_true rfl) wf_RX2_29 rfl dX2_weighFirst_73 ?_
              refine x_iload_n hx dX2_weighFirst_76 hl 3 rfl ?_
              have hj_77 : j < 10 := by omega
              refine x_iald (v := nI (SI j)) hx hW.1 1 rfl hj_77 (by decide) (rfl) dX2_weighFirst_77 ?_
              refine x_imul (v := nI (((m.testBit j).toNat) * (SI j))) hx dX2_weighFirst_78 (pk_mul _ _) ?_
              refine x_iadd (v := nI ((smN (fun g => (m.testBit g).toNat * SI g) j) + (((m.testBit j).toNat) * (SI j)))) hx dX2_weighFirst_79 (nI_add _ _) ?_
              refine x_istore_n (lv' := [(2, .int (nI ((smN (fun g => (m.testBit g).toNat * SI g) j) + (((m.testBit j).toNat) * (SI j))))), (0, .ref pr), (1, .int (nI m)), (3, .int (nI j)), (4, .int (nI (SI j + smN (fun y9 => (m.testBit y9).toNat * TW (j * 10 + y9)) o))), (5, .int (nI o))]) hx dX2_weighFirst_80 hl (Nat.le_of_ble_eq_true rfl) rfl (fun ls hl => ?_)
              refine x_iinc (v := nI (j + 1)) (lv' := [(3, .int (nI (j + 1))), (2, .int (nI ((smN (fun g => (m.testBit g).toNat * SI g) j) + (((m.testBit j).toNat) * (SI j))))), (0, .ref pr), (1, .int (nI m)), (4, .int (nI (SI j + smN (fun y9 => (m.testBit y9).toNat * TW (j * 10 + y9)) o))), (5, .int (nI o))]) hx dX2_weighFirst_81 hl 3 rfl (nI_addc j 1) (Nat.le_of_ble_eq_true rfl) rfl (fun ls hl => ?_)
              refine x_goto (tgt := 4) hx dX2_weighFirst_84 (by decide) ?_
              have e_16 : ((smN (fun g => (m.testBit g).toNat * SI g) j) + (((m.testBit j).toNat) * (SI j)) : Nat) = smN (fun g => (m.testBit g).toNat * SI g) (j + 1) := by
                first | rfl | omega | (simp [*]; done) | (simp [*]; omega)
              have e_17 : (j + 1 : Nat) = (j + 1) := by
                first | rfl | omega | (simp [*]; done) | (simp [*]; omega)
              have e_18 : ∀ k, k < 10 → (va_up (filN (adF m SI TW) AD j) j (SI j + smN (fun y9 => (m.testBit y9).toNat * TW (j * 10 + y9)) o)) k = (filN (adF m SI TW) AD (j + 1)) k := by
                intro k hk
                first | (rw [filN_0]; done) | exact filN_up ho k
              have hW : Wd X D A [(pr, .inr (2, [.ref pwy, .ref pfp, .ref pmd, .ref pik, .int (nI ic.toNat), .ref psg, .ref ptw, .ref pdb, .ref pad, .ref pal, .ref pah, .ref pst, .int (nI sn)])), (psg, .inl (D.2.1, 10, .inl (nA SI))), (ptw, .inl (D.2.1, 100, .inl (nA TW))), (pad, .inl (D.2.1, 10, .inl (nA (filN (adF m SI TW) AD (j + 1))))), (pal, .inl (D.2.1, 32, .inl (nA AL))), (pah, .inl (D.2.1, 32, .inl (nA AH)))] _ _ := hW.row 3 rfl (fun j hj => congrArg (nI) (e_18 j hj)) rfl
              exact ihL4_1 (j + 1) (by first | assumption | omega | (simp [*]; done)) (by omega) _ _ hW _ (lv_to (l := [(0, .ref pr), (1, .int (nI m)), (2, .int (nI ((smN (fun g => (m.testBit g).toNat * SI g) j) + (((m.testBit j).toNat) * (SI j))))), (3, .int (nI (j + 1)))]) (l2 := [(0, .ref pr), (1, .int (nI m)), (2, .int (nI (smN (fun g => (m.testBit g).toNat * SI g) (j + 1)))), (3, .int (nI (j + 1)))]) (lv_sub hl [2, 3, 1, 0] rfl) (cE rfl (cE rfl (cE (congrArg (fun z => ((2, Value.int z) : Nat × Value)) (congrArg (fun z : Nat => nI z) e_16)) (cE (congrArg (fun z => ((3, Value.int z) : Nat × Value)) (congrArg (fun z : Nat => nI z) e_17)) rfl)))))
            · refine x_iload hx dX2_weighFirst_28 hl 4 rfl ?_
              refine x_iload_n hx dX2_weighFirst_30 hl 1 rfl ?_
              refine x_iload hx dX2_weighFirst_31 hl 5 rfl ?_
              refine x_ishr (v := nI (m >>> o)) hx dX2_weighFirst_33 (nI_shr (by omega) (by omega)) ?_
              refine x_iconst (v := nI 1) hx dX2_weighFirst_34 (by decide) ?_
              refine x_iand (v := nI (m.testBit o).toNat) hx dX2_weighFirst_35 (nI_tb _ _) ?_
              refine x_aload_n hx dX2_weighFirst_36 hl 0 rfl ?_
              refine x_get2 hx hW.1 0 rfl 6 (Nat.le_of_ble_eq_true rfl) wf_RX2_32 rfl dX2_weighFirst_37 ?_
              refine x_iload_n hx dX2_weighFirst_40 hl 3 rfl ?_
              refine x_bipush (v := nI 10) hx dX2_weighFirst_41 (by decide) ?_
              refine x_imul (v := nI (j * 10)) hx dX2_weighFirst_43 (pk_mul _ _) ?_
              refine x_iload hx dX2_weighFirst_44 hl 5 rfl ?_
              refine x_iadd (v := nI (j * 10 + o)) hx dX2_weighFirst_46 (nI_add _ _) ?_
              have hj_47 : j * 10 + o < 100 := by omega
              refine x_iald (v := nI (TW (j * 10 + o))) hx hW.1 2 rfl hj_47 (by decide) (rfl) dX2_weighFirst_47 ?_
              refine x_imul (v := nI (((m.testBit o).toNat) * (TW (j * 10 + o)))) hx dX2_weighFirst_48 (pk_mul _ _) ?_
              refine x_iadd (v := nI ((SI j + smN (fun y9 => (m.testBit y9).toNat * TW (j * 10 + y9)) o) + (((m.testBit o).toNat) * (TW (j * 10 + o))))) hx dX2_weighFirst_49 (nI_add _ _) ?_
              refine x_istore (lv' := [(4, .int (nI ((SI j + smN (fun y9 => (m.testBit y9).toNat * TW (j * 10 + y9)) o) + (((m.testBit o).toNat) * (TW (j * 10 + o)))))), (0, .ref pr), (1, .int (nI m)), (2, .int (nI (smN (fun g => (m.testBit g).toNat * SI g) j))), (3, .int (nI j)), (5, .int (nI o))]) hx dX2_weighFirst_50 hl (Nat.le_of_ble_eq_true rfl) rfl (fun ls hl => ?_)
              refine x_iinc (v := nI (o + 1)) (lv' := [(5, .int (nI (o + 1))), (4, .int (nI ((SI j + smN (fun y9 => (m.testBit y9).toNat * TW (j * 10 + y9)) o) + (((m.testBit o).toNat) * (TW (j * 10 + o)))))), (0, .ref pr), (1, .int (nI m)), (2, .int (nI (smN (fun g => (m.testBit g).toNat * SI g) j))), (3, .int (nI j))]) hx dX2_weighFirst_52 hl 5 rfl (nI_addc o 1) (Nat.le_of_ble_eq_true rfl) rfl (fun ls hl => ?_)
              refine x_goto (tgt := 21) hx dX2_weighFirst_55 (by decide) ?_
              have e_19 : ((SI j + smN (fun y9 => (m.testBit y9).toNat * TW (j * 10 + y9)) o) + (((m.testBit o).toNat) * (TW (j * 10 + o))) : Nat) = SI j + smN (fun y9 => (m.testBit y9).toNat * TW (j * 10 + y9)) (o + 1) := by
                first | (simp [smN]; done) | (simp only [smN]; omega)
              have e_20 : (o + 1 : Nat) = (o + 1) := by
                first | rfl | omega | (simp [*]; done) | (simp [*]; omega)
              exact ihL21_14 (o + 1) (by first | assumption | omega | (simp [*]; done)) (by omega) _ _ hW _ (lv_to (l := [(0, .ref pr), (1, .int (nI m)), (2, .int (nI (smN (fun g => (m.testBit g).toNat * SI g) j))), (3, .int (nI j)), (4, .int (nI ((SI j + smN (fun y9 => (m.testBit y9).toNat * TW (j * 10 + y9)) o) + (((m.testBit o).toNat) * (TW (j * 10 + o)))))), (5, .int (nI (o + 1)))]) (l2 := [(0, .ref pr), (1, .int (nI m)), (2, .int (nI (smN (fun g => (m.testBit g).toNat * SI g) j))), (3, .int (nI j)), (4, .int (nI (SI j + smN (fun y9 => (m.testBit y9).toNat * TW (j * 10 + y9)) (o + 1)))), (5, .int (nI (o + 1)))]) (lv_sub hl [2, 3, 4, 5, 1, 0] rfl) (cE rfl (cE rfl (cE rfl (cE rfl (cE (congrArg (fun z => ((4, Value.int z) : Nat × Value)) (congrArg (fun z : Nat => nI z) e_19)) (cE (congrArg (fun z => ((5, Value.int z) : Nat × Value)) (congrArg (fun z : Nat => nI z) e_20)) rfl)))))))
        have e_21 : (SI j : Nat) = SI j + smN (fun y9 => (m.testBit y9).toNat * TW (j * 10 + y9)) 0 := by
          first | (simp [smN]; done) | (simp only [smN]; omega)
        exact L21_14 (10 - 0 + 1) 0 (by first | assumption | omega | (simp [*]; done)) (Nat.lt_succ_self _) _ _ hW _ (lv_to (l := [(0, .ref pr), (1, .int (nI m)), (2, .int (nI (smN (fun g => (m.testBit g).toNat * SI g) j))), (3, .int (nI j)), (4, .int (nI (SI j))), (5, .int (nI 0))]) (l2 := [(0, .ref pr), (1, .int (nI m)), (2, .int (nI (smN (fun g => (m.testBit g).toNat * SI g) j))), (3, .int (nI j)), (4, .int (nI (SI j + smN (fun y9 => (m.testBit y9).toNat * TW (j * 10 + y9)) 0))), (5, .int (nI 0))]) (lv_sub hl [2, 3, 4, 5, 1, 0] rfl) (cE rfl (cE rfl (cE rfl (cE rfl (cE (congrArg (fun z => ((4, Value.int z) : Nat × Value)) (congrArg (fun z : Nat => nI z) e_21)) (cE rfl rfl)))))))
  have e_22 : (0 : Nat) = smN (fun g => (m.testBit g).toNat * SI g) 0 := by
    first | rfl | omega | (simp [*]; done) | (simp [*]; omega)
  have e_23 : ∀ k, k < 10 → (AD) k = (filN (adF m SI TW) AD 0) k := by
    intro k hk
    first | (rw [filN_0]; done) | exact filN_up ho k
  have hW : Wd X D A [(pr, .inr (2, [.ref pwy, .ref pfp, .ref pmd, .ref pik, .int (nI ic.toNat), .ref psg, .ref ptw, .ref pdb, .ref pad, .ref pal, .ref pah, .ref pst, .int (nI sn)])), (psg, .inl (D.2.1, 10, .inl (nA SI))), (ptw, .inl (D.2.1, 100, .inl (nA TW))), (pad, .inl (D.2.1, 10, .inl (nA (filN (adF m SI TW) AD 0)))), (pal, .inl (D.2.1, 32, .inl (nA AL))), (pah, .inl (D.2.1, 32, .inl (nA AH)))] _ _ := hW.row 3 rfl (fun j hj => congrArg (nI) (e_23 j hj)) rfl
  exact L4_1 (10 - 0 + 1) 0 (by first | assumption | omega | (simp [*]; done)) (Nat.lt_succ_self _) _ _ hW _ (lv_to (l := [(0, .ref pr), (1, .int (nI m)), (2, .int (nI 0)), (3, .int (nI 0))]) (l2 := [(0, .ref pr), (1, .int (nI m)), (2, .int (nI (smN (fun g => (m.testBit g).toNat * SI g) 0))), (3, .int (nI 0))]) (lv_sub hl [2, 3, 1, 0] rfl) (cE rfl (cE rfl (cE (congrArg (fun z => ((2, Value.int z) : Nat × Value)) (congrArg (fun z : Nat => nI z) e_22)) (cE rfl rfl)))))
set_option maxHeartbeats 4000000 in
set_option maxRecDepth 100000 in
theorem c_X2_weighAll (l : Launch) (D : KD) (pr : Nat) (pwy : Nat) (pfp : Nat) (pmd : Nat) (pik : Nat) (psg : Nat) (ptw : Nat) (pdb : Nat) (pad : Nat) (pal : Nat) (pah : Nat) (pst : Nat) (ic : Bool) (sn : Nat) (WY : Nat → Nat) (FP : Nat → Int) (MD : Nat → Nat) (SI : Nat → Nat) (TW : Nat → Nat) (DB : Nat → Nat) (AD : Nat → Nat) (AL : Nat → Nat) (AH : Nat → Nat) (ST : Nat → Nat) (tot : Nat) (n : Nat) (V : Nat → Nat → Nat) (hn : n < 7) (hal : AL 0 = 0) (hah : AH 0 = 0) (hsn : sn ≤ 252) (htot : tot ≤ 100) (hST : ∀ i, i < sn → ST i < 1024) (hDB : ∀ k, k < 1024 → DB k = dblF SI TW k) (hV : ∀ X Y, Y < 1024 → alF X SI + hlfL (adF X SI TW) (Y % 32) + hlfH (adF X SI TW) (Y / 32) = V X Y + dblF SI TW (X &&& Y)) (hV2 : ∀ X Y, V X Y ≤ 100) : cV l yX2_weighAll cX2_weighAll 9 rm_X2_weighAll D [(pr, .inr (2, [.ref pwy, .ref pfp, .ref pmd, .ref pik, .int (nI ic.toNat), .ref psg, .ref ptw, .ref pdb, .ref pad, .ref pal, .ref pah, .ref pst, .int (nI sn)])), (pwy, .inl (D.2.1, 7, .inl (nA WY))), (pfp, .inl (D.2.1, 7, .inl (zA FP))), (pmd, .inl (D.2.1, 7, .inl (nA MD))), (psg, .inl (D.2.1, 10, .inl (nA SI))), (ptw, .inl (D.2.1, 100, .inl (nA TW))), (pdb, .inl (D.2.1, 1024, .inl (nA DB))), (pad, .inl (D.2.1, 10, .inl (nA AD))), (pal, .inl (D.2.1, 32, .inl (nA AL))), (pah, .inl (D.2.1, 32, .inl (nA AH))), (pst, .inl (D.2.1, 252, .inl (nA ST)))] [.ref pr, .int (nI tot), .int (nI n)] [(pr, .inr (2, [.ref pwy, .ref pfp, .ref pmd, .ref pik, .int (nI ic.toNat), .ref psg, .ref ptw, .ref pdb, .ref pad, .ref pal, .ref pah, .ref pst, .int (nI sn)])), (pwy, .inl (D.2.1, 7, .inl (nA (va_up WY n (pout tot V ST sn sn).1)))), (pfp, .inl (D.2.1, 7, .inl (zA (va_up FP n (pout tot V ST sn sn).2.1)))), (pmd, .inl (D.2.1, 7, .inl (nA (va_up MD n (pout tot V ST sn sn).2.2)))), (psg, .inl (D.2.1, 10, .inl (nA SI))), (ptw, .inl (D.2.1, 100, .inl (nA TW))), (pdb, .inl (D.2.1, 1024, .inl (nA DB))), (pad, .inl (D.2.1, 10, .inl (nA (prevF (fun x9 => adF (ST x9) SI TW) AD sn)))), (pal, .inl (D.2.1, 32, .inl (nA (prevF (fun x9 => hlfL (adF (ST x9) SI TW)) AL sn)))), (pah, .inl (D.2.1, 32, .inl (nA (prevF (fun x9 => hlfH (adF (ST x9) SI TW)) AH sn)))), (pst, .inl (D.2.1, 252, .inl (nA ST)))] := by
  refine cV.mk (by decide) (Nat.le_of_ble_eq_true rfl) ?_
  intro X A hx hL hA hW hret ls hl
  subst hL
  have hl : lv_has ls 9 [(0, .ref pr), (1, .int (nI tot)), (2, .int (nI n))] := hl
  refine x_aload_n hx dX2_weighAll_0 hl 0 rfl ?_
  refine x_get2 hx hW.1 0 rfl 0 (Nat.le_of_ble_eq_true rfl) wf_RX2_9 rfl dX2_weighAll_1 ?_
  refine x_iload_n hx dX2_weighAll_4 hl 2 rfl ?_
  refine x_iconst (v := nI 0) hx dX2_weighAll_5 (by decide) ?_
  have hj_6 : n < 7 := by omega
  refine x_iast hx hW 1 rfl hj_6 (by decide) (upd_nA _ _ _) dX2_weighAll_6 [(pr, .inr (2, [.ref pwy, .ref pfp, .ref pmd, .ref pik, .int (nI ic.toNat), .ref psg, .ref ptw, .ref pdb, .ref pad, .ref pal, .ref pah, .ref pst, .int (nI sn)])), (pwy, .inl (D.2.1, 7, .inl (nA (va_up WY n 0)))), (pfp, .inl (D.2.1, 7, .inl (zA FP))), (pmd, .inl (D.2.1, 7, .inl (nA MD))), (psg, .inl (D.2.1, 10, .inl (nA SI))), (ptw, .inl (D.2.1, 100, .inl (nA TW))), (pdb, .inl (D.2.1, 1024, .inl (nA DB))), (pad, .inl (D.2.1, 10, .inl (nA AD))), (pal, .inl (D.2.1, 32, .inl (nA AL))), (pah, .inl (D.2.1, 32, .inl (nA AH))), (pst, .inl (D.2.1, 252, .inl (nA ST)))] rfl (fun H locs hW => ?_)
  refine x_aload_n hx dX2_weighAll_7 hl 0 rfl ?_
  refine x_get2 hx hW.1 0 rfl 1 (Nat.le_of_ble_eq_true rfl) wf_RX2_15 rfl dX2_weighAll_8 ?_
  refine x_iload_n hx dX2_weighAll_11 hl 2 rfl ?_
  refine x_iconst (v := iI (-1)) hx dX2_weighAll_12 (by decide) ?_
  have hj_13 : n < 7 := by omega
  refine x_iast hx hW 2 rfl hj_13 (by decide) (upd_zA _ _ (-1)) dX2_weighAll_13 [(pr, .inr (2, [.ref pwy, .ref pfp, .ref pmd, .ref pik, .int (nI ic.toNat), .ref psg, .ref ptw, .ref pdb, .ref pad, .ref pal, .ref pah, .ref pst, .int (nI sn)])), (pwy, .inl (D.2.1, 7, .inl (nA (va_up WY n 0)))), (pfp, .inl (D.2.1, 7, .inl (zA (va_up FP n (-1))))), (pmd, .inl (D.2.1, 7, .inl (nA MD))), (psg, .inl (D.2.1, 10, .inl (nA SI))), (ptw, .inl (D.2.1, 100, .inl (nA TW))), (pdb, .inl (D.2.1, 1024, .inl (nA DB))), (pad, .inl (D.2.1, 10, .inl (nA AD))), (pal, .inl (D.2.1, 32, .inl (nA AL))), (pah, .inl (D.2.1, 32, .inl (nA AH))), (pst, .inl (D.2.1, 252, .inl (nA ST)))] rfl (fun H locs hW => ?_)
  refine x_aload_n hx dX2_weighAll_14 hl 0 rfl ?_
  refine x_get2 hx hW.1 0 rfl 2 (Nat.le_of_ble_eq_true rfl) wf_RX2_18 rfl dX2_weighAll_15 ?_
  refine x_iload_n hx dX2_weighAll_18 hl 2 rfl ?_
  refine x_iconst (v := nI 0) hx dX2_weighAll_19 (by decide) ?_
  have hj_20 : n < 7 := by omega
  refine x_iast hx hW 3 rfl hj_20 (by decide) (upd_nA _ _ _) dX2_weighAll_20 [(pr, .inr (2, [.ref pwy, .ref pfp, .ref pmd, .ref pik, .int (nI ic.toNat), .ref psg, .ref ptw, .ref pdb, .ref pad, .ref pal, .ref pah, .ref pst, .int (nI sn)])), (pwy, .inl (D.2.1, 7, .inl (nA (va_up WY n 0)))), (pfp, .inl (D.2.1, 7, .inl (zA (va_up FP n (-1))))), (pmd, .inl (D.2.1, 7, .inl (nA (va_up MD n 0)))), (psg, .inl (D.2.1, 10, .inl (nA SI))), (ptw, .inl (D.2.1, 100, .inl (nA TW))), (pdb, .inl (D.2.1, 1024, .inl (nA DB))), (pad, .inl (D.2.1, 10, .inl (nA AD))), (pal, .inl (D.2.1, 32, .inl (nA AL))), (pah, .inl (D.2.1, 32, .inl (nA AH))), (pst, .inl (D.2.1, 252, .inl (nA ST)))] rfl (fun H locs hW => ?_)
  refine x_iconst (v := nI 0) hx dX2_weighAll_21 (by decide) ?_
  refine x_istore_n (lv' := [(3, .int (nI 0)), (0, .ref pr), (1, .int (nI tot)), (2, .int (nI n))]) hx dX2_weighAll_22 hl (Nat.le_of_ble_eq_true rfl) rfl (fun ls hl => ?_)
  have L23_1 : ∀ (L23_1n : Nat) (i : Nat), (i ≤ sn) → sn - i < L23_1n → ∀ (H : Heap) (locs : List Loc), Wd X D A [(pr, .inr (2, [.ref pwy, .ref pfp, .ref pmd, .ref pik, .int (nI ic.toNat), .ref psg, .ref ptw, .ref pdb, .ref pad, .ref pal, .ref pah, .ref pst, .int (nI sn)])), (pwy, .inl (D.2.1, 7, .inl (nA (va_up WY n (pout tot V ST sn i).1)))), (pfp, .inl (D.2.1, 7, .inl (zA (va_up FP n (pout tot V ST sn i).2.1)))), (pmd, .inl (D.2.1, 7, .inl (nA (va_up MD n (pout tot V ST sn i).2.2)))), (psg, .inl (D.2.1, 10, .inl (nA SI))), (ptw, .inl (D.2.1, 100, .inl (nA TW))), (pdb, .inl (D.2.1, 1024, .inl (nA DB))), (pad, .inl (D.2.1, 10, .inl (nA (prevF (fun x9 => adF (ST x9) SI TW) AD i)))), (pal, .inl (D.2.1, 32, .inl (nA (prevF (fun x9 => hlfL (adF (ST x9) SI TW)) AL i)))), (pah, .inl (D.2.1, 32, .inl (nA (prevF (fun x9 => hlfH (adF (ST x9) SI TW)) AH i)))), (pst, .inl (D.2.1, 252, .inl (nA ST)))] H locs → ∀ ls : Array Slot, lv_has ls 9 [(0, .ref pr), (1, .int (nI tot)), (2, .int (nI n)), (3, .int (nI i))] → Wx X 0 0 H locs 23 ls [] := by
    intro L23_1n
    induction L23_1n with
    | zero =>
      intro i h1 hm
      exact absurd hm (Nat.not_lt_zero _)
    | succ L23_1n ihL23_1 =>
      intro i h1 hm H locs hW ls hl
      have hpl : (prevF (fun x9 => hlfL (adF (ST x9) SI TW)) AL i) 0 = 0 := by cases i <;> simp [prevF, hal, hlfL, smN_zero]
      have hph : (prevF (fun x9 => hlfH (adF (ST x9) SI TW)) AH i) 0 = 0 := by cases i <;> simp [prevF, hah, hlfH, smN_zero]
      refine x_iload_n hx dX2_weighAll_23 hl 3 rfl ?_
      refine x_aload_n hx dX2_weighAll_24 hl 0 rfl ?_
      refine x_get2 hx hW.1 0 rfl 12 (Nat.le_of_ble_eq_true rfl) wf_RX2_50 rfl dX2_weighAll_25 ?_
      refine x_icmp_ge_N (a := i) (b := sn) (tgt := 176) hx dX2_weighAll_28 (by decide) (by omega) (by omega) (fun h_2 => ?_) (fun h_2 => ?_)
      · have e_3 : ∀ k, k < 7 → (va_up WY n (pout tot V ST sn i).1) k = (va_up WY n (pout tot V ST sn sn).1) k := by
          intro k hk
          have e9 : i = sn := by omega
          rw [e9]
        have hW : Wd X D A [(pr, .inr (2, [.ref pwy, .ref pfp, .ref pmd, .ref pik, .int (nI ic.toNat), .ref psg, .ref ptw, .ref pdb, .ref pad, .ref pal, .ref pah, .ref pst, .int (nI sn)])), (pwy, .inl (D.2.1, 7, .inl (nA (va_up WY n (pout tot V ST sn sn).1)))), (pfp, .inl (D.2.1, 7, .inl (zA (va_up FP n (pout tot V ST sn i).2.1)))), (pmd, .inl (D.2.1, 7, .inl (nA (va_up MD n (pout tot V ST sn i).2.2)))), (psg, .inl (D.2.1, 10, .inl (nA SI))), (ptw, .inl (D.2.1, 100, .inl (nA TW))), (pdb, .inl (D.2.1, 1024, .inl (nA DB))), (pad, .inl (D.2.1, 10, .inl (nA (prevF (fun x9 => adF (ST x9) SI TW) AD i)))), (pal, .inl (D.2.1, 32, .inl (nA (prevF (fun x9 => hlfL (adF (ST x9) SI TW)) AL i)))), (pah, .inl (D.2.1, 32, .inl (nA (prevF (fun x9 => hlfH (adF (ST x9) SI TW)) AH i)))), (pst, .inl (D.2.1, 252, .inl (nA ST)))] _ _ := hW.row 1 rfl (fun j hj => congrArg (nI) (e_3 j hj)) rfl
        have e_4 : ∀ k, k < 7 → (va_up FP n (pout tot V ST sn i).2.1) k = (va_up FP n (pout tot V ST sn sn).2.1) k := by
          intro k hk
          have e9 : i = sn := by omega
          rw [e9]
        have hW : Wd X D A [(pr, .inr (2, [.ref pwy, .ref pfp, .ref pmd, .ref pik, .int (nI ic.toNat), .ref psg, .ref ptw, .ref pdb, .ref pad, .ref pal, .ref pah, .ref pst, .int (nI sn)])), (pwy, .inl (D.2.1, 7, .inl (nA (va_up WY n (pout tot V ST sn sn).1)))), (pfp, .inl (D.2.1, 7, .inl (zA (va_up FP n (pout tot V ST sn sn).2.1)))), (pmd, .inl (D.2.1, 7, .inl (nA (va_up MD n (pout tot V ST sn i).2.2)))), (psg, .inl (D.2.1, 10, .inl (nA SI))), (ptw, .inl (D.2.1, 100, .inl (nA TW))), (pdb, .inl (D.2.1, 1024, .inl (nA DB))), (pad, .inl (D.2.1, 10, .inl (nA (prevF (fun x9 => adF (ST x9) SI TW) AD i)))), (pal, .inl (D.2.1, 32, .inl (nA (prevF (fun x9 => hlfL (adF (ST x9) SI TW)) AL i)))), (pah, .inl (D.2.1, 32, .inl (nA (prevF (fun x9 => hlfH (adF (ST x9) SI TW)) AH i)))), (pst, .inl (D.2.1, 252, .inl (nA ST)))] _ _ := hW.row 2 rfl (fun j hj => congrArg (iI) (e_4 j hj)) rfl
        have e_5 : ∀ k, k < 7 → (va_up MD n (pout tot V ST sn i).2.2) k = (va_up MD n (pout tot V ST sn sn).2.2) k := by
          intro k hk
          have e9 : i = sn := by omega
          rw [e9]
        have hW : Wd X D A [(pr, .inr (2, [.ref pwy, .ref pfp, .ref pmd, .ref pik, .int (nI ic.toNat), .ref psg, .ref ptw, .ref pdb, .ref pad, .ref pal, .ref pah, .ref pst, .int (nI sn)])), (pwy, .inl (D.2.1, 7, .inl (nA (va_up WY n (pout tot V ST sn sn).1)))), (pfp, .inl (D.2.1, 7, .inl (zA (va_up FP n (pout tot V ST sn sn).2.1)))), (pmd, .inl (D.2.1, 7, .inl (nA (va_up MD n (pout tot V ST sn sn).2.2)))), (psg, .inl (D.2.1, 10, .inl (nA SI))), (ptw, .inl (D.2.1, 100, .inl (nA TW))), (pdb, .inl (D.2.1, 1024, .inl (nA DB))), (pad, .inl (D.2.1, 10, .inl (nA (prevF (fun x9 => adF (ST x9) SI TW) AD i)))), (pal, .inl (D.2.1, 32, .inl (nA (prevF (fun x9 => hlfL (adF (ST x9) SI TW)) AL i)))), (pah, .inl (D.2.1, 32, .inl (nA (prevF (fun x9 => hlfH (adF (ST x9) SI TW)) AH i)))), (pst, .inl (D.2.1, 252, .inl (nA ST)))] _ _ := hW.row 3 rfl (fun j hj => congrArg (nI) (e_5 j hj)) rfl
        have e_6 : ∀ k, k < 10 → (prevF (fun x9 => adF (ST x9) SI TW) AD i) k = (prevF (fun x9 => adF (ST x9) SI TW) AD sn) k := by
          intro k hk
          have e9 : i = sn := by omega
          rw [e9]
        have hW : Wd X D A [(pr, .inr (2, [.ref pwy, .ref pfp, .ref pmd, .ref pik, .int (nI ic.toNat), .ref psg, .ref ptw, .ref pdb, .ref pad, .ref pal, .ref pah, .ref pst, .int (nI sn)])), (pwy, .inl (D.2.1, 7, .inl (nA (va_up WY n (pout tot V ST sn sn).1)))), (pfp, .inl (D.2.1, 7, .inl (zA (va_up FP n (pout tot V ST sn sn).2.1)))), (pmd, .inl (D.2.1, 7, .inl (nA (va_up MD n (pout tot V ST sn sn).2.2)))), (psg, .inl (D.2.1, 10, .inl (nA SI))), (ptw, .inl (D.2.1, 100, .inl (nA TW))), (pdb, .inl (D.2.1, 1024, .inl (nA DB))), (pad, .inl (D.2.1, 10, .inl (nA (prevF (fun x9 => adF (ST x9) SI TW) AD sn)))), (pal, .inl (D.2.1, 32, .inl (nA (prevF (fun x9 => hlfL (adF (ST x9) SI TW)) AL i)))), (pah, .inl (D.2.1, 32, .inl (nA (prevF (fun x9 => hlfH (adF (ST x9) SI TW)) AH i)))), (pst, .inl (D.2.1, 252, .inl (nA ST)))] _ _ := hW.row 7 rfl (fun j hj => congrArg (nI) (e_6 j hj)) rfl
        have e_7 : ∀ k, k < 32 → (prevF (fun x9 => hlfL (adF (ST x9) SI TW)) AL i) k = (prevF (fun x9 => hlfL (adF (ST x9) SI TW)) AL sn) k := by
          intro k hk
          have e9 : i = sn := by omega
          rw [e9]
        have hW : Wd X D A [(pr, .inr (2, [.ref pwy, .ref pfp, .ref pmd, .ref pik, .int (nI ic.toNat), .ref psg, .ref ptw, .ref pdb, .ref pad, .ref pal, .ref pah, .ref pst, .int (nI sn)])), (pwy, .inl (D.2.1, 7, .inl (nA (va_up WY n (pout tot V ST sn sn).1)))), (pfp, .inl (D.2.1, 7, .inl (zA (va_up FP n (pout tot V ST sn sn).2.1)))), (pmd, .inl (D.2.1, 7, .inl (nA (va_up MD n (pout tot V ST sn sn).2.2)))), (psg, .inl (D.2.1, 10, .inl (nA SI))), (ptw, .inl (D.2.1, 100, .inl (nA TW))), (pdb, .inl (D.2.1, 1024, .inl (nA DB))), (pad, .inl (D.2.1, 10, .inl (nA (prevF (fun x9 => adF (ST x9) SI TW) AD sn)))), (pal, .inl (D.2.1, 32, .inl (nA (prevF (fun x9 => hlfL (adF (ST x9) SI TW)) AL sn)))), (pah, .inl (D.2.1, 32, .inl (nA (prevF (fun x9 => hlfH (adF (ST x9) SI TW)) AH i)))), (pst, .inl (D.2.1, 252, .inl (nA ST)))] _ _ := hW.row 8 rfl (fun j hj => congrArg (nI) (e_7 j hj)) rfl
        have e_8 : ∀ k, k < 32 → (prevF (fun x9 => hlfH (adF (ST x9) SI TW)) AH i) k = (prevF (fun x9 => hlfH (adF (ST x9) SI TW)) AH sn) k := by
          intro k hk
          have e9 : i = sn := by omega
          rw [e9]
        have hW : Wd X D A [(pr, .inr (2, [.ref pwy, .ref pfp, .ref pmd, .ref pik, .int (nI ic.toNat), .ref psg, .ref ptw, .ref pdb, .ref pad, .ref pal, .ref pah, .ref pst, .int (nI sn)])), (pwy, .inl (D.2.1, 7, .inl (nA (va_up WY n (pout tot V ST sn sn).1)))), (pfp, .inl (D.2.1, 7, .inl (zA (va_up FP n (pout tot V ST sn sn).2.1)))), (pmd, .inl (D.2.1, 7, .inl (nA (va_up MD n (pout tot V ST sn sn).2.2)))), (psg, .inl (D.2.1, 10, .inl (nA SI))), (ptw, .inl (D.2.1, 100, .inl (nA TW))), (pdb, .inl (D.2.1, 1024, .inl (nA DB))), (pad, .inl (D.2.1, 10, .inl (nA (prevF (fun x9 => adF (ST x9) SI TW) AD sn)))), (pal, .inl (D.2.1, 32, .inl (nA (prevF (fun x9 => hlfL (adF (ST x9) SI TW)) AL sn)))), (pah, .inl (D.2.1, 32, .inl (nA (prevF (fun x9 => hlfH (adF (ST x9) SI TW)) AH sn)))), (pst, .inl (D.2.1, 252, .inl (nA ST)))] _ _ := hW.row 9 rfl (fun j hj => congrArg (nI) (e_8 j hj)) rfl
        exact hret _ _ _ _ dX2_weighAll_176 hW
      · refine x_aload_n hx dX2_weighAll_31 hl 0 rfl ?_
        refine x_get2 hx hW.1 0 rfl 11 (Nat.le_of_ble_eq_true rfl) wf_RX2_47 rfl dX2_weighAll_32 ?_
        refine x_iload_n hx dX2_weighAll_35 hl 3 rfl ?_
        have hj_36 : i < 252 := by omega
        refine x_iald (v := nI (ST i)) hx hW.1 10 rfl hj_36 (by decide) (rfl) dX2_weighAll_36 ?_
        have hsi := hST i (by omega)
        refine x_istore (lv' := [(4, .int (nI (ST i))), (0, .ref pr), (1, .int (nI tot)), (2, .int (nI n)), (3, .int (nI i))]) hx dX2_weighAll_37 hl (Nat.le_of_ble_eq_true rfl) rfl (fun ls hl => ?_)
        refine x_aload_n hx dX2_weighAll_39 hl 1 rfl ?_
        refine x_iload hx dX2_weighAll_40 hl 0 rfl ?_
        refine x_callMV (As := [.int (nI (ST i))]) (rest := []) (wr := [(pwy, .inl (D.2.1, 7, .inl (nA (va_up WY n (pout tot V ST sn i).1)))), (pfp, .inl (D.2.1, 7, .inl (zA (va_up FP n (pout tot V ST sn i).2.1)))), (pmd, .inl (D.2.1, 7, .inl (nA (va_up MD n (pout tot V ST sn i).2.2)))), (pdb, .inl (D.2.1, 1024, .inl (nA DB))), (pst, .inl (D.2.1, 252, .inl (nA ST)))]) hx yv_X2_weighFirst (c_X2_weighFirst _ D pr pwy pfp pmd pik psg ptw pdb pad pal pah pst ic sn SI TW (prevF (fun x9 => adF (ST x9) SI TW) AD i) (prevF (fun x9 => hlfL (adF (ST x9) SI TW)) AL i) (prevF (fun x9 => hlfH (adF (ST x9) SI TW)) AH i) (ST i) (by first | assumption | omega | (simp [*]; done)) (by first | assumption | omega | (simp [*]; done)) (by first | assumption | omega | (simp [*]; done))) wm_RX2_113 hA hW [0, 4, 5, 7, 8, 9] [1, 2, 3, 6, 10] rfl rfl rfl rfl rfl 0 rfl rfl ⟨rfl, rfl⟩ ⟨Nat.le_of_ble_eq_true rfl, Nat.le_of_ble_eq_true rfl⟩ ⟨Nat.zero_le _, Nat.zero_le _⟩ hl rfl rfl (Nat.le_of_ble_eq_true rfl) dX2_weighAll_42 [(pwy, .inl (D.2.1, 7, .inl (nA (va_up WY n (pout tot V ST sn i).1)))), (pfp, .inl (D.2.1, 7, .inl (zA (va_up FP n (pout tot V ST sn i).2.1)))), (pmd, .inl (D.2.1, 7, .inl (nA (va_up MD n (pout tot V ST sn i).2.2)))), (pdb, .inl (D.2.1, 1024, .inl (nA DB))), (pst, .inl (D.2.1, 252, .inl (nA ST))), (pr, .inr (2, [.ref pwy, .ref pfp, .ref pmd, .ref pik, .int (nI ic.toNat), .ref psg, .ref ptw, .ref pdb, .ref pad, .ref pal, .ref pah, .ref pst, .int (nI sn)])), (psg, .inl (D.2.1, 10, .inl (nA SI))), (ptw, .inl (D.2.1, 100, .inl (nA TW))), (pad, .inl (D.2.1, 10, .inl (nA (adF (ST i) SI TW)))), (pal, .inl (D.2.1, 32, .inl (nA (hlfL (adF (ST i) SI TW))))), (pah, .inl (D.2.1, 32, .inl (nA (hlfH (adF (ST i) SI TW)))))] rfl (fun H locs hW => ?_)
        refine x_istore (lv' := [(5, .int (nI (alF (ST i) SI))), (4, .int (nI (ST i))), (0, .ref pr), (1, .int (nI tot)), (2, .int (nI n)), (3, .int (nI i))]) hx dX2_weighAll_45 hl (Nat.le_of_ble_eq_true rfl) rfl (fun ls hl => ?_)
        refine x_iload_n hx dX2_weighAll_47 hl 5 rfl ?_
        refine x_istore (lv' := [(6, .int (nI i)), (5, .int (nI (alF (ST i) SI))), (4, .int (nI (ST i))), (0, .ref pr), (1, .int (nI tot)), (2, .int (nI n)), (3, .int (nI i))]) hx dX2_weighAll_48 hl (Nat.le_of_ble_eq_true rfl) rfl (fun ls hl => ?_)
        have L50_9 : ∀ (L50_9n : Nat) (j : Nat), (i ≤ j) → (j ≤ sn) → sn - j < L50_9n → ∀ (H : Heap) (locs : List Loc), Wd X D A [(pwy, .inl (D.2.1, 7, .inl (nA (va_up WY n (pin tot V ST i j (pout tot V ST sn i)).1)))), (pfp, .inl (D.2.1, 7, .inl (zA (va_up FP n (pin tot V ST i j (pout tot V ST sn i)).2.1)))), (pmd, .inl (D.2.1, 7, .inl (nA (va_up MD n (pin tot V ST i j (pout tot V ST sn i)).2.2)))), (pdb, .inl (D.2.1, 1024, .inl (nA DB))), (pst, .inl (D.2.1, 252, .inl (nA ST))), (pr, .inr (2, [.ref pwy, .ref pfp, .ref pmd, .ref pik, .int (nI ic.toNat), .ref psg, .ref ptw, .ref pdb, .ref pad, .ref pal, .ref pah, .ref pst, .int (nI sn)])), (psg, .inl (D.2.1, 10, .inl (nA SI))), (ptw, .inl (D.2.1, 100, .inl (nA TW))), (pad, .inl (D.2.1, 10, .inl (nA (adF (ST i) SI TW)))), (pal, .inl (D.2.1, 32, .inl (nA (hlfL (adF (ST i) SI TW))))), (pah, .inl (D.2.1, 32, .inl (nA (hlfH (adF (ST i) SI TW)))))] H locs → ∀ ls : Array Slot, lv_has ls 9 [(0, .ref pr), (1, .int (nI tot)), (2, .int (nI n)), (3, .int (nI i)), (4, .int (nI (ST i))), (5, .int (nI (alF (ST i) SI))), (6, .int (nI j))] → Wx X 0 0 H locs 50 ls [] := by
          intro L50_9n
          induction L50_9n with
          | zero =>
            intro j h2 h3 hm
            exact absurd hm (Nat.not_lt_zero _)
          | succ L50_9n ihL50_9 =>
            intro j h2 h3 hm H locs hW ls hl
            have hmd := pin_md hV2 tot ST i j (pout tot V ST sn i) (pout_md hV2 tot ST sn i)
            have hw1 := pin_w tot V ST i j (pout tot V ST sn i)
            have hw2 := pout_w tot V ST sn i
            have hw3 : i * sn ≤ 252 * 252 := Nat.mul_le_mul (by omega) hsn
            refine x_iload hx dX2_weighAll_50 hl 6 rfl ?_
            refine x_aload_n hx dX2_weighAll_52 hl 0 rfl ?_
            refine x_get2 hx hW.1 5 rfl 12 (Nat.le_of_ble_eq_true rfl) wf_RX2_50 rfl dX2_weighAll_53 ?_
            refine x_icmp_ge_N (a := j) (b := sn) (tgt := 170) hx dX2_weighAll_56 (by decide) (by omega) (by omega) (fun h_10 => ?_) (fun h_10 => ?_)
            · refine x_iinc (v := nI (i + 1)) (lv' := [(3, .int (nI (i + 1))), (0, .ref pr), (1, .int (nI tot)), (2, .int (nI n)), (4, .int (nI (ST i))), (5, .int (nI (alF (ST i) SI))), (6, .int (nI j))]) hx dX2_weighAll_170 hl 3 rfl (nI_addc i 1) (Nat.le_of_ble_eq_true rfl) rfl (fun ls hl => ?_)
              refine x_goto (tgt := 23) hx dX2_weighAll_173 (by decide) ?_
              have e_11 : (i + 1 : Nat) = (i + 1) := by
                first | rfl | omega | (simp [*]; done) | (simp [*]; omega)
              have e_12 : ∀ k, k < 7 → (va_up WY n (pin tot V ST i j (pout tot V ST sn i)).1) k = (va_up WY n (pout tot V ST sn (i + 1)).1) k := by
                intro k hk
                first | rfl | (refine congrArg (fun z => va_up WY n z k) ?_; rw [pout, show j = sn by omega]; done)
              have hW : Wd X D A [(pwy, .inl (D.2.1, 7, .inl (nA (va_up WY n (pout tot V ST sn (i + 1)).1)))), (pfp, .inl (D.2.1, 7, .inl (zA (va_up FP n (pin tot V ST i j (pout tot V ST sn i)).2.1)))), (pmd, .inl (D.2.1, 7, .inl (nA (va_up MD n (pin tot V ST i j (pout tot V ST sn i)).2.2)))), (pdb, .inl (D.2.1, 1024, .inl (nA DB))), (pst, .inl (D.2.1, 252, .inl (nA ST))), (pr, .inr (2, [.ref pwy, .ref pfp, .ref pmd, .ref pik, .int (nI ic.toNat), .ref psg, .ref ptw, .ref pdb, .ref pad, .ref pal, .ref pah, .ref pst, .int (nI sn)])), (psg, .inl (D.2.1, 10, .inl (nA SI))), (ptw, .inl (D.2.1, 100, .inl (nA TW))), (pad, .inl (D.2.1, 10, .inl (nA (adF (ST i) SI TW)))), (pal, .inl (D.2.1, 32, .inl (nA (hlfL (adF (ST i) SI TW))))), (pah, .inl (D.2.1, 32, .inl (nA (hlfH (adF (ST i) SI TW)))))] _ _ := hW.row 0 rfl (fun j hj => congrArg (nI) (e_12 j hj)) rfl
              have e_13 : ∀ k, k < 7 → (va_up FP n (pin tot V ST i j (pout tot V ST sn i)).2.1) k = (va_up FP n (pout tot V ST sn (i + 1)).2.1) k := by
                intro k hk
                first | rfl | (refine congrArg (fun z => va_up FP n z k) ?_; rw [pout, show j = sn by omega]; done)
              have hW : Wd X D A [(pwy, .inl (D.2.1, 7, .inl (nA (va_up WY n (pout tot V ST sn (i + 1)).1)))), (pfp, .inl (D.2.1, 7, .inl (zA (va_up FP n (pout tot V ST sn (i + 1)).2.1)))), (pmd, .inl (D.2.1, 7, .inl (nA (va_up MD n (pin tot V ST i j (pout tot V ST sn i)).2.2)))), (pdb, .inl (D.2.1, 1024, .inl (nA DB))), (pst, .inl (D.2.1, 252, .inl (nA ST))), (pr, .inr (2, [.ref pwy, .ref pfp, .ref pmd, .ref pik, .int (nI ic.toNat), .ref psg, .ref ptw, .ref pdb, .ref pad, .ref pal, .ref pah, .ref pst, .int (nI sn)])), (psg, .inl (D.2.1, 10, .inl (nA SI))), (ptw, .inl (D.2.1, 100, .inl (nA TW))), (pad, .inl (D.2.1, 10, .inl (nA (adF (ST i) SI TW)))), (pal, .inl (D.2.1, 32, .inl (nA (hlfL (adF (ST i) SI TW))))), (pah, .inl (D.2.1, 32, .inl (nA (hlfH (adF (ST i) SI TW)))))] _ _ := hW.row 1 rfl (fun j hj => congrArg (iI) (e_13 j hj)) rfl
              have e_14 : ∀ k, k < 7 → (va_up MD n (pin tot V ST i j (pout tot V ST sn i)).2.2) k = (va_up MD n (pout tot V ST sn (i + 1)).2.2) k := by
                intro k hk
                first | rfl | (refine congrArg (fun z => va_up MD n z k) ?_; rw [pout, show j = sn by omega]; done)
              have hW : Wd X D A [(pwy, .inl (D.2.1, 7, .inl (nA (va_up WY n (pout tot V ST sn (i + 1)).1)))), (pfp, .inl (D.2.1, 7, .inl (zA (va_up FP n (pout tot V ST sn (i + 1)).2.1)))), (pmd, .inl (D.2.1, 7, .inl (nA (va_up MD n (pout tot V ST sn (i + 1)).2.2)))), (pdb, .inl (D.2.1, 1024, .inl (nA DB))), (pst, .inl (D.2.1, 252, .inl (nA ST))), (pr, .inr (2, [.ref pwy, .ref pfp, .ref pmd, .ref pik, .int (nI ic.toNat), .ref psg, .ref ptw, .ref pdb, .ref pad, .ref pal, .ref pah, .ref pst, .int (nI sn)])), (psg, .inl (D.2.1, 10, .inl (nA SI))), (ptw, .inl (D.2.1, 100, .inl (nA TW))), (pad, .inl (D.2.1, 10, .inl (nA (adF (ST i) SI TW)))), (pal, .inl (D.2.1, 32, .inl (nA (hlfL (adF (ST i) SI TW))))), (pah, .inl (D.2.1, 32, .inl (nA (hlfH (adF (ST i) SI TW)))))] _ _ := hW.row 2 rfl (fun j hj => congrArg (nI) (e_14 j hj)) rfl
              have e_15 : ∀ k, k < 10 → (adF (ST i) SI TW) k = (prevF (fun x9 => adF (ST x9) SI TW) AD (i + 1)) k := by
                intro k hk
                first | rfl | (simp [*]; done)
              have hW : Wd X D A [(pwy, .inl (D.2.1, 7, .inl (nA (va_up WY n (pout tot V ST sn (i + 1)).1)))), (pfp, .inl (D.2.1, 7, .inl (zA (va_up FP n (pout tot V ST sn (i + 1)).2.1)))), (pmd, .inl (D.2.1, 7, .inl (nA (va_up MD n (pout tot V ST sn (i + 1)).2.2)))), (pdb, .inl (D.2.1, 1024, .inl (nA DB))), (pst, .inl (D.2.1, 252, .inl (nA ST))), (pr, .inr (2, [.ref pwy, .ref pfp, .ref pmd, .ref pik, .int (nI ic.toNat), .ref psg, .ref ptw, .ref pdb, .ref pad, .ref pal, .ref pah, .ref pst, .int (nI sn)])), (psg, .inl (D.2.1, 10, .inl (nA SI))), (ptw, .inl (D.2.1, 100, .inl (nA TW))), (pad, .inl (D.2.1, 10, .inl (nA (prevF (fun x9 => adF (ST x9) SI TW) AD (i + 1))))), (pal, .inl (D.2.1, 32, .inl (nA (hlfL (adF (ST i) SI TW))))), (pah, .inl (D.2.1, 32, .inl (nA (hlfH (adF (ST i) SI TW)))))] _ _ := hW.row 8 rfl (fun j hj => congrArg (nI) (e_15 j hj)) rfl
              have e_16 : ∀ k, k < 32 → (hlfL (adF (ST i) SI TW)) k = (prevF (fun x9 => hlfL (adF (ST x9) SI TW)) AL (i + 1)) k := by
                intro k hk
                first | rfl | (simp [*]; done)
              have hW : Wd X D A [(pwy, .inl (D.2.1, 7, .inl (nA (va_up WY n (pout tot V ST sn (i + 1)).1)))), (pfp, .inl (D.2.1, 7, .inl (zA (va_up FP n (pout tot V ST sn (i + 1)).2.1)))), (pmd, .inl (D.2.1, 7, .inl (nA (va_up MD n (pout tot V ST sn (i + 1)).2.2)))), (pdb, .inl (D.2.1, 1024, .inl (nA DB))), (pst, .inl (D.2.1, 252, .inl (nA ST))), (pr, .inr (2, [.ref pwy, .ref pfp, .ref pmd, .ref pik, .int (nI ic.toNat), .ref psg, .ref ptw, .ref pdb, .ref pad, .ref pal, .ref pah, .ref pst, .int (nI sn)])), (psg, .inl (D.2.1, 10, .inl (nA SI))), (ptw, .inl (D.2.1, 100, .inl (nA TW))), (pad, .inl (D.2.1, 10, .inl (nA (prevF (fun x9 => adF (ST x9) SI TW) AD (i + 1))))), (pal, .inl (D.2.1, 32, .inl (nA (prevF (fun x9 => hlfL (adF (ST x9) SI TW)) AL (i + 1))))), (pah, .inl (D.2.1, 32, .inl (nA (hlfH (adF (ST i) SI TW)))))] _ _ := hW.row 9 rfl (fun j hj => congrArg (nI) (e_16 j hj)) rfl
              have e_17 : ∀ k, k < 32 → (hlfH (adF (ST i) SI TW)) k = (prevF (fun x9 => hlfH (adF (ST x9) SI TW)) AH (i + 1)) k := by
                intro k hk
                first | rfl | (simp [*]; done)
              have hW : Wd X D A [(pwy, .inl (D.2.1, 7, .inl (nA (va_up WY n (pout tot V ST sn (i + 1)).1)))), (pfp, .inl (D.2.1, 7, .inl (zA (va_up FP n (pout tot V ST sn (i + 1)).2.1)))), (pmd, .inl (D.2.1, 7, .inl (nA (va_up MD n (pout tot V ST sn (i + 1)).2.2)))), (pdb, .inl (D.2.1, 1024, .inl (nA DB))), (pst, .inl (D.2.1, 252, .inl (nA ST))), (pr, .inr (2, [.ref pwy, .ref pfp, .ref pmd, .ref pik, .int (nI ic.toNat), .ref psg, .ref ptw, .ref pdb, .ref pad, .ref pal, .ref pah, .ref pst, .int (nI sn)])), (psg, .inl (D.2.1, 10, .inl (nA SI))), (ptw, .inl (D.2.1, 100, .inl (nA TW))), (pad, .inl (D.2.1, 10, .inl (nA (prevF (fun x9 => adF (ST x9) SI TW) AD (i + 1))))), (pal, .inl (D.2.1, 32, .inl (nA (prevF (fun x9 => hlfL (adF (ST x9) SI TW)) AL (i + 1))))), (pah, .inl (D.2.1, 32, .inl (nA (prevF (fun x9 => hlfH (adF (ST x9) SI TW)) AH (i + 1)))))] _ _ := hW.row 10 rfl (fun j hj => congrArg (nI) (e_17 j hj)) rfl
              exact ihL23_1 (i + 1) (by first | assumption | omega | (simp [*]; done)) (by omega) _ _ (hW.conv [5, 0, 1, 2, 6, 7, 3, 8, 9, 10, 4] (w1 := [(pr, .inr (2, [.ref pwy, .ref pfp, .ref pmd, .ref pik, .int (nI ic.toNat), .ref psg, .ref ptw, .ref pdb, .ref pad, .ref pal, .ref pah, .ref pst, .int (nI sn)])), (pwy, .inl (D.2.1, 7, .inl (nA (va_up WY n (pout tot V ST sn (i + 1)).1)))), (pfp, .inl (D.2.1, 7, .inl (zA (va_up FP n (pout tot V ST sn (i + 1)).2.1)))), (pmd, .inl (D.2.1, 7, .inl (nA (va_up MD n (pout tot V ST sn (i + 1)).2.2)))), (psg, .inl (D.2.1, 10, .inl (nA SI))), (ptw, .inl (D.2.1, 100, .inl (nA TW))), (pdb, .inl (D.2.1, 1024, .inl (nA DB))), (pad, .inl (D.2.1, 10, .inl (nA (prevF (fun x9 => adF (ST x9) SI TW) AD (i + 1))))), (pal, .inl (D.2.1, 32, .inl (nA (prevF (fun x9 => hlfL (adF (ST x9) SI TW)) AL (i + 1))))), (pah, .inl (D.2.1, 32, .inl (nA (prevF (fun x9 => hlfH (adF (ST x9) SI TW)) AH (i + 1))))), (pst, .inl (D.2.1, 252, .inl (nA ST)))]) (w2 := [(pr, .inr (2, [.ref pwy, .ref pfp, .ref pmd, .ref pik, .int (nI ic.toNat), .ref psg, .ref ptw, .ref pdb, .ref pad, .ref pal, .ref pah, .ref pst, .int (nI sn)])), (pwy, .inl (D.2.1, 7, .inl (nA (va_up WY n (pout tot V ST sn (i + 1)).1)))), (pfp, .inl (D.2.1, 7, .inl (zA (va_up FP n (pout tot V ST sn (i + 1)).2.1)))), (pmd, .inl (D.2.1, 7, .inl (nA (va_up MD n (pout tot V ST sn (i + 1)).2.2)))), (psg, .inl (D.2.1, 10, .inl (nA SI))), (ptw, .inl (D.2.1, 100, .inl (nA TW))), (pdb, .inl (D.2.1, 1024, .inl (nA DB))), (pad, .inl (D.2.1, 10, .inl (nA (prevF (fun x9 => adF (ST x9) SI TW) AD (i + 1))))), (pal, .inl (D.2.1, 32, .inl (nA (prevF (fun x9 => hlfL (adF (ST x9) SI TW)) AL (i + 1))))), (pah, .inl (D.2.1, 32, .inl (nA (prevF (fun x9 => hlfH (adF (ST x9) SI TW)) AH (i + 1))))), (pst, .inl (D.2.1, 252, .inl (nA ST)))]) rfl rfl rfl) _ (lv_to (l := [(0, .ref pr), (1, .int (nI tot)), (2, .int (nI n)), (3, .int (nI (i + 1)))]) (l2 := [(0, .ref pr), (1, .int (nI tot)), (2, .int (nI n)), (3, .int (nI (i + 1)))]) (lv_sub hl [1, 2, 3, 0] rfl) (cE rfl (cE rfl (cE rfl (cE (congrArg (fun z => ((3, Value.int z) : Nat × Value)) (congrArg (fun z : Nat => nI z) e_11)) rfl)))))
            · refine x_aload_n hx dX2_weighAll_59 hl 0 rfl ?_
              refine x_get2 hx hW.1 5 rfl 11 (Nat.le_of_ble_eq_true rfl) wf_RX2_47 rfl dX2_weighAll_60 ?_
              refine x_iload hx dX2_weighAll_63 hl 6 rfl ?_
              have hj_65 : j < 252 := by omega
              refine x_iald (v := nI (ST j)) hx hW.1 4 rfl hj_65 (by decide) (rfl) dX2_weighAll_65 ?_
              have hsj := hST j (by omega)
              refine x_istore (lv' := [(7, .int (nI (ST j))), (0, .ref pr), (1, .int (nI tot)), (2, .int (nI n)), (3, .int (nI i)), (4, .int (nI (ST i))), (5, .int (nI (alF (ST i) SI))), (6, .int (nI j))]) hx dX2_weighAll_66 hl (Nat.le_of_ble_eq_true rfl) rfl (fun ls hl => ?_)
              have hvv := hV (ST i) (ST j) hsj
              have hv2 := hV2 (ST i) (ST j)
              have hxy : ST i &&& ST j < 1024 := Nat.and_lt_two_pow (ST i) (n := 10) hsj
              have hdb := hDB _ hxy
              refine x_iload hx dX2_weighAll_68 hl 6 rfl ?_
              refine x_aload_n hx dX2_weighAll_70 hl 1 rfl ?_
              refine x_get2 hx hW.1 5 rfl 9 (Nat.le_of_ble_eq_true rfl) wf_RX2_41 rfl dX2_weighAll_71 ?_
              refine x_iload hx dX2_weighAll_74 hl 0 rfl ?_
              refine x_bipush (v := nI 32) hx dX2_weighAll_76 (by decide) ?_
              refine x_irem (v := nI ((ST j) % 32)) hx dX2_weighAll_78 (by decide) (pk_rem (by omega) (by omega) (by omega)) ?_
              have hj_79 : (ST j) % 32 < 32 := by omega
              refine x_iald (v := nI ((hlfL (adF (ST i) SI TW)) ((ST j) % 32))) hx hW.1 9 rfl hj_79 (by decide) (rfl) dX2_weighAll_79 ?_
              refine x_iadd (v := nI (alF (ST i) SI + ((hlfL (adF (ST i) SI TW)) ((ST j) % 32)))) hx dX2_weighAll_80 (nI_add _ _) ?_
              refine x_aload_n hx dX2_weighAll_81 hl 1 rfl ?_
              refine x_get2 hx hW.1 5 rfl 10 (Nat.le_of_ble_eq_true rfl) wf_RX2_44 rfl dX2_weighAll_82 ?_
              refine x_iload hx dX2_weighAll_85 hl 0 rfl ?_
              refine x_bipush (v := nI 32) hx dX2_weighAll_87 (by decide) ?_
              refine x_idiv (v := nI ((ST j) / 32)) hx dX2_weighAll_89 (by decide) (pk_div (by omega) (by omega) (by omega)) ?_
              have hj_90 : (ST j) / 32 < 32 := by omega
              refine x_iald (v := nI ((hlfH (adF (ST i) SI TW)) ((ST j) / 32))) hx hW.1 10 rfl hj_90 (by decide) (rfl) dX2_weighAll_90 ?_
              refine x_iadd (v := nI ((alF (ST i) SI + ((hlfL (adF (ST i) SI TW)) ((ST j) % 32))) + ((hlfH (adF (ST i) SI TW)) ((ST j) / 32)))) hx dX2_weighAll_91 (nI_add _ _) ?_
              refine x_aload_n hx dX2_weighAll_92 hl 1 rfl ?_
              refine x_get2 hx hW.1 5 rfl 7 (Nat.le_of_ble_eq_true rfl) wf_RX2_35 rfl dX2_weighAll_93 ?_
              refine x_iload hx dX2_weighAll_96 hl 5 rfl ?_
              refine x_iload hx dX2_weighAll_98 hl 0 rfl ?_
              refine x_iand (v := nI ((ST i) &&& (ST j))) hx dX2_weighAll_100 (nI_and _ _) ?_
              have hj_101 : (ST i) &&& (ST j) < 1024 := by omega
              refine x_iald (v := nI (DB ((ST i) &&& (ST j)))) hx hW.1 3 rfl hj_101 (by decide) (rfl) dX2_weighAll_101 ?_
              refine x_isub (v := nI (((alF (ST i) SI + ((hlfL (adF (ST i) SI TW)) ((ST j) % 32))) + ((hlfH (adF (ST i) SI TW)) ((ST j) / 32))) - (DB ((ST i) &&& (ST j))))) hx dX2_weighAll_102 (pk_sub (by omega)) ?_
              refine x_top (u := nI (V (ST i) (ST j))) (congrArg nI (by omega)) ?_
              refine x_istore (lv' := [(8, .int (nI (V (ST i) (ST j)))), (7, .int (nI (ST j))), (0, .ref pr), (1, .int (nI tot)), (2, .int (nI n)), (3, .int (nI i)), (4, .int (nI (ST i))), (5, .int (nI (alF (ST i) SI))), (6, .int (nI j))]) hx dX2_weighAll_103 hl (Nat.le_of_ble_eq_true rfl) rfl (fun ls hl => ?_)
              refine x_iload hx dX2_weighAll_105 hl 0 rfl ?_
              refine x_aload_n hx dX2_weighAll_107 hl 2 rfl ?_
              refine x_get2 hx hW.1 5 rfl 2 (Nat.le_of_ble_eq_true rfl) wf_RX2_18 rfl dX2_weighAll_108 ?_
              refine x_iload_n hx dX2_weighAll_111 hl 4 rfl ?_
              have hj_112 : n < 7 := by omega
              refine x_iald (v := nI ((pin tot V ST i j (pout tot V ST sn i)).2.2)) hx hW.1 2 rfl hj_112 (by decide) (congrArg (nI) (va_up_same _ _ _)) dX2_weighAll_112 ?_
              refine x_icmp_le_N (a := (V (ST i) (ST j))) (b := ((pin tot V ST i j (pout tot V ST sn i)).2.2)) (tgt := 124) hx dX2_weighAll_113 (by decide) (by omega) (by omega) (fun h_18 => ?_) (fun h_18 => ?_)
              · refine x_iload hx dX2_weighAll_124 hl 0 rfl ?_
                refine x_iload_n hx dX2_weighAll_126 hl 3 rfl ?_
                refine x_icmp_ne_N (a := (V (ST i) (ST j))) (b := tot) (tgt := 164) hx dX2_weighAll_127 (by decide) (by omega) (by omega) (fun h_19 => ?_) (fun h_19 => ?_)
                · refine x_iinc (v := nI (j + 1)) (lv' := [(6, .int (nI (j + 1))), (8, .int (nI (V (ST i) (ST j)))), (7, .int (nI (ST j))), (0, .ref pr), (1, .int (nI tot)), (2, .int (nI n)), (3, .int (nI i)), (4, .int (nI (ST i))), (5, .int (nI (alF (ST i) SI)))]) hx dX2_weighAll_164 hl 8 rfl (nI_addc j 1) (Nat.le_of_ble_eq_true rfl) rfl (fun ls hl => ?_)
                  refine x_goto (tgt := 50) hx dX2_weighAll_167 (by decide) ?_
                  have e_20 : (j + 1 : Nat) = (j + 1) := by
                    first | rfl | omega | (simp [*]; done) | (simp [*]; omega)
                  have e_21 : ∀ k, k < 7 → (va_up WY n (pin tot V ST i j (pout tot V ST sn i)).1) k = (va_up WY n (pin tot V ST i (j + 1) (pout tot V ST sn i)).1) k := by
                    intro k hk
                    refine congrArg (fun z => va_up WY n z k) ?_
                    first | (rw [pin_0]; done) | (rw [pin_s (by omega)]; simp only [pstep]; first | omega | (simp [*]; done) | (simp [*]; omega))
                  have hW : Wd X D A [(pwy, .inl (D.2.1, 7, .inl (nA (va_up WY n (pin tot V ST i (j + 1) (pout tot V ST sn i)).1)))), (pfp, .inl (D.2.1, 7, .inl (zA (va_up FP n (pin tot V ST i j (pout tot V ST sn i)).2.1)))), (pmd, .inl (D.2.1, 7, .inl (nA (va_up MD n (pin tot V ST i j (pout tot V ST sn i)).2.2)))), (pdb, .inl (D.2.1, 1024, .inl (nA DB))), (pst, .inl (D.2.1, 252, .inl (nA ST))), (pr, .inr (2, [.ref pwy, .ref pfp, .ref pmd, .ref pik, .int (nI ic.toNat), .ref psg, .ref ptw, .ref pdb, .ref pad, .ref pal, .ref pah, .ref pst, .int (nI sn)])), (psg, .inl (D.2.1, 10, .inl (nA SI))), (ptw, .inl (D.2.1, 100, .inl (nA TW))), (pad, .inl (D.2.1, 10, .inl (nA (adF (ST i) SI TW)))), (pal, .inl (D.2.1, 32, .inl (nA (hlfL (adF (ST i) SI TW))))), (pah, .inl (D.2.1, 32, .inl (nA (hlfH (adF (ST i) SI TW)))))] _ _ := hW.row 0 rfl (fun j hj => congrArg (nI) (e_21 j hj)) rfl
                  have e_22 : ∀ k, k < 7 → (va_up FP n (pin tot V ST i j (pout tot V ST sn i)).2.1) k = (va_up FP n (pin tot V ST i (j + 1) (pout tot V ST sn i)).2.1) k := by
                    intro k hk
                    refine congrArg (fun z => va_up FP n z k) ?_
                    first | (rw [pin_0]; done) | (rw [pin_s (by omega)]; simp only [pstep]; first | omega | (simp [*]; done) | (simp [*]; omega))
                  have hW : Wd X D A [(pwy, .inl (D.2.1, 7, .inl (nA (va_up WY n (pin tot V ST i (j + 1) (pout tot V ST sn i)).1)))), (pfp, .inl (D.2.1, 7, .inl (zA (va_up FP n (pin tot V ST i (j + 1) (pout tot V ST sn i)).2.1)))), (pmd, .inl (D.2.1, 7, .inl (nA (va_up MD n (pin tot V ST i j (pout tot V ST sn i)).2.2)))), (pdb, .inl (D.2.1, 1024, .inl (nA DB))), (pst, .inl (D.2.1, 252, .inl (nA ST))), (pr, .inr (2, [.ref pwy, .ref pfp, .ref pmd, .ref pik, .int (nI ic.toNat), .ref psg, .ref ptw, .ref pdb, .ref pad, .ref pal, .ref pah, .ref pst, .int (nI sn)])), (psg, .inl (D.2.1, 10, .inl (nA SI))), (ptw, .inl (D.2.1, 100, .inl (nA TW))), (pad, .inl (D.2.1, 10, .inl (nA (adF (ST i) SI TW)))), (pal, .inl (D.2.1, 32, .inl (nA (hlfL (adF (ST i) SI TW))))), (pah, .inl (D.2.1, 32, .inl (nA (hlfH (adF (ST i) SI TW)))))] _ _ := hW.row 1 rfl (fun j hj => congrArg (iI) (e_22 j hj)) rfl
                  have e_23 : ∀ k, k < 7 → (va_up MD n (pin tot V ST i j (pout tot V ST sn i)).2.2) k = (va_up MD n (pin tot V ST i (j + 1) (pout tot V ST sn i)).2.2) k := by
                    intro k hk
                    refine congrArg (fun z => va_up MD n z k) ?_
                    first | (rw [pin_0]; done) | (rw [pin_s (by omega)]; simp only [pstep]; first | omega | (simp [*]; done) | (simp [*]; omega))
                  have hW : Wd X D A [(pwy, .inl (D.2.1, 7, .inl (nA (va_up WY n (pin tot V ST i (j + 1) (pout tot V ST sn i)).1)))), (pfp, .inl (D.2.1, 7, .inl (zA (va_up FP n (pin tot V ST i (j + 1) (pout tot V ST sn i)).2.1)))), (pmd, .inl (D.2.1, 7, .inl (nA (va_up MD n (pin tot V ST i (j + 1) (pout tot V ST sn i)).2.2)))), (pdb, .inl (D.2.1, 1024, .inl (nA DB))), (pst, .inl (D.2.1, 252, .inl (nA ST))), (pr, .inr (2, [.ref pwy, .ref pfp, .ref pmd, .ref pik, .int (nI ic.toNat), .ref psg, .ref ptw, .ref pdb, .ref pad, .ref pal, .ref pah, .ref pst, .int (nI sn)])), (psg, .inl (D.2.1, 10, .inl (nA SI))), (ptw, .inl (D.2.1, 100, .inl (nA TW))), (pad, .inl (D.2.1, 10, .inl (nA (adF (ST i) SI TW)))), (pal, .inl (D.2.1, 32, .inl (nA (hlfL (adF (ST i) SI TW))))), (pah, .inl (D.2.1, 32, .inl (nA (hlfH (adF (ST i) SI TW)))))] _ _ := hW.row 2 rfl (fun j hj => congrArg (nI) (e_23 j hj)) rfl
                  exact ihL50_9 (j + 1) (by first | assumption | omega | (simp [*]; done)) (by first | assumption | omega | (simp [*]; done)) (by omega) _ _ hW _ (lv_to (l := [(0, .ref pr), (1, .int (nI tot)), (2, .int (nI n)), (3, .int (nI i)), (4, .int (nI (ST i))), (5, .int (nI (alF (ST i) SI))), (6, .int (nI (j + 1)))]) (l2 := [(0, .ref pr), (1, .int (nI tot)), (2, .int (nI n)), (3, .int (nI i)), (4, .int (nI (ST i))), (5, .int (nI (alF (ST i) SI))), (6, .int (nI (j + 1)))]) (lv_sub hl [3, 4, 5, 6, 7, 8, 0] rfl) (cE rfl (cE rfl (cE rfl (cE rfl (cE rfl (cE rfl (cE (congrArg (fun z => ((6, Value.int z) : Nat × Value)) (congrArg (fun z : Nat => nI z) e_20)) rfl))))))))
                · refine x_aload_n hx dX2_weighAll_130 hl 2 rfl ?_
                  refine x_get2 hx hW.1 5 rfl 0 (Nat.le_of_ble_eq_true rfl) wf_RX2_9 rfl dX2_weighAll_131 ?_
                  refine x_iload_n hx dX2_weighAll_134 hl 4 rfl ?_
                  have hj_135 : n < 7 := by omega
                  refine x_iald (v := nI ((pin tot V ST i j (pout tot V ST sn i)).1)) hx hW.1 0 rfl hj_135 (by decide) (congrArg (nI) (va_up_same _ _ _)) dX2_weighAll_135 ?_
                  refine x_if_ne_N (a := ((pin tot V ST i j (pout tot V ST sn i)).1)) (tgt := 154) hx dX2_weighAll_136 (by decide) (by omega) (fun h_24 => ?_) (fun h_24 => ?_)
                  · refine x_aload_n hx dX2_weighAll_154 hl 2 rfl ?_
                    refine x_get2 hx hW.1 5 rfl 0 (Nat.le_of_ble_eq_true rfl) wf_RX2_9 rfl dX2_weighAll_155 ?_
                    refine x_iload_n hx dX2_weighAll_158 hl 4 rfl ?_
                    refine x_dup2 hx dX2_weighAll_159 rfl rfl ?_
                    have hj_160 : n < 7 := by omega
                    refine x_iald (v := nI ((pin tot V ST i j (pout tot V ST sn i)).1)) hx hW.1 0 rfl hj_160 (by decide) (congrArg (nI) (va_up_same _ _ _)) dX2_weighAll_160 ?_
                    refine x_iconst (v := nI 1) hx dX2_weighAll_161 (by decide) ?_
                    refine x_iadd (v := nI ((pin tot V ST i j (pout tot V ST sn i)).1 + 1)) hx dX2_weighAll_162 (nI_add _ _) ?_
                    have hj_163 : n < 7 := by omega
                    refine x_iast hx hW 0 rfl hj_163 (by decide) ((upd_nA _ _ _).trans (congrArg nA (bx_uu _ _ _ _))) dX2_weighAll_163 [(pwy, .inl (D.2.1, 7, .inl (nA (va_up WY n ((pin tot V ST i j (pout tot V ST sn i)).1 + 1))))), (pfp, .inl (D.2.1, 7, .inl (zA (va_up FP n (pin tot V ST i j (pout tot V ST sn i)).2.1)))), (pmd, .inl (D.2.1, 7, .inl (nA (va_up MD n (pin tot V ST i j (pout tot V ST sn i)).2.2)))), (pdb, .inl (D.2.1, 1024, .inl (nA DB))), (pst, .inl (D.2.1, 252, .inl (nA ST))), (pr, .inr (2, [.ref pwy, .ref pfp, .ref pmd, .ref pik, .int (nI ic.toNat), .ref psg, .ref ptw, .ref pdb, .ref pad, .ref pal, .ref pah, .ref pst, .int (nI sn)])), (psg, .inl (D.2.1, 10, .inl (nA SI))), (ptw, .inl (D.2.1, 100, .inl (nA TW))), (pad, .inl (D.2.1, 10, .inl (nA (adF (ST i) SI TW)))), (pal, .inl (D.2.1, 32, .inl (nA (hlfL (adF (ST i) SI TW))))), (pah, .inl (D.2.1, 32, .inl (nA (hlfH (adF (ST i) SI TW)))))] rfl (fun H locs hW => ?_)
                    refine x_iinc (v := nI (j + 1)) (lv' := [(6, .int (nI (j + 1))), (8, .int (nI (V (ST i) (ST j)))), (7, .int (nI (ST j))), (0, .ref pr), (1, .int (nI tot)), (2, .int (nI n)), (3, .int (nI i)), (4, .int (nI (ST i))), (5, .int (nI (alF (ST i) SI)))]) hx dX2_weighAll_164 hl 8 rfl (nI_addc j 1) (Nat.le_of_ble_eq_true rfl) rfl (fun ls hl => ?_)
                    refine x_goto (tgt := 50) hx dX2_weighAll_167 (by decide) ?_
                    have e_25 : (j + 1 : Nat) = (j + 1) := by
                      first | rfl | omega | (simp [*]; done) | (simp [*]; omega)
                    have e_26 : ∀ k, k < 7 → (va_up WY n ((pin tot V ST i j (pout tot V ST sn i)).1 + 1)) k = (va_up WY n (pin tot V ST i (j + 1) (pout tot V ST sn i)).1) k := by
                      intro k hk
                      refine congrArg (fun z => va_up WY n z k) ?_
                      first | (rw [pin_0]; done) | (rw [pin_s (by omega)]; simp only [pstep]; first | omega | (simp [*]; done) | (simp [*]; omega))
                    have hW : Wd X D A [(pwy, .inl (D.2.1, 7, .inl (nA (va_up WY n (pin tot V ST i (j + 1) (pout tot V ST sn i)).1)))), (pfp, .inl (D.2.1, 7, .inl (zA (va_up FP n (pin tot V ST i j (pout tot V ST sn i)).2.1)))), (pmd, .inl (D.2.1, 7, .inl (nA (va_up MD n (pin tot V ST i j (pout tot V ST sn i)).2.2)))), (pdb, .inl (D.2.1, 1024, .inl (nA DB))), (pst, .inl (D.2.1, 252, .inl (nA ST))), (pr, .inr (2, [.ref pwy, .ref pfp, .ref pmd, .ref pik, .int (nI ic.toNat), .ref psg, .ref ptw, .ref pdb, .ref pad, .ref pal, .ref pah, .ref pst, .int (nI sn)])), (psg, .inl (D.2.1, 10, .inl (nA SI))), (ptw, .inl (D.2.1, 100, .inl (nA TW))), (pad, .inl (D.2.1, 10, .inl (nA (adF (ST i) SI TW)))), (pal, .inl (D.2.1, 32, .inl (nA (hlfL (adF (ST i) SI TW))))), (pah, .inl (D.2.1, 32, .inl (nA (hlfH (adF (ST i) SI TW)))))] _ _ := hW.row 0 rfl (fun j hj => congrArg (nI) (e_26 j hj)) rfl
                    have e_27 : ∀ k, k < 7 → (va_up FP n (pin tot V ST i j (pout tot V ST sn i)).2.1) k = (va_up FP n (pin tot V ST i (j + 1) (pout tot V ST sn i)).2.1) k := by
                      intro k hk
                      refine congrArg (fun z => va_up FP n z k) ?_
                      first | (rw [pin_0]; done) | (rw [pin_s (by omega)]; simp only [pstep]; first | omega | (simp [*]; done) | (simp [*]; omega))
                    have hW : Wd X D A [(pwy, .inl (D.2.1, 7, .inl (nA (va_up WY n (pin tot V ST i (j + 1) (pout tot V ST sn i)).1)))), (pfp, .inl (D.2.1, 7, .inl (zA (va_up FP n (pin tot V ST i (j + 1) (pout tot V ST sn i)).2.1)))), (pmd, .inl (D.2.1, 7, .inl (nA (va_up MD n (pin tot V ST i j (pout tot V ST sn i)).2.2)))), (pdb, .inl (D.2.1, 1024, .inl (nA DB))), (pst, .inl (D.2.1, 252, .inl (nA ST))), (pr, .inr (2, [.ref pwy, .ref pfp, .ref pmd, .ref pik, .int (nI ic.toNat), .ref psg, .ref ptw, .ref pdb, .ref pad, .ref pal, .ref pah, .ref pst, .int (nI sn)])), (psg, .inl (D.2.1, 10, .inl (nA SI))), (ptw, .inl (D.2.1, 100, .inl (nA TW))), (pad, .inl (D.2.1, 10, .inl (nA (adF (ST i) SI TW)))), (pal, .inl (D.2.1, 32, .inl (nA (hlfL (adF (ST i) SI TW))))), (pah, .inl (D.2.1, 32, .inl (nA (hlfH (adF (ST i) SI TW)))))] _ _ := hW.row 1 rfl (fun j hj => congrArg (iI) (e_27 j hj)) rfl
                    have e_28 : ∀ k, k < 7 → (va_up MD n (pin tot V ST i j (pout tot V ST sn i)).2.2) k = (va_up MD n (pin tot V ST i (j + 1) (pout tot V ST sn i)).2.2) k := by
                      intro k hk
                      refine congrArg (fun z => va_up MD n z k) ?_
                      first | (rw [pin_0]; done) | (rw [pin_s (by omega)]; simp only [pstep]; first | omega | (simp [*]; done) | (simp [*]; omega))
                    have hW : Wd X D A [(pwy, .inl (D.2.1, 7, .inl (nA (va_up WY n (pin tot V ST i (j + 1) (pout tot V ST sn i)).1)))), (pfp, .inl (D.2.1, 7, .inl (zA (va_up FP n (pin tot V ST i (j + 1) (pout tot V ST sn i)).2.1)))), (pmd, .inl (D.2.1, 7, .inl (nA (va_up MD n (pin tot V ST i (j + 1) (pout tot V ST sn i)).2.2)))), (pdb, .inl (D.2.1, 1024, .inl (nA DB))), (pst, .inl (D.2.1, 252, .inl (nA ST))), (pr, .inr (2, [.ref pwy, .ref pfp, .ref pmd, .ref pik, .int (nI ic.toNat), .ref psg, .ref ptw, .ref pdb, .ref pad, .ref pal, .ref pah, .ref pst, .int (nI sn)])), (psg, .inl (D.2.1, 10, .inl (nA SI))), (ptw, .inl (D.2.1, 100, .inl (nA TW))), (pad, .inl (D.2.1, 10, .inl (nA (adF (ST i) SI TW)))), (pal, .inl (D.2.1, 32, .inl (nA (hlfL (adF (ST i) SI TW))))), (pah, .inl (D.2.1, 32, .inl (nA (hlfH (adF (ST i) SI TW)))))] _ _ := hW.row 2 rfl (fun j hj => congrArg (nI) (e_28 j hj)) rfl
                    exact ihL50_9 (j + 1) (by first | assumption | omega | (simp [*]; done)) (by first | assumption | omega | (simp [*]; done)) (by omega) _ _ hW _ (lv_to (l := [(0, .ref pr), (1, .int (nI tot)), (2, .int (nI n)), (3, .int (nI i)), (4, .int (nI (ST i))), (5, .int (nI (alF (ST i) SI))), (6, .int (nI (j + 1)))]) (l2 := [(0, .ref pr), (1, .int (nI tot)), (2, .int (nI n)), (3, .int (nI i)), (4, .int (nI (ST i))), (5, .int (nI (alF (ST i) SI))), (6, .int (nI (j + 1)))]) (lv_sub hl [3, 4, 5, 6, 7, 8, 0] rfl) (cE rfl (cE rfl (cE rfl (cE rfl (cE rfl (cE rfl (cE (congrArg (fun z => ((6, Value.int z) : Nat × Value)) (congrArg (fun z : Nat => nI z) e_25)) rfl))))))))
                  · refine x_aload_n hx dX2_weighAll_139 hl 2 rfl ?_
                    refine x_get2 hx hW.1 5 rfl 1 (Nat.le_of_ble_eq_true rfl) wf_RX2_15 rfl dX2_weighAll_140 ?_
                    refine x_iload_n hx dX2_weighAll_143 hl 4 rfl ?_
                    refine x_sipush (v := nI 1024) hx dX2_weighAll_144 (by decide) ?_
                    refine x_iload hx dX2_weighAll_147 hl 6 rfl ?_
                    refine x_imul (v := nI (1024 * (ST i))) hx dX2_weighAll_149 (pk_mul _ _) ?_
                    refine x_iload hx dX2_weighAll_150 hl 1 rfl ?_
                    refine x_iadd (v := nI (1024 * (ST i) + (ST j))) hx dX2_weighAll_152 (nI_add _ _) ?_
                    have hj_153 : n < 7 := by omega
                    refine x_iast hx hW 1 rfl hj_153 (by decide) ((upd_zA _ _ ((1024 * (ST i) + (ST j) : Nat) : Int)).trans (congrArg zA (bx_uu _ _ _ _))) dX2_weighAll_153 [(pwy, .inl (D.2.1, 7, .inl (nA (va_up WY n (pin tot V ST i j (pout tot V ST sn i)).1)))), (pfp, .inl (D.2.1, 7, .inl (zA (va_up FP n ((1024 * (ST i) + (ST j) : Nat) : Int))))), (pmd, .inl (D.2.1, 7, .inl (nA (va_up MD n (pin tot V ST i j (pout tot V ST sn i)).2.2)))), (pdb, .inl (D.2.1, 1024, .inl (nA DB))), (pst, .inl (D.2.1, 252, .inl (nA ST))), (pr, .inr (2, [.ref pwy, .ref pfp, .ref pmd, .ref pik, .int (nI ic.toNat), .ref psg, .ref ptw, .ref pdb, .ref pad, .ref pal, .ref pah, .ref pst, .int (nI sn)])), (psg, .inl (D.2.1, 10, .inl (nA SI))), (ptw, .inl (D.2.1, 100, .inl (nA TW))), (pad, .inl (D.2.1, 10, .inl (nA (adF (ST i) SI TW)))), (pal, .inl (D.2.1, 32, .inl (nA (hlfL (adF (ST i) SI TW))))), (pah, .inl (D.2.1, 32, .inl (nA (hlfH (adF (ST i) SI TW)))))] rfl (fun H locs hW => ?_)
                    refine x_aload_n hx dX2_weighAll_154 hl 2 rfl ?_
                    refine x_get2 hx hW.1 5 rfl 0 (Nat.le_of_ble_eq_true rfl) wf_RX2_9 rfl dX2_weighAll_155 ?_
                    refine x_iload_n hx dX2_weighAll_158 hl 4 rfl ?_
                    refine x_dup2 hx dX2_weighAll_159 rfl rfl ?_
                    have hj_160 : n < 7 := by omega
                    refine x_iald (v := nI ((pin tot V ST i j (pout tot V ST sn i)).1)) hx hW.1 0 rfl hj_160 (by decide) (congrArg (nI) (va_up_same _ _ _)) dX2_weighAll_160 ?_
                    refine x_iconst (v := nI 1) hx dX2_weighAll_161 (by decide) ?_
                    refine x_iadd (v := nI ((pin tot V ST i j (pout tot V ST sn i)).1 + 1)) hx dX2_weighAll_162 (nI_add _ _) ?_
                    have hj_163 : n < 7 := by omega
                    refine x_iast hx hW 0 rfl hj_163 (by decide) ((upd_nA _ _ _).trans (congrArg nA (bx_uu _ _ _ _))) dX2_weighAll_163 [(pwy, .inl (D.2.1, 7, .inl (nA (va_up WY n ((pin tot V ST i j (pout tot V ST sn i)).1 + 1))))), (pfp, .inl (D.2.1, 7, .inl (zA (va_up FP n ((1024 * (ST i) + (ST j) : Nat) : Int))))), (pmd, .inl (D.2.1, 7, .inl (nA (va_up MD n (pin tot V ST i j (pout tot V ST sn i)).2.2)))), (pdb, .inl (D.2.1, 1024, .inl (nA DB))), (pst, .inl (D.2.1, 252, .inl (nA ST))), (pr, .inr (2, [.ref pwy, .ref pfp, .ref pmd, .ref pik, .int (nI ic.toNat), .ref psg, .ref ptw, .ref pdb, .ref pad, .ref pal, .ref pah, .ref pst, .int (nI sn)])), (psg, .inl (D.2.1, 10, .inl (nA SI))), (ptw, .inl (D.2.1, 100, .inl (nA TW))), (pad, .inl (D.2.1, 10, .inl (nA (adF (ST i) SI TW)))), (pal, .inl (D.2.1, 32, .inl (nA (hlfL (adF (ST i) SI TW))))), (pah, .inl (D.2.1, 32, .inl (nA (hlfH (adF (ST i) SI TW)))))] rfl (fun H locs hW => ?_)
                    refine x_iinc (v := nI (j + 1)) (lv' := [(6, .int (nI (j + 1))), (8, .int (nI (V (ST i) (ST j)))), (7, .int (nI (ST j))), (0, .ref pr), (1, .int (nI tot)), (2, .int (nI n)), (3, .int (nI i)), (4, .int (nI (ST i))), (5, .int (nI (alF (ST i) SI)))]) hx dX2_weighAll_164 hl 8 rfl (nI_addc j 1) (Nat.le_of_ble_eq_true rfl) rfl (fun ls hl => ?_)
                    refine x_goto (tgt := 50) hx dX2_weighAll_167 (by decide) ?_
                    have e_29 : (j + 1 : Nat) = (j + 1) := by
                      first | rfl | omega | (simp [*]; done) | (simp [*]; omega)
                    have e_30 : ∀ k, k < 7 → (va_up WY n ((pin tot V ST i j (pout tot V ST sn i)).1 + 1)) k = (va_up WY n (pin tot V ST i (j + 1) (pout tot V ST sn i)).1) k := by
                      intro k hk
                      refine congrArg (fun z => va_up WY n z k) ?_
                      first | (rw [pin_0]; done) | (rw [pin_s (by omega)]; simp only [pstep]; first | omega | (simp [*]; done) | (simp [*]; omega))
                    have hW : Wd X D A [(pwy, .inl (D.2.1, 7, .inl (nA (va_up WY n (pin tot V ST i (j + 1) (pout tot V ST sn i)).1)))), (pfp, .inl (D.2.1, 7, .inl (zA (va_up FP n ((1024 * (ST i) + (ST j) : Nat) : Int))))), (pmd, .inl (D.2.1, 7, .inl (nA (va_up MD n (pin tot V ST i j (pout tot V ST sn i)).2.2)))), (pdb, .inl (D.2.1, 1024, .inl (nA DB))), (pst, .inl (D.2.1, 252, .inl (nA ST))), (pr, .inr (2, [.ref pwy, .ref pfp, .ref pmd, .ref pik, .int (nI ic.toNat), .ref psg, .ref ptw, .ref pdb, .ref pad, .ref pal, .ref pah, .ref pst, .int (nI sn)])), (psg, .inl (D.2.1, 10, .inl (nA SI))), (ptw, .inl (D.2.1, 100, .inl (nA TW))), (pad, .inl (D.2.1, 10, .inl (nA (adF (ST i) SI TW)))), (pal, .inl (D.2.1, 32, .inl (nA (hlfL (adF (ST i) SI TW))))), (pah, .inl (D.2.1, 32, .inl (nA (hlfH (adF (ST i) SI TW)))))] _ _ := hW.row 0 rfl (fun j hj => congrArg (nI) (e_30 j hj)) rfl
                    have e_31 : ∀ k, k < 7 → (va_up FP n ((1024 * (ST i) + (ST j) : Nat) : Int)) k = (va_up FP n (pin tot V ST i (j + 1) (pout tot V ST sn i)).2.1) k := by
                      intro k hk
                      refine congrArg (fun z => va_up FP n z k) ?_
                      first | (rw [pin_0]; done) | (rw [pin_s (by omega)]; simp only [pstep]; first | omega | (simp [*]; done) | (simp [*]; omega))
                    have hW : Wd X D A [(pwy, .inl (D.2.1, 7, .inl (nA (va_up WY n (pin tot V ST i (j + 1) (pout tot V ST sn i)).1)))), (pfp, .inl (D.2.1, 7, .inl (zA (va_up FP n (pin tot V ST i (j + 1) (pout tot V ST sn i)).2.1)))), (pmd, .inl (D.2.1, 7, .inl (nA (va_up MD n (pin tot V ST i j (pout tot V ST sn i)).2.2)))), (pdb, .inl (D.2.1, 1024, .inl (nA DB))), (pst, .inl (D.2.1, 252, .inl (nA ST))), (pr, .inr (2, [.ref pwy, .ref pfp, .ref pmd, .ref pik, .int (nI ic.toNat), .ref psg, .ref ptw, .ref pdb, .ref pad, .ref pal, .ref pah, .ref pst, .int (nI sn)])), (psg, .inl (D.2.1, 10, .inl (nA SI))), (ptw, .inl (D.2.1, 100, .inl (nA TW))), (pad, .inl (D.2.1, 10, .inl (nA (adF (ST i) SI TW)))), (pal, .inl (D.2.1, 32, .inl (nA (hlfL (adF (ST i) SI TW))))), (pah, .inl (D.2.1, 32, .inl (nA (hlfH (adF (ST i) SI TW)))))] _ _ := hW.row 1 rfl (fun j hj => congrArg (iI) (e_31 j hj)) rfl
                    have e_32 : ∀ k, k < 7 → (va_up MD n (pin tot V ST i j (pout tot V ST sn i)).2.2) k = (va_up MD n (pin tot V ST i (j + 1) (pout tot V ST sn i)).2.2) k := by
                      intro k hk
                      refine congrArg (fun z => va_up MD n z k) ?_
                      first | (rw [pin_0]; done) | (rw [pin_s (by omega)]; simp only [pstep]; first | omega | (simp [*]; done) | (simp [*]; omega))
                    have hW : Wd X D A [(pwy, .inl (D.2.1, 7, .inl (nA (va_up WY n (pin tot V ST i (j + 1) (pout tot V ST sn i)).1)))), (pfp, .inl (D.2.1, 7, .inl (zA (va_up FP n (pin tot V ST i (j + 1) (pout tot V ST sn i)).2.1)))), (pmd, .inl (D.2.1, 7, .inl (nA (va_up MD n (pin tot V ST i (j + 1) (pout tot V ST sn i)).2.2)))), (pdb, .inl (D.2.1, 1024, .inl (nA DB))), (pst, .inl (D.2.1, 252, .inl (nA ST))), (pr, .inr (2, [.ref pwy, .ref pfp, .ref pmd, .ref pik, .int (nI ic.toNat), .ref psg, .ref ptw, .ref pdb, .ref pad, .ref pal, .ref pah, .ref pst, .int (nI sn)])), (psg, .inl (D.2.1, 10, .inl (nA SI))), (ptw, .inl (D.2.1, 100, .inl (nA TW))), (pad, .inl (D.2.1, 10, .inl (nA (adF (ST i) SI TW)))), (pal, .inl (D.2.1, 32, .inl (nA (hlfL (adF (ST i) SI TW))))), (pah, .inl (D.2.1, 32, .inl (nA (hlfH (adF (ST i) SI TW)))))] _ _ := hW.row 2 rfl (fun j hj => congrArg (nI) (e_32 j hj)) rfl
                    exact ihL50_9 (j + 1) (by first | assumption | omega | (simp [*]; done)) (by first | assumption | omega | (simp [*]; done)) (by omega) _ _ hW _ (lv_to (l := [(0, .ref pr), (1, .int (nI tot)), (2, .int (nI n)), (3, .int (nI i)), (4, .int (nI (ST i))), (5, .int (nI (alF (ST i) SI))), (6, .int (nI (j + 1)))]) (l2 := [(0, .ref pr), (1, .int (nI tot)), (2, .int (nI n)), (3, .int (nI i)), (4, .int (nI (ST i))), (5, .int (nI (alF (ST i) SI))), (6, .int (nI (j + 1)))]) (lv_sub hl [3, 4, 5, 6, 7, 8, 0] rfl) (cE rfl (cE rfl (cE rfl (cE rfl (cE rfl (cE rfl (cE (congrArg (fun z => ((6, Value.int z) : Nat × Value)) (congrArg (fun z : Nat => nI z) e_29)) rfl))))))))
              · refine x_aload_n hx dX2_weighAll_116 hl 2 rfl ?_
                refine x_get2 hx hW.1 5 rfl 2 (Nat.le_of_ble_eq_true rfl) wf_RX2_18 rfl dX2_weighAll_117 ?_
                refine x_iload_n hx dX2_weighAll_120 hl 4 rfl ?_
                refine x_iload hx dX2_weighAll_121 hl 0 rfl ?_
                have hj_123 : n < 7 := by omega
                refine x_iast hx hW 2 rfl hj_123 (by decide) ((upd_nA _ _ _).trans (congrArg nA (bx_uu _ _ _ _))) dX2_weighAll_123 [(pwy, .inl (D.2.1, 7, .inl (nA (va_up WY n (pin tot V ST i j (pout tot V ST sn i)).1)))), (pfp, .inl (D.2.1, 7, .inl (zA (va_up FP n (pin tot V ST i j (pout tot V ST sn i)).2.1)))), (pmd, .inl (D.2.1, 7, .inl (nA (va_up MD n (V (ST i) (ST j)))))), (pdb, .inl (D.2.1, 1024, .inl (nA DB))), (pst, .inl (D.2.1, 252, .inl (nA ST))), (pr, .inr (2, [.ref pwy, .ref pfp, .ref pmd, .ref pik, .int (nI ic.toNat), .ref psg, .ref ptw, .ref pdb, .ref pad, .ref pal, .ref pah, .ref pst, .int (nI sn)])), (psg, .inl (D.2.1, 10, .inl (nA SI))), (ptw, .inl (D.2.1, 100, .inl (nA TW))), (pad, .inl (D.2.1, 10, .inl (nA (adF (ST i) SI TW)))), (pal, .inl (D.2.1, 32, .inl (nA (hlfL (adF (ST i) SI TW))))), (pah, .inl (D.2.1, 32, .inl (nA (hlfH (adF (ST i) SI TW)))))] rfl (fun H locs hW => ?_)
                refine x_iload hx dX2_weighAll_124 hl 0 rfl ?_
                refine x_iload_n hx dX2_weighAll_126 hl 3 rfl ?_
                refine x_icmp_ne_N (a := (V (ST i) (ST j))) (b := tot) (tgt := 164) hx dX2_weighAll_127 (by decide) (by omega) (by omega) (fun h_33 => ?_) (fun h_33 => ?_)
                · refine x_iinc (v := nI (j + 1)) (lv' := [(6, .int (nI (j + 1))), (8, .int (nI (V (ST i) (ST j)))), (7, .int (nI (ST j))), (0, .ref pr), (1, .int (nI tot)), (2, .int (nI n)), (3, .int (nI i)), (4, .int (nI (ST i))), (5, .int (nI (alF (ST i) SI)))]) hx dX2_weighAll_164 hl 8 rfl (nI_addc j 1) (Nat.le_of_ble_eq_true rfl) rfl (fun ls hl => ?_)
                  refine x_goto (tgt := 50) hx dX2_weighAll_167 (by decide) ?_
                  have e_34 : (j + 1 : Nat) = (j + 1) := by
                    first | rfl | omega | (simp [*]; done) | (simp [*]; omega)
                  have e_35 : ∀ k, k < 7 → (va_up WY n (pin tot V ST i j (pout tot V ST sn i)).1) k = (va_up WY n (pin tot V ST i (j + 1) (pout tot V ST sn i)).1) k := by
                    intro k hk
                    refine congrArg (fun z => va_up WY n z k) ?_
                    first | (rw [pin_0]; done) | (rw [pin_s (by omega)]; simp only [pstep]; first | omega | (simp [*]; done) | (simp [*]; omega))
                  have hW : Wd X D A [(pwy, .inl (D.2.1, 7, .inl (nA (va_up WY n (pin tot V ST i (j + 1) (pout tot V ST sn i)).1)))), (pfp, .inl (D.2.1, 7, .inl (zA (va_up FP n (pin tot V ST i j (pout tot V ST sn i)).2.1)))), (pmd, .inl (D.2.1, 7, .inl (nA (va_up MD n (V (ST i) (ST j)))))), (pdb, .inl (D.2.1, 1024, .inl (nA DB))), (pst, .inl (D.2.1, 252, .inl (nA ST))), (pr, .inr (2, [.ref pwy, .ref pfp, .ref pmd, .ref pik, .int (nI ic.toNat), .ref psg, .ref ptw, .ref pdb, .ref pad, .ref pal, .ref pah, .ref pst, .int (nI sn)])), (psg, .inl (D.2.1, 10, .inl (nA SI))), (ptw, .inl (D.2.1, 100, .inl (nA TW))), (pad, .inl (D.2.1, 10, .inl (nA (adF (ST i) SI TW)))), (pal, .inl (D.2.1, 32, .inl (nA (hlfL (adF (ST i) SI TW))))), (pah, .inl (D.2.1, 32, .inl (nA (hlfH (adF (ST i) SI TW)))))] _ _ := hW.row 0 rfl (fun j hj => congrArg (nI) (e_35 j hj)) rfl
                  have e_36 : ∀ k, k < 7 → (va_up FP n (pin tot V ST i j (pout tot V ST sn i)).2.1) k = (va_up FP n (pin tot V ST i (j + 1) (pout tot V ST sn i)).2.1) k := by
                    intro k hk
                    refine congrArg (fun z => va_up FP n z k) ?_
                    first | (rw [pin_0]; done) | (rw [pin_s (by omega)]; simp only [pstep]; first | omega | (simp [*]; done) | (simp [*]; omega))
                  have hW : Wd X D A [(pwy, .inl (D.2.1, 7, .inl (nA (va_up WY n (pin tot V ST i (j + 1) (pout tot V ST sn i)).1)))), (pfp, .inl (D.2.1, 7, .inl (zA (va_up FP n (pin tot V ST i (j + 1) (pout tot V ST sn i)).2.1)))), (pmd, .inl (D.2.1, 7, .inl (nA (va_up MD n (V (ST i) (ST j)))))), (pdb, .inl (D.2.1, 1024, .inl (nA DB))), (pst, .inl (D.2.1, 252, .inl (nA ST))), (pr, .inr (2, [.ref pwy, .ref pfp, .ref pmd, .ref pik, .int (nI ic.toNat), .ref psg, .ref ptw, .ref pdb, .ref pad, .ref pal, .ref pah, .ref pst, .int (nI sn)])), (psg, .inl (D.2.1, 10, .inl (nA SI))), (ptw, .inl (D.2.1, 100, .inl (nA TW))), (pad, .inl (D.2.1, 10, .inl (nA (adF (ST i) SI TW)))), (pal, .inl (D.2.1, 32, .inl (nA (hlfL (adF (ST i) SI TW))))), (pah, .inl (D.2.1, 32, .inl (nA (hlfH (adF (ST i) SI TW)))))] _ _ := hW.row 1 rfl (fun j hj => congrArg (iI) (e_36 j hj)) rfl
                  have e_37 : ∀ k, k < 7 → (va_up MD n (V (ST i) (ST j))) k = (va_up MD n (pin tot V ST i (j + 1) (pout tot V ST sn i)).2.2) k := by
                    intro k hk
                    refine congrArg (fun z => va_up MD n z k) ?_
                    first | (rw [pin_0]; done) | (rw [pin_s (by omega)]; simp only [pstep]; first | omega | (simp [*]; done) | (simp [*]; omega))
                  have hW : Wd X D A [(pwy, .inl (D.2.1, 7, .inl (nA (va_up WY n (pin tot V ST i (j + 1) (pout tot V ST sn i)).1)))), (pfp, .inl (D.2.1, 7, .inl (zA (va_up FP n (pin tot V ST i (j + 1) (pout tot V ST sn i)).2.1)))), (pmd, .inl (D.2.1, 7, .inl (nA (va_up MD n (pin tot V ST i (j + 1) (pout tot V ST sn i)).2.2)))), (pdb, .inl (D.2.1, 1024, .inl (nA DB))), (pst, .inl (D.2.1, 252, .inl (nA ST))), (pr, .inr (2, [.ref pwy, .ref pfp, .ref pmd, .ref pik, .int (nI ic.toNat), .ref psg, .ref ptw, .ref pdb, .ref pad, .ref pal, .ref pah, .ref pst, .int (nI sn)])), (psg, .inl (D.2.1, 10, .inl (nA SI))), (ptw, .inl (D.2.1, 100, .inl (nA TW))), (pad, .inl (D.2.1, 10, .inl (nA (adF (ST i) SI TW)))), (pal, .inl (D.2.1, 32, .inl (nA (hlfL (adF (ST i) SI TW))))), (pah, .inl (D.2.1, 32, .inl (nA (hlfH (adF (ST i) SI TW)))))] _ _ := hW.row 2 rfl (fun j hj => congrArg (nI) (e_37 j hj)) rfl
                  exact ihL50_9 (j + 1) (by first | assumption | omega | (simp [*]; done)) (by first | assumption | omega | (simp [*]; done)) (by omega) _ _ hW _ (lv_to (l := [(0, .ref pr), (1, .int (nI tot)), (2, .int (nI n)), (3, .int (nI i)), (4, .int (nI (ST i))), (5, .int (nI (alF (ST i) SI))), (6, .int (nI (j + 1)))]) (l2 := [(0, .ref pr), (1, .int (nI tot)), (2, .int (nI n)), (3, .int (nI i)), (4, .int (nI (ST i))), (5, .int (nI (alF (ST i) SI))), (6, .int (nI (j + 1)))]) (lv_sub hl [3, 4, 5, 6, 7, 8, 0] rfl) (cE rfl (cE rfl (cE rfl (cE rfl (cE rfl (cE rfl (cE (congrArg (fun z => ((6, Value.int z) : Nat × Value)) (congrArg (fun z : Nat => nI z) e_34)) rfl))))))))
                · refine x_aload_n hx dX2_weighAll_130 hl 2 rfl ?_
                  refine x_get2 hx hW.1 5 rfl 0 (Nat.le_of_ble_eq_true rfl) wf_RX2_9 rfl dX2_weighAll_131 ?_
                  refine x_iload_n hx dX2_weighAll_134 hl 4 rfl ?_
                  have hj_135 : n < 7 := by omega
                  refine x_iald (v := nI ((pin tot V ST i j (pout tot V ST sn i)).1)) hx hW.1 0 rfl hj_135 (by decide) (congrArg (nI) (va_up_same _ _ _)) dX2_weighAll_135 ?_
                  refine x_if_ne_N (a := ((pin tot V ST i j (pout tot V ST sn i)).1)) (tgt := 154) hx dX2_weighAll_136 (by decide) (by omega) (fun h_38 => ?_) (fun h_38 => ?_)
                  · refine x_aload_n hx dX2_weighAll_154 hl 2 rfl ?_
                    refine x_get2 hx hW.1 5 rfl 0 (Nat.le_of_ble_eq_true rfl) wf_RX2_9 rfl dX2_weighAll_155 ?_
                    refine x_iload_n hx dX2_weighAll_158 hl 4 rfl ?_
                    refine x_dup2 hx dX2_weighAll_159 rfl rfl ?_
                    have hj_160 : n < 7 := by omega
                    refine x_iald (v := nI ((pin tot V ST i j (pout tot V ST sn i)).1)) hx hW.1 0 rfl hj_160 (by decide) (congrArg (nI) (va_up_same _ _ _)) dX2_weighAll_160 ?_
                    refine x_iconst (v := nI 1) hx dX2_weighAll_161 (by decide) ?_
                    refine x_iadd (v := nI ((pin tot V ST i j (pout tot V ST sn i)).1 + 1)) hx dX2_weighAll_162 (nI_add _ _) ?_
                    have hj_163 : n < 7 := by omega
                    refine x_iast hx hW 0 rfl hj_163 (by decide) ((upd_nA _ _ _).trans (congrArg nA (bx_uu _ _ _ _))) dX2_weighAll_163 [(pwy, .inl (D.2.1, 7, .inl (nA (va_up WY n ((pin tot V ST i j (pout tot V ST sn i)).1 + 1))))), (pfp, .inl (D.2.1, 7, .inl (zA (va_up FP n (pin tot V ST i j (pout tot V ST sn i)).2.1)))), (pmd, .inl (D.2.1, 7, .inl (nA (va_up MD n (V (ST i) (ST j)))))), (pdb, .inl (D.2.1, 1024, .inl (nA DB))), (pst, .inl (D.2.1, 252, .inl (nA ST))), (pr, .inr (2, [.ref pwy, .ref pfp, .ref pmd, .ref pik, .int (nI ic.toNat), .ref psg, .ref ptw, .ref pdb, .ref pad, .ref pal, .ref pah, .ref pst, .int (nI sn)])), (psg, .inl (D.2.1, 10, .inl (nA SI))), (ptw, .inl (D.2.1, 100, .inl (nA TW))), (pad, .inl (D.2.1, 10, .inl (nA (adF (ST i) SI TW)))), (pal, .inl (D.2.1, 32, .inl (nA (hlfL (adF (ST i) SI TW))))), (pah, .inl (D.2.1, 32, .inl (nA (hlfH (adF (ST i) SI TW)))))] rfl (fun H locs hW => ?_)
                    refine x_iinc (v := nI (j + 1)) (lv' := [(6, .int (nI (j + 1))), (8, .int (nI (V (ST i) (ST j)))), (7, .int (nI (ST j))), (0, .ref pr), (1, .int (nI tot)), (2, .int (nI n)), (3, .int (nI i)), (4, .int (nI (ST i))), (5, .int (nI (alF (ST i) SI)))]) hx dX2_weighAll_164 hl 8 rfl (nI_addc j 1) (Nat.le_of_ble_eq_true rfl) rfl (fun ls hl => ?_)
                    refine x_goto (tgt := 50) hx dX2_weighAll_167 (by decide) ?_
                    have e_39 : (j + 1 : Nat) = (j + 1) := by
                      first | rfl | omega | (simp [*]; done) | (simp [*]; omega)
                    have e_40 : ∀ k, k < 7 → (va_up WY n ((pin tot V ST i j (pout tot V ST sn i)).1 + 1)) k = (va_up WY n (pin tot V ST i (j + 1) (pout tot V ST sn i)).1) k := by
                      intro k hk
                      refine congrArg (fun z => va_up WY n z k) ?_
                      first | (rw [pin_0]; done) | (rw [pin_s (by omega)]; simp only [pstep]; first | omega | (simp [*]; done) | (simp [*]; omega))
                    have hW : Wd X D A [(pwy, .inl (D.2.1, 7, .inl (nA (va_up WY n (pin tot V ST i (j + 1) (pout tot V ST sn i)).1)))), (pfp, .inl (D.2.1, 7, .inl (zA (va_up FP n (pin tot V ST i j (pout tot V ST sn i)).2.1)))), (pmd, .inl (D.2.1, 7, .inl (nA (va_up MD n (V (ST i) (ST j)))))), (pdb, .inl (D.2.1, 1024, .inl (nA DB))), (pst, .inl (D.2.1, 252, .inl (nA ST))), (pr, .inr (2, [.ref pwy, .ref pfp, .ref pmd, .ref pik, .int (nI ic.toNat), .ref psg, .ref ptw, .ref pdb, .ref pad, .ref pal, .ref pah, .ref pst, .int (nI sn)])), (psg, .inl (D.2.1, 10, .inl (nA SI))), (ptw, .inl (D.2.1, 100, .inl (nA TW))), (pad, .inl (D.2.1, 10, .inl (nA (adF (ST i) SI TW)))), (pal, .inl (D.2.1, 32, .inl (nA (hlfL (adF (ST i) SI TW))))), (pah, .inl (D.2.1, 32, .inl (nA (hlfH (adF (ST i) SI TW)))))] _ _ := hW.row 0 rfl (fun j hj => congrArg (nI) (e_40 j hj)) rfl
                    have e_41 : ∀ k, k < 7 → (va_up FP n (pin tot V ST i j (pout tot V ST sn i)).2.1) k = (va_up FP n (pin tot V ST i (j + 1) (pout tot V ST sn i)).2.1) k := by
                      intro k hk
                      refine congrArg (fun z => va_up FP n z k) ?_
                      first | (rw [pin_0]; done) | (rw [pin_s (by omega)]; simp only [pstep]; first | omega | (simp [*]; done) | (simp [*]; omega))
                    have hW : Wd X D A [(pwy, .inl (D.2.1, 7, .inl (nA (va_up WY n (pin tot V ST i (j + 1) (pout tot V ST sn i)).1)))), (pfp, .inl (D.2.1, 7, .inl (zA (va_up FP n (pin tot V ST i (j + 1) (pout tot V ST sn i)).2.1)))), (pmd, .inl (D.2.1, 7, .inl (nA (va_up MD n (V (ST i) (ST j)))))), (pdb, .inl (D.2.1, 1024, .inl (nA DB))), (pst, .inl (D.2.1, 252, .inl (nA ST))), (pr, .inr (2, [.ref pwy, .ref pfp, .ref pmd, .ref pik, .int (nI ic.toNat), .ref psg, .ref ptw, .ref pdb, .ref pad, .ref pal, .ref pah, .ref pst, .int (nI sn)])), (psg, .inl (D.2.1, 10, .inl (nA SI))), (ptw, .inl (D.2.1, 100, .inl (nA TW))), (pad, .inl (D.2.1, 10, .inl (nA (adF (ST i) SI TW)))), (pal, .inl (D.2.1, 32, .inl (nA (hlfL (adF (ST i) SI TW))))), (pah, .inl (D.2.1, 32, .inl (nA (hlfH (adF (ST i) SI TW)))))] _ _ := hW.row 1 rfl (fun j hj => congrArg (iI) (e_41 j hj)) rfl
                    have e_42 : ∀ k, k < 7 → (va_up MD n (V (ST i) (ST j))) k = (va_up MD n (pin tot V ST i (j + 1) (pout tot V ST sn i)).2.2) k := by
                      intro k hk
                      refine congrArg (fun z => va_up MD n z k) ?_
                      first | (rw [pin_0]; done) | (rw [pin_s (by omega)]; simp only [pstep]; first | omega | (simp [*]; done) | (simp [*]; omega))
                    have hW : Wd X D A [(pwy, .inl (D.2.1, 7, .inl (nA (va_up WY n (pin tot V ST i (j + 1) (pout tot V ST sn i)).1)))), (pfp, .inl (D.2.1, 7, .inl (zA (va_up FP n (pin tot V ST i (j + 1) (pout tot V ST sn i)).2.1)))), (pmd, .inl (D.2.1, 7, .inl (nA (va_up MD n (pin tot V ST i (j + 1) (pout tot V ST sn i)).2.2)))), (pdb, .inl (D.2.1, 1024, .inl (nA DB))), (pst, .inl (D.2.1, 252, .inl (nA ST))), (pr, .inr (2, [.ref pwy, .ref pfp, .ref pmd, .ref pik, .int (nI ic.toNat), .ref psg, .ref ptw, .ref pdb, .ref pad, .ref pal, .ref pah, .ref pst, .int (nI sn)])), (psg, .inl (D.2.1, 10, .inl (nA SI))), (ptw, .inl (D.2.1, 100, .inl (nA TW))), (pad, .inl (D.2.1, 10, .inl (nA (adF (ST i) SI TW)))), (pal, .inl (D.2.1, 32, .inl (nA (hlfL (adF (ST i) SI TW))))), (pah, .inl (D.2.1, 32, .inl (nA (hlfH (adF (ST i) SI TW)))))] _ _ := hW.row 2 rfl (fun j hj => congrArg (nI) (e_42 j hj)) rfl
                    exact ihL50_9 (j + 1) (by first | assumption | omega | (simp [*]; done)) (by first | assumption | omega | (simp [*]; done)) (by omega) _ _ hW _ (lv_to (l := [(0, .ref pr), (1, .int (nI tot)), (2, .int (nI n)), (3, .int (nI i)), (4, .int (nI (ST i))), (5, .int (nI (alF (ST i) SI))), (6, .int (nI (j + 1)))]) (l2 := [(0, .ref pr), (1, .int (nI tot)), (2, .int (nI n)), (3, .int (nI i)), (4, .int (nI (ST i))), (5, .int (nI (alF (ST i) SI))), (6, .int (nI (j + 1)))]) (lv_sub hl [3, 4, 5, 6, 7, 8, 0] rfl) (cE rfl (cE rfl (cE rfl (cE rfl (cE rfl (cE rfl (cE (congrArg (fun z => ((6, Value.int z) : Nat × Value)) (congrArg (fun z : Nat => nI z) e_39)) rfl))))))))
                  · refine x_aload_n hx dX2_weighAll_139 hl 2 rfl ?_
                    refine x_get2 hx hW.1 5 rfl 1 (Nat.le_of_ble_eq_true rfl) wf_RX2_15 rfl dX2_weighAll_140 ?_
                    refine x_iload_n hx dX2_weighAll_143 hl 4 rfl ?_
                    refine x_sipush (v := nI 1024) hx dX2_weighAll_144 (by decide) ?_
                    refine x_iload hx dX2_weighAll_147 hl 6 rfl ?_
                    refine x_imul (v := nI (1024 * (ST i))) hx dX2_weighAll_149 (pk_mul _ _) ?_
                    refine x_iload hx dX2_weighAll_150 hl 1 rfl ?_
                    refine x_iadd (v := nI (1024 * (ST i) + (ST j))) hx dX2_weighAll_152 (nI_add _ _) ?_
                    have hj_153 : n < 7 := by omega
                    refine x_iast hx hW 1 rfl hj_153 (by decide) ((upd_zA _ _ ((1024 * (ST i) + (ST j) : Nat) : Int)).trans (congrArg zA (bx_uu _ _ _ _))) dX2_weighAll_153 [(pwy, .inl (D.2.1, 7, .inl (nA (va_up WY n (pin tot V ST i j (pout tot V ST sn i)).1)))), (pfp, .inl (D.2.1, 7, .inl (zA (va_up FP n ((1024 * (ST i) + (ST j) : Nat) : Int))))), (pmd, .inl (D.2.1, 7, .inl (nA (va_up MD n (V (ST i) (ST j)))))), (pdb, .inl (D.2.1, 1024, .inl (nA DB))), (pst, .inl (D.2.1, 252, .inl (nA ST))), (pr, .inr (2, [.ref pwy, .ref pfp, .ref pmd, .ref pik, .int (nI ic.toNat), .ref psg, .ref ptw, .ref pdb, .ref pad, .ref pal, .ref pah, .ref pst, .int (nI sn)])), (psg, .inl (D.2.1, 10, .inl (nA SI))), (ptw, .inl (D.2.1, 100, .inl (nA TW))), (pad, .inl (D.2.1, 10, .inl (nA (adF (ST i) SI TW)))), (pal, .inl (D.2.1, 32, .inl (nA (hlfL (adF (ST i) SI TW))))), (pah, .inl (D.2.1, 32, .inl (nA (hlfH (adF (ST i) SI TW)))))] rfl (fun H locs hW => ?_)
                    refine x_aload_n hx dX2_weighAll_154 hl 2 rfl ?_
                    refine x_get2 hx hW.1 5 rfl 0 (Nat.le_of_ble_eq_true rfl) wf_RX2_9 rfl dX2_weighAll_155 ?_
                    refine x_iload_n hx dX2_weighAll_158 hl 4 rfl ?_
                    refine x_dup2 hx dX2_weighAll_159 rfl rfl ?_
                    have hj_160 : n < 7 := by omega
                    refine x_iald (v := nI ((pin tot V ST i j (pout tot V ST sn i)).1)) hx hW.1 0 rfl hj_160 (by decide) (congrArg (nI) (va_up_same _ _ _)) dX2_weighAll_160 ?_
                    refine x_iconst (v := nI 1) hx dX2_weighAll_161 (by decide) ?_
                    refine x_iadd (v := nI ((pin tot V ST i j (pout tot V ST sn i)).1 + 1)) hx dX2_weighAll_162 (nI_add _ _) ?_
                    have hj_163 : n < 7 := by omega
                    refine x_iast hx hW 0 rfl hj_163 (by decide) ((upd_nA _ _ _).trans (congrArg nA (bx_uu _ _ _ _))) dX2_weighAll_163 [(pwy, .inl (D.2.1, 7, .inl (nA (va_up WY n ((pin tot V ST i j (pout tot V ST sn i)).1 + 1))))), (pfp, .inl (D.2.1, 7, .inl (zA (va_up FP n ((1024 * (ST i) + (ST j) : Nat) : Int))))), (pmd, .inl (D.2.1, 7, .inl (nA (va_up MD n (V (ST i) (ST j)))))), (pdb, .inl (D.2.1, 1024, .inl (nA DB))), (pst, .inl (D.2.1, 252, .inl (nA ST))), (pr, .inr (2, [.ref pwy, .ref pfp, .ref pmd, .ref pik, .int (nI ic.toNat), .ref psg, .ref ptw, .ref pdb, .ref pad, .ref pal, .ref pah, .ref pst, .int (nI sn)])), (psg, .inl (D.2.1, 10, .inl (nA SI))), (ptw, .inl (D.2.1, 100, .inl (nA TW))), (pad, .inl (D.2.1, 10, .inl (nA (adF (ST i) SI TW)))), (pal, .inl (D.2.1, 32, .inl (nA (hlfL (adF (ST i) SI TW))))), (pah, .inl (D.2.1, 32, .inl (nA (hlfH (adF (ST i) SI TW)))))] rfl (fun H locs hW => ?_)
                    refine x_iinc (v := nI (j + 1)) (lv' := [(6, .int (nI (j + 1))), (8, .int (nI (V (ST i) (ST j)))), (7, .int (nI (ST j))), (0, .ref pr), (1, .int (nI tot)), (2, .int (nI n)), (3, .int (nI i)), (4, .int (nI (ST i))), (5, .int (nI (alF (ST i) SI)))]) hx dX2_weighAll_164 hl 8 rfl (nI_addc j 1) (Nat.le_of_ble_eq_true rfl) rfl (fun ls hl => ?_)
                    refine x_goto (tgt := 50) hx dX2_weighAll_167 (by decide) ?_
                    have e_43 : (j + 1 : Nat) = (j + 1) := by
                      first | rfl | omega | (simp [*]; done) | (simp [*]; omega)
                    have e_44 : ∀ k, k < 7 → (va_up WY n ((pin tot V ST i j (pout tot V ST sn i)).1 + 1)) k = (va_up WY n (pin tot V ST i (j + 1) (pout tot V ST sn i)).1) k := by
                      intro k hk
                      refine congrArg (fun z => va_up WY n z k) ?_
                      first | (rw [pin_0]; done) | (rw [pin_s (by omega)]; simp only [pstep]; first | omega | (simp [*]; done) | (simp [*]; omega))
                    have hW : Wd X D A [(pwy, .inl (D.2.1, 7, .inl (nA (va_up WY n (pin tot V ST i (j + 1) (pout tot V ST sn i)).1)))), (pfp, .inl (D.2.1, 7, .inl (zA (va_up FP n ((1024 * (ST i) + (ST j) : Nat) : Int))))), (pmd, .inl (D.2.1, 7, .inl (nA (va_up MD n (V (ST i) (ST j)))))), (pdb, .inl (D.2.1, 1024, .inl (nA DB))), (pst, .inl (D.2.1, 252, .inl (nA ST))), (pr, .inr (2, [.ref pwy, .ref pfp, .ref pmd, .ref pik, .int (nI ic.toNat), .ref psg, .ref ptw, .ref pdb, .ref pad, .ref pal, .ref pah, .ref pst, .int (nI sn)])), (psg, .inl (D.2.1, 10, .inl (nA SI))), (ptw, .inl (D.2.1, 100, .inl (nA TW))), (pad, .inl (D.2.1, 10, .inl (nA (adF (ST i) SI TW)))), (pal, .inl (D.2.1, 32, .inl (nA (hlfL (adF (ST i) SI TW))))), (pah, .inl (D.2.1, 32, .inl (nA (hlfH (adF (ST i) SI TW)))))] _ _ := hW.row 0 rfl (fun j hj => congrArg (nI) (e_44 j hj)) rfl
                    have e_45 : ∀ k, k < 7 → (va_up FP n ((1024 * (ST i) + (ST j) : Nat) : Int)) k = (va_up FP n (pin tot V ST i (j + 1) (pout tot V ST sn i)).2.1) k := by
                      intro k hk
                      refine congrArg (fun z => va_up FP n z k) ?_
                      first | (rw [pin_0]; done) | (rw [pin_s (by omega)]; simp only [pstep]; first | omega | (simp [*]; done) | (simp [*]; omega))
                    have hW : Wd X D A [(pwy, .inl (D.2.1, 7, .inl (nA (va_up WY n (pin tot V ST i (j + 1) (pout tot V ST sn i)).1)))), (pfp, .inl (D.2.1, 7, .inl (zA (va_up FP n (pin tot V ST i (j + 1) (pout tot V ST sn i)).2.1)))), (pmd, .inl (D.2.1, 7, .inl (nA (va_up MD n (V (ST i) (ST j)))))), (pdb, .inl (D.2.1, 1024, .inl (nA DB))), (pst, .inl (D.2.1, 252, .inl (nA ST))), (pr, .inr (2, [.ref pwy, .ref pfp, .ref pmd, .ref pik, .int (nI ic.toNat), .ref psg, .ref ptw, .ref pdb, .ref pad, .ref pal, .ref pah, .ref pst, .int (nI sn)])), (psg, .inl (D.2.1, 10, .inl (nA SI))), (ptw, .inl (D.2.1, 100, .inl (nA TW))), (pad, .inl (D.2.1, 10, .inl (nA (adF (ST i) SI TW)))), (pal, .inl (D.2.1, 32, .inl (nA (hlfL (adF (ST i) SI TW))))), (pah, .inl (D.2.1, 32, .inl (nA (hlfH (adF (ST i) SI TW)))))] _ _ := hW.row 1 rfl (fun j hj => congrArg (iI) (e_45 j hj)) rfl
                    have e_46 : ∀ k, k < 7 → (va_up MD n (V (ST i) (ST j))) k = (va_up MD n (pin tot V ST i (j + 1) (pout tot V ST sn i)).2.2) k := by
                      intro k hk
                      refine congrArg (fun z => va_up MD n z k) ?_
                      first | (rw [pin_0]; done) | (rw [pin_s (by omega)]; simp only [pstep]; first | omega | (simp [*]; done) | (simp [*]; omega))
                    have hW : Wd X D A [(pwy, .inl (D.2.1, 7, .inl (nA (va_up WY n (pin tot V ST i (j + 1) (pout tot V ST sn i)).1)))), (pfp, .inl (D.2.1, 7, .inl (zA (va_up FP n (pin tot V ST i (j + 1) (pout tot V ST sn i)).2.1)))), (pmd, .inl (D.2.1, 7, .inl (nA (va_up MD n (pin tot V ST i (j + 1) (pout tot V ST sn i)).2.2)))), (pdb, .inl (D.2.1, 1024, .inl (nA DB))), (pst, .inl (D.2.1, 252, .inl (nA ST))), (pr, .inr (2, [.ref pwy, .ref pfp, .ref pmd, .ref pik, .int (nI ic.toNat), .ref psg, .ref ptw, .ref pdb, .ref pad, .ref pal, .ref pah, .ref pst, .int (nI sn)])), (psg, .inl (D.2.1, 10, .inl (nA SI))), (ptw, .inl (D.2.1, 100, .inl (nA TW))), (pad, .inl (D.2.1, 10, .inl (nA (adF (ST i) SI TW)))), (pal, .inl (D.2.1, 32, .inl (nA (hlfL (adF (ST i) SI TW))))), (pah, .inl (D.2.1, 32, .inl (nA (hlfH (adF (ST i) SI TW)))))] _ _ := hW.row 2 rfl (fun j hj => congrArg (nI) (e_46 j hj)) rfl
                    exact ihL50_9 (j + 1) (by first | assumption | omega | (simp [*]; done)) (by first | assumption | omega | (simp [*]; done)) (by omega) _ _ hW _ (lv_to (l := [(0, .ref pr), (1, .int (nI tot)), (2, .int (nI n)), (3, .int (nI i)), (4, .int (nI (ST i))), (5, .int (nI (alF (ST i) SI))), (6, .int (nI (j + 1)))]) (l2 := [(0, .ref pr), (1, .int (nI tot)), (2, .int (nI n)), (3, .int (nI i)), (4, .int (nI (ST i))), (5, .int (nI (alF (ST i) SI))), (6, .int (nI (j + 1)))]) (lv_sub hl [3, 4, 5, 6, 7, 8, 0] rfl) (cE rfl (cE rfl (cE rfl (cE rfl (cE rfl (cE rfl (cE (congrArg (fun z => ((6, Value.int z) : Nat × Value)) (congrArg (fun z : Nat => nI z) e_43)) rfl))))))))
        have e_47 : ∀ k, k < 7 → (va_up WY n (pout tot V ST sn i).1) k = (va_up WY n (pin tot V ST i i (pout tot V ST sn i)).1) k := by
          intro k hk
          refine congrArg (fun z => va_up WY n z k) ?_
          first | (rw [pin_0]; done) | (rw [pin_s (by omega)]; simp only [pstep]; first | omega | (simp [*]; done) | (simp [*]; omega))
        have hW : Wd X D A [(pwy, .inl (D.2.1, 7, .inl (nA (va_up WY n (pin tot V ST i i (pout tot V ST sn i)).1)))), (pfp, .inl (D.2.1, 7, .inl (zA (va_up FP n (pout tot V ST sn i).2.1)))), (pmd, .inl (D.2.1, 7, .inl (nA (va_up MD n (pout tot V ST sn i).2.2)))), (pdb, .inl (D.2.1, 1024, .inl (nA DB))), (pst, .inl (D.2.1, 252, .inl (nA ST))), (pr, .inr (2, [.ref pwy, .ref pfp, .ref pmd, .ref pik, .int (nI ic.toNat), .ref psg, .ref ptw, .ref pdb, .ref pad, .ref pal, .ref pah, .ref pst, .int (nI sn)])), (psg, .inl (D.2.1, 10, .inl (nA SI))), (ptw, .inl (D.2.1, 100, .inl (nA TW))), (pad, .inl (D.2.1, 10, .inl (nA (adF (ST i) SI TW)))), (pal, .inl (D.2.1, 32, .inl (nA (hlfL (adF (ST i) SI TW))))), (pah, .inl (D.2.1, 32, .inl (nA (hlfH (adF (ST i) SI TW)))))] _ _ := hW.row 0 rfl (fun j hj => congrArg (nI) (e_47 j hj)) rfl
        have e_48 : ∀ k, k < 7 → (va_up FP n (pout tot V ST sn i).2.1) k = (va_up FP n (pin tot V ST i i (pout tot V ST sn i)).2.1) k := by
          intro k hk
          refine congrArg (fun z => va_up FP n z k) ?_
          first | (rw [pin_0]; done) | (rw [pin_s (by omega)]; simp only [pstep]; first | omega | (simp [*]; done) | (simp [*]; omega))
        have hW : Wd X D A [(pwy, .inl (D.2.1, 7, .inl (nA (va_up WY n (pin tot V ST i i (pout tot V ST sn i)).1)))), (pfp, .inl (D.2.1, 7, .inl (zA (va_up FP n (pin tot V ST i i (pout tot V ST sn i)).2.1)))), (pmd, .inl (D.2.1, 7, .inl (nA (va_up MD n (pout tot V ST sn i).2.2)))), (pdb, .inl (D.2.1, 1024, .inl (nA DB))), (pst, .inl (D.2.1, 252, .inl (nA ST))), (pr, .inr (2, [.ref pwy, .ref pfp, .ref pmd, .ref pik, .int (nI ic.toNat), .ref psg, .ref ptw, .ref pdb, .ref pad, .ref pal, .ref pah, .ref pst, .int (nI sn)])), (psg, .inl (D.2.1, 10, .inl (nA SI))), (ptw, .inl (D.2.1, 100, .inl (nA TW))), (pad, .inl (D.2.1, 10, .inl (nA (adF (ST i) SI TW)))), (pal, .inl (D.2.1, 32, .inl (nA (hlfL (adF (ST i) SI TW))))), (pah, .inl (D.2.1, 32, .inl (nA (hlfH (adF (ST i) SI TW)))))] _ _ := hW.row 1 rfl (fun j hj => congrArg (iI) (e_48 j hj)) rfl
        have e_49 : ∀ k, k < 7 → (va_up MD n (pout tot V ST sn i).2.2) k = (va_up MD n (pin tot V ST i i (pout tot V ST sn i)).2.2) k := by
          intro k hk
          refine congrArg (fun z => va_up MD n z k) ?_
          first | (rw [pin_0]; done) | (rw [pin_s (by omega)]; simp only [pstep]; first | omega | (simp [*]; done) | (simp [*]; omega))
        have hW : Wd X D A [(pwy, .inl (D.2.1, 7, .inl (nA (va_up WY n (pin tot V ST i i (pout tot V ST sn i)).1)))), (pfp, .inl (D.2.1, 7, .inl (zA (va_up FP n (pin tot V ST i i (pout tot V ST sn i)).2.1)))), (pmd, .inl (D.2.1, 7, .inl (nA (va_up MD n (pin tot V ST i i (pout tot V ST sn i)).2.2)))), (pdb, .inl (D.2.1, 1024, .inl (nA DB))), (pst, .inl (D.2.1, 252, .inl (nA ST))), (pr, .inr (2, [.ref pwy, .ref pfp, .ref pmd, .ref pik, .int (nI ic.toNat), .ref psg, .ref ptw, .ref pdb, .ref pad, .ref pal, .ref pah, .ref pst, .int (nI sn)])), (psg, .inl (D.2.1, 10, .inl (nA SI))), (ptw, .inl (D.2.1, 100, .inl (nA TW))), (pad, .inl (D.2.1, 10, .inl (nA (adF (ST i) SI TW)))), (pal, .inl (D.2.1, 32, .inl (nA (hlfL (adF (ST i) SI TW))))), (pah, .inl (D.2.1, 32, .inl (nA (hlfH (adF (ST i) SI TW)))))] _ _ := hW.row 2 rfl (fun j hj => congrArg (nI) (e_49 j hj)) rfl
        exact L50_9 (sn - i + 1) i (by first | assumption | omega | (simp [*]; done)) (by first | assumption | omega | (simp [*]; done)) (Nat.lt_succ_self _) _ _ hW _ (lv_sub hl [3, 4, 5, 6, 2, 1, 0] rfl)
  have e_50 : ∀ k, k < 7 → (va_up WY n 0) k = (va_up WY n (pout tot V ST sn 0).1) k := by
    intro k hk
    first | rfl | (refine congrArg (fun z => va_up WY n z k) ?_; rw [pout, show j = sn by omega]; done)
  have hW : Wd X D A [(pr, .inr (2, [.ref pwy, .ref pfp, .ref pmd, .ref pik, .int (nI ic.toNat), .ref psg, .ref ptw, .ref pdb, .ref pad, .ref pal, .ref pah, .ref pst, .int (nI sn)])), (pwy, .inl (D.2.1, 7, .inl (nA (va_up WY n (pout tot V ST sn 0).1)))), (pfp, .inl (D.2.1, 7, .inl (zA (va_up FP n (-1))))), (pmd, .inl (D.2.1, 7, .inl (nA (va_up MD n 0)))), (psg, .inl (D.2.1, 10, .inl (nA SI))), (ptw, .inl (D.2.1, 100, .inl (nA TW))), (pdb, .inl (D.2.1, 1024, .inl (nA DB))), (pad, .inl (D.2.1, 10, .inl (nA AD))), (pal, .inl (D.2.1, 32, .inl (nA AL))), (pah, .inl (D.2.1, 32, .inl (nA AH))), (pst, .inl (D.2.1, 252, .inl (nA ST)))] _ _ := hW.row 1 rfl (fun j hj => congrArg (nI) (e_50 j hj)) rfl
  have e_51 : ∀ k, k < 7 → (va_up FP n (-1)) k = (va_up FP n (pout tot V ST sn 0).2.1) k := by
    intro k hk
    first | rfl | (refine congrArg (fun z => va_up FP n z k) ?_; rw [pout, show j = sn by omega]; done)
  have hW : Wd X D A [(pr, .inr (2, [.ref pwy, .ref pfp, .ref pmd, .ref pik, .int (nI ic.toNat), .ref psg, .ref ptw, .ref pdb, .ref pad, .ref pal, .ref pah, .ref pst, .int (nI sn)])), (pwy, .inl (D.2.1, 7, .inl (nA (va_up WY n (pout tot V ST sn 0).1)))), (pfp, .inl (D.2.1, 7, .inl (zA (va_up FP n (pout tot V ST sn 0).2.1)))), (pmd, .inl (D.2.1, 7, .inl (nA (va_up MD n 0)))), (psg, .inl (D.2.1, 10, .inl (nA SI))), (ptw, .inl (D.2.1, 100, .inl (nA TW))), (pdb, .inl (D.2.1, 1024, .inl (nA DB))), (pad, .inl (D.2.1, 10, .inl (nA AD))), (pal, .inl (D.2.1, 32, .inl (nA AL))), (pah, .inl (D.2.1, 32, .inl (nA AH))), (pst, .inl (D.2.1, 252, .inl (nA ST)))] _ _ := hW.row 2 rfl (fun j hj => congrArg (iI) (e_51 j hj)) rfl
  have e_52 : ∀ k, k < 7 → (va_up MD n 0) k = (va_up MD n (pout tot V ST sn 0).2.2) k := by
    intro k hk
    first | rfl | (refine congrArg (fun z => va_up MD n z k) ?_; rw [pout, show j = sn by omega]; done)
  have hW : Wd X D A [(pr, .inr (2, [.ref pwy, .ref pfp, .ref pmd, .ref pik, .int (nI ic.toNat), .ref psg, .ref ptw, .ref pdb, .ref pad, .ref pal, .ref pah, .ref pst, .int (nI sn)])), (pwy, .inl (D.2.1, 7, .inl (nA (va_up WY n (pout tot V ST sn 0).1)))), (pfp, .inl (D.2.1, 7, .inl (zA (va_up FP n (pout tot V ST sn 0).2.1)))), (pmd, .inl (D.2.1, 7, .inl (nA (va_up MD n (pout tot V ST sn 0).2.2)))), (psg, .inl (D.2.1, 10, .inl (nA SI))), (ptw, .inl (D.2.1, 100, .inl (nA TW))), (pdb, .inl (D.2.1, 1024, .inl (nA DB))), (pad, .inl (D.2.1, 10, .inl (nA AD))), (pal, .inl (D.2.1, 32, .inl (nA AL))), (pah, .inl (D.2.1, 32, .inl (nA AH))), (pst, .inl (D.2.1, 252, .inl (nA ST)))] _ _ := hW.row 3 rfl (fun j hj => congrArg (nI) (e_52 j hj)) rfl
  have e_53 : ∀ k, k < 10 → (AD) k = (prevF (fun x9 => adF (ST x9) SI TW) AD 0) k := by
    intro k hk
    first | rfl | (simp [*]; done)
  have hW : Wd X D A [(pr, .inr (2, [.ref pwy, .ref pfp, .ref pmd, .ref pik, .int (nI ic.toNat), .ref psg, .ref ptw, .ref pdb, .ref pad, .ref pal, .ref pah, .ref pst, .int (nI sn)])), (pwy, .inl (D.2.1, 7, .inl (nA (va_up WY n (pout tot V ST sn 0).1)))), (pfp, .inl (D.2.1, 7, .inl (zA (va_up FP n (pout tot V ST sn 0).2.1)))), (pmd, .inl (D.2.1, 7, .inl (nA (va_up MD n (pout tot V ST sn 0).2.2)))), (psg, .inl (D.2.1, 10, .inl (nA SI))), (ptw, .inl (D.2.1, 100, .inl (nA TW))), (pdb, .inl (D.2.1, 1024, .inl (nA DB))), (pad, .inl (D.2.1, 10, .inl (nA (prevF (fun x9 => adF (ST x9) SI TW) AD 0)))), (pal, .inl (D.2.1, 32, .inl (nA AL))), (pah, .inl (D.2.1, 32, .inl (nA AH))), (pst, .inl (D.2.1, 252, .inl (nA ST)))] _ _ := hW.row 7 rfl (fun j hj => congrArg (nI) (e_53 j hj)) rfl
  have e_54 : ∀ k, k < 32 → (AL) k = (prevF (fun x9 => hlfL (adF (ST x9) SI TW)) AL 0) k := by
    intro k hk
    first | rfl | (simp [*]; done)
  have hW : Wd X D A [(pr, .inr (2, [.ref pwy, .ref pfp, .ref pmd, .ref pik, .int (nI ic.toNat), .ref psg, .ref ptw, .ref pdb, .ref pad, .ref pal, .ref pah, .ref pst, .int (nI sn)])), (pwy, .inl (D.2.1, 7, .inl (nA (va_up WY n (pout tot V ST sn 0).1)))), (pfp, .inl (D.2.1, 7, .inl (zA (va_up FP n (pout tot V ST sn 0).2.1)))), (pmd, .inl (D.2.1, 7, .inl (nA (va_up MD n (pout tot V ST sn 0).2.2)))), (psg, .inl (D.2.1, 10, .inl (nA SI))), (ptw, .inl (D.2.1, 100, .inl (nA TW))), (pdb, .inl (D.2.1, 1024, .inl (nA DB))), (pad, .inl (D.2.1, 10, .inl (nA (prevF (fun x9 => adF (ST x9) SI TW) AD 0)))), (pal, .inl (D.2.1, 32, .inl (nA (prevF (fun x9 => hlfL (adF (ST x9) SI TW)) AL 0)))), (pah, .inl (D.2.1, 32, .inl (nA AH))), (pst, .inl (D.2.1, 252, .inl (nA ST)))] _ _ := hW.row 8 rfl (fun j hj => congrArg (nI) (e_54 j hj)) rfl
  have e_55 : ∀ k, k < 32 → (AH) k = (prevF (fun x9 => hlfH (adF (ST x9) SI TW)) AH 0) k := by
    intro k hk
    first | rfl | (simp [*]; done)
  have hW : Wd X D A [(pr, .inr (2, [.ref pwy, .ref pfp, .ref pmd, .ref pik, .int (nI ic.toNat), .ref psg, .ref ptw, .ref pdb, .ref pad, .ref pal, .ref pah, .ref pst, .int (nI sn)])), (pwy, .inl (D.2.1, 7, .inl (nA (va_up WY n (pout tot V ST sn 0).1)))), (pfp, .inl (D.2.1, 7, .inl (zA (va_up FP n (pout tot V ST sn 0).2.1)))), (pmd, .inl (D.2.1, 7, .inl (nA (va_up MD n (pout tot V ST sn 0).2.2)))), (psg, .inl (D.2.1, 10, .inl (nA SI))), (ptw, .inl (D.2.1, 100, .inl (nA TW))), (pdb, .inl (D.2.1, 1024, .inl (nA DB))), (pad, .inl (D.2.1, 10, .inl (nA (prevF (fun x9 => adF (ST x9) SI TW) AD 0)))), (pal, .inl (D.2.1, 32, .inl (nA (prevF (fun x9 => hlfL (adF (ST x9) SI TW)) AL 0)))), (pah, .inl (D.2.1, 32, .inl (nA (prevF (fun x9 => hlfH (adF (ST x9) SI TW)) AH 0)))), (pst, .inl (D.2.1, 252, .inl (nA ST)))] _ _ := hW.row 9 rfl (fun j hj => congrArg (nI) (e_55 j hj)) rfl
  exact L23_1 (sn - 0 + 1) 0 (by first | assumption | omega | (simp [*]; done)) (Nat.lt_succ_self _) _ _ hW _ (lv_sub hl [1, 2, 3, 0] rfl)
