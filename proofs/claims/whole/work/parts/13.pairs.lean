/-! sums; days by their figures; pairs of sets -/
theorem x_top {X : CX} {k n : Nat} {H : Heap} {locs : List Loc} {pc : Nat} {ls : Array Slot} {st : List Value} {v u : Int32} (h : v = u) (kk : Wx X k n H locs pc ls (.int u :: st)) : Wx X k n H locs pc ls (.int v :: st) := h ▸ kk
def smN (f : Nat → Nat) : Nat → Nat
  | 0 => 0
  | n + 1 => smN f n + f n
theorem smN_cong {f g : Nat → Nat} : ∀ {n : Nat}, (∀ k, k < n → f k = g k) → smN f n = smN g n
  | 0, _ => rfl
  | n + 1, h => by simp only [smN]; rw [smN_cong (fun k hk => h k (by omega)), h n (by omega)]
theorem smN_add (f g : Nat → Nat) : ∀ n, smN (fun k => f k + g k) n = smN f n + smN g n
  | 0 => rfl
  | n + 1 => by simp only [smN]; rw [smN_add f g n]; omega
theorem smN_zero : ∀ n, smN (fun _ => 0) n = 0
  | 0 => rfl
  | n + 1 => by simp only [smN]; rw [smN_zero n]
theorem smN_one {c i : Nat} : ∀ {n : Nat}, i < n → smN (fun k => if k = i then c else 0) n = c
  | 0, h => absurd h (Nat.not_lt_zero _)
  | n + 1, h => by
    simp only [smN]
    by_cases e : n = i
    · subst e
      rw [smN_cong (g := fun _ => 0) (fun k hk => if_neg (by omega)), smN_zero]
      simp
    · rw [smN_one (show i < n by omega)]
      simp [e]
def smTo (f : Nat → Nat) (lo d : Nat) : Nat := smN (fun i => f (lo + i)) (d - lo)
theorem smTo_0 (f : Nat → Nat) (lo : Nat) : smTo f lo lo = 0 := by simp [smTo, smN]
theorem smTo_s (f : Nat → Nat) {lo d : Nat} (h : lo ≤ d) : smTo f lo (d + 1) = smTo f lo d + f d := by
  have e : d + 1 - lo = (d - lo) + 1 := by omega
  simp only [smTo, e, smN]
  congr 2; omega
theorem smTo_cong {f g : Nat → Nat} {lo d : Nat} (h : ∀ k, lo ≤ k → k < d → f k = g k) : smTo f lo d = smTo g lo d :=
  smN_cong (fun k hk => h (lo + k) (by omega) (by omega))
theorem smTo_add (f g : Nat → Nat) (lo d : Nat) : smTo (fun k => f k + g k) lo d = smTo f lo d + smTo g lo d := smN_add _ _ _
theorem smTo_zero (lo d : Nat) : smTo (fun _ => 0) lo d = 0 := smN_zero _
theorem smTo_one {c i lo d : Nat} (h1 : lo ≤ i) (h2 : i < d) : smTo (fun k => if k = i then c else 0) lo d = c := by
  unfold smTo
  rw [smN_cong (g := fun k => if k = i - lo then c else 0) (fun k hk => by
    by_cases e : lo + k = i
    · show (if lo + k = i then c else 0) = _
      rw [if_pos e, if_pos (by omega)]
    · show (if lo + k = i then c else 0) = _
      rw [if_neg e, if_neg (by omega)])]
  exact smN_one (by omega)
theorem smTo_none {c i lo d : Nat} (h : i < lo ∨ d ≤ i) : smTo (fun k => if k = i then c else 0) lo d = 0 := by
  rw [smTo_cong (g := fun _ => 0) (fun k h1 h2 => if_neg (by omega))]
  exact smTo_zero lo d
def les (TV : Nat → Nat) (g : Nat) : Nat := min g (TV g)
theorem les_lt {TV : Nat → Nat} {g : Nat} (h : g < 10) : les TV g < 10 := by unfold les; omega
def sgP (TV : Nat → Nat) (hn : Bool) (e g x : Nat) : Bool := !hasTwo hn e x && decide (les TV (x % 10) = g)
def twP (TV : Nat → Nat) (hn : Bool) (e k x : Nat) : Bool := hasTwo hn e x && (decide (les TV (x / 10) * 10 + les TV (x % 10) = k) || decide (les TV (x % 10) * 10 + les TV (x / 10) = k))
def sgD (TV : Nat → Nat) (hn : Bool) (e lo d : Nat) : Nat → Nat := fun g => cntTo (sgP TV hn e g) lo d
def twD (TV : Nat → Nat) (hn : Bool) (e lo d : Nat) : Nat → Nat := fun k => cntTo (twP TV hn e k) lo d
theorem sgD_n {TV : Nat → Nat} {hn : Bool} {e lo d : Nat} (h : lo ≤ d) (ht : hasTwo hn e d = true) (k : Nat) : sgD TV hn e lo d k = sgD TV hn e lo (d + 1) k := by
  simp only [sgD, cntTo_s _ h, sgP, ht]; simp
theorem twD_n {TV : Nat → Nat} {hn : Bool} {e lo d : Nat} (h : lo ≤ d) (ht : hasTwo hn e d = false) (k : Nat) : twD TV hn e lo d k = twD TV hn e lo (d + 1) k := by
  simp only [twD, cntTo_s _ h, twP, ht]; simp
theorem sgD_y {TV : Nat → Nat} {hn : Bool} {e lo d : Nat} (h : lo ≤ d) (ht : hasTwo hn e d = false) (k : Nat) : va_up (sgD TV hn e lo d) (les TV (d % 10)) (sgD TV hn e lo d (les TV (d % 10)) + 1) k = sgD TV hn e lo (d + 1) k := by
  by_cases hk : k = les TV (d % 10)
  · subst hk
    simp only [sgD, cntTo_s _ h, sgP, ht, va_up_same]; simp
  · have hk2 : ¬ les TV (d % 10) = k := fun h => hk h.symm
    rw [va_up_ne _ _ hk]
    simp only [sgD, cntTo_s _ h, sgP, ht]; simp [hk2]
theorem twD_y1 {TV : Nat → Nat} {hn : Bool} {e lo d : Nat} (h : lo ≤ d) (ht : hasTwo hn e d = true) (hfl : les TV (d / 10) = les TV (d % 10)) (k : Nat) : va_up (twD TV hn e lo d) (les TV (d / 10) * 10 + les TV (d % 10)) (twD TV hn e lo d (les TV (d / 10) * 10 + les TV (d % 10)) + 1) k = twD TV hn e lo (d + 1) k := by
  by_cases hk : k = les TV (d / 10) * 10 + les TV (d % 10)
  · subst hk
    simp only [twD, cntTo_s _ h, twP, ht, va_up_same]; simp
  · have hk2 : ¬ les TV (d / 10) * 10 + les TV (d % 10) = k := fun h => hk h.symm
    have hk3 : ¬ les TV (d % 10) * 10 + les TV (d / 10) = k := by rw [hfl] at hk2 ⊢; exact hk2
    rw [va_up_ne _ _ hk]
    simp only [twD, cntTo_s _ h, twP, ht]; simp [hk2, hk3]
theorem twD_y2 {TV : Nat → Nat} {hn : Bool} {e lo d : Nat} (h : lo ≤ d) (ht : hasTwo hn e d = true) (h1 : les TV (d / 10) < 10) (h2 : les TV (d % 10) < 10) (hfl : ¬ les TV (d / 10) = les TV (d % 10)) (k : Nat) : va_up (va_up (twD TV hn e lo d) (les TV (d / 10) * 10 + les TV (d % 10)) (twD TV hn e lo d (les TV (d / 10) * 10 + les TV (d % 10)) + 1)) (les TV (d % 10) * 10 + les TV (d / 10)) (va_up (twD TV hn e lo d) (les TV (d / 10) * 10 + les TV (d % 10)) (twD TV hn e lo d (les TV (d / 10) * 10 + les TV (d % 10)) + 1) (les TV (d % 10) * 10 + les TV (d / 10)) + 1) k = twD TV hn e lo (d + 1) k := by
  have hne : ¬ les TV (d % 10) * 10 + les TV (d / 10) = les TV (d / 10) * 10 + les TV (d % 10) := by omega
  by_cases hk : k = les TV (d % 10) * 10 + les TV (d / 10)
  · subst hk
    rw [va_up_same, va_up_ne _ _ hne]
    simp only [twD, cntTo_s _ h, twP, ht]; simp
  · rw [va_up_ne _ _ hk]
    have hk3 : ¬ les TV (d % 10) * 10 + les TV (d / 10) = k := fun h => hk h.symm
    by_cases hk2 : k = les TV (d / 10) * 10 + les TV (d % 10)
    · subst hk2
      rw [va_up_same]
      simp only [twD, cntTo_s _ h, twP, ht]; simp
    · have hk4 : ¬ les TV (d / 10) * 10 + les TV (d % 10) = k := fun h => hk2 h.symm
      rw [va_up_ne _ _ hk2]
      simp only [twD, cntTo_s _ h, twP, ht]; simp [hk3, hk4]
/-- days counted twice when both have the set -/
def dblF (S T : Nat → Nat) (m : Nat) : Nat := smN (fun g => (m.testBit g).toNat * (S g + smTo (fun h => (m.testBit h).toNat * T (g * 10 + h)) (g + 1) 10)) 10
theorem low_bits : ∀ m, m < 1024 → 0 < m → lowB m < 10 ∧ m.testBit (lowB m) = true ∧ (m &&& (m - 1)) < m ∧ (∀ g, g < 10 → (m &&& (m - 1)).testBit g = (m.testBit g && decide (¬ g = lowB m))) ∧ (∀ g, g < 10 → g < lowB m → m.testBit g = false) := by decide +kernel
theorem dblF_0 (S T : Nat → Nat) : dblF S T 0 = 0 := by
  unfold dblF
  rw [smN_cong (g := fun _ => 0) (fun k hk => by simp), smN_zero]
theorem dblF_s (S T : Nat → Nat) {m : Nat} (hm : m < 1024) (h0 : 0 < m) : dblF S T (m &&& (m - 1)) + S (lowB m) + smTo (fun h => ((m &&& (m - 1)).testBit h).toNat * T (lowB m * 10 + h)) (lowB m + 1) 10 = dblF S T m := by
  obtain ⟨hl, hb, hlt, hr, hz⟩ := low_bits m hm h0
  unfold dblF
  have e : ∀ g, g < 10 → (m.testBit g).toNat * (S g + smTo (fun h => (m.testBit h).toNat * T (g * 10 + h)) (g + 1) 10) = ((m &&& (m - 1)).testBit g).toNat * (S g + smTo (fun h => ((m &&& (m - 1)).testBit h).toNat * T (g * 10 + h)) (g + 1) 10) + (if g = lowB m then S (lowB m) + smTo (fun h => ((m &&& (m - 1)).testBit h).toNat * T (lowB m * 10 + h)) (lowB m + 1) 10 else 0) := by
    intro g hg
    by_cases eg : g = lowB m
    · subst eg
      rw [hr (lowB m) hl, hb]
      simp only [Bool.toNat_true, Nat.one_mul, not_true, decide_false, Bool.and_false, Bool.toNat_false, Nat.zero_mul, Nat.zero_add, if_true]
      congr 1
      exact smTo_cong (fun k h1 h2 => by rw [hr k h2]; have : ¬ k = lowB m := by omega
                                         simp [this])
    · rw [if_neg eg, hr g hg]
      simp only [eg, not_false_eq_true, decide_true, Bool.and_true, Nat.add_zero]
      by_cases hg2 : g < lowB m
      · rw [hz g hg hg2]; simp
      · congr 2
        exact smTo_cong (fun k h1 h2 => by rw [hr k h2]; have : ¬ k = lowB m := by omega
                                           simp [this])
  rw [smN_cong e, smN_add, smN_one hl]
  omega
def adF (X : Nat) (S T : Nat → Nat) (g : Nat) : Nat := S g + smN (fun o => (X.testBit o).toNat * T (g * 10 + o)) 10
def alF (X : Nat) (S : Nat → Nat) : Nat := smN (fun g => (X.testBit g).toNat * S g) 10
def hlfL (F : Nat → Nat) (k : Nat) : Nat := smN (fun g => (k.testBit g).toNat * F g) 5
def hlfH (F : Nat → Nat) (k : Nat) : Nat := smN (fun g => (k.testBit g).toNat * F (5 + g)) 5
theorem hlf_bits : ∀ k, k < 32 → 0 < k → lowB k < 5 ∧ k.testBit (lowB k) = true ∧ (k &&& (k - 1)) < k ∧ (∀ g, g < 5 → (k &&& (k - 1)).testBit g = (k.testBit g && decide (¬ g = lowB k))) := by decide +kernel
theorem hlf_s (F : Nat → Nat) {k : Nat} (hk : k < 32) (h0 : 0 < k) : smN (fun g => ((k &&& (k - 1)).testBit g).toNat * F g) 5 + F (lowB k) = smN (fun g => (k.testBit g).toNat * F g) 5 := by
  obtain ⟨hl, hb, hlt, hr⟩ := hlf_bits k hk h0
  have e : ∀ g, g < 5 → (k.testBit g).toNat * F g = ((k &&& (k - 1)).testBit g).toNat * F g + (if g = lowB k then F (lowB k) else 0) := by
    intro g hg
    rw [hr g hg]
    by_cases eg : g = lowB k
    · subst eg; rw [hb]; simp
    · simp [eg]
  rw [smN_cong e, smN_add, smN_one hl]
theorem hlf_0 (F : Nat → Nat) : smN (fun g => ((0 : Nat).testBit g).toNat * F g) 5 = 0 := by
  rw [smN_cong (g := fun _ => 0) (fun k hk => by simp), smN_zero]
/-- all figures that stand for themselves, of the first j -/
def allF (TV : Nat → Nat) : Nat → Nat
  | 0 => 0
  | j + 1 => allF TV j ||| 2 ^ les TV j
theorem allF_lt {TV : Nat → Nat} : ∀ j, j ≤ 10 → allF TV j < 1024
  | 0, _ => by simp [allF]
  | j + 1, h => by
    simp only [allF]
    have h1 : 2 ^ les TV j < 2 ^ 10 := Nat.pow_lt_pow_right (by decide) (les_lt (by omega))
    exact Nat.or_lt_two_pow (n := 10) (allF_lt j (by omega)) h1
def isSet (TV : Nat → Nat) (n m : Nat) : Bool := decide (bclr m (allF TV 10) = 0) && decide (popc m = min n (popc (allF TV 10)))
/-- the numbers below k for which p holds, in their order, laid over f -/
def setsUp (p : Nat → Bool) (f : Nat → Nat) : Nat → Nat → Nat
  | 0 => f
  | k + 1 => if p k then va_up (setsUp p f k) (cntN p k) k else setsUp p f k
theorem setsUp_lt {p : Nat → Bool} {f : Nat → Nat} : ∀ (k i : Nat), i < cntN p k → setsUp p f k i < k
  | 0, i, h => absurd h (Nat.not_lt_zero _)
  | k + 1, i, h => by
    simp only [setsUp]
    simp only [cntN] at h
    cases hp : p k with
    | false =>
      simp [hp] at h ⊢
      have := setsUp_lt (f := f) k i h; omega
    | true =>
      simp [hp] at h ⊢
      by_cases e : i = cntN p k
      · subst e; simp [va_up]
      · simp [va_up, e]
        have := setsUp_lt (p := p) (f := f) k i (by omega); omega
theorem setsUp_f {p : Nat → Bool} {f g : Nat → Nat} : ∀ (k i : Nat), i < cntN p k → setsUp p f k i = setsUp p g k i
  | 0, i, h => absurd h (Nat.not_lt_zero _)
  | k + 1, i, h => by
    simp only [setsUp]
    simp only [cntN] at h
    cases hp : p k with
    | false => simp [hp] at h ⊢; exact setsUp_f k i h
    | true =>
      simp [hp] at h ⊢
      by_cases e : i = cntN p k
      · subst e; simp [va_up]
      · simp [va_up, e]; exact setsUp_f k i (by omega)
theorem cntN_mono (p : Nat → Bool) (k : Nat) : ∀ n, cntN p k ≤ cntN p (k + n)
  | 0 => Nat.le_refl _
  | n + 1 => by have := cntN_mono p k n; show _ ≤ cntN p (k + n) + _; omega
/-- nothing comes behind k if the count is full there -/
theorem sets_full {p : Nat → Bool} {f : Nat → Nat} {k : Nat} : ∀ n, cntN p (k + n) ≤ cntN p k → setsUp p f (k + n) = setsUp p f k
  | 0, _ => rfl
  | n + 1, h => by
    have h1 := cntN_mono p k n
    have h2 : cntN p (k + n) + (p (k + n)).toNat ≤ cntN p k := h
    have hp : p (k + n) = false := by
      cases hb : p (k + n) with
      | false => rfl
      | true => rw [hb] at h2; simp at h2; omega
    show setsUp p f (k + n + 1) = _
    simp only [setsUp, hp]
    exact sets_full n (by omega)
theorem sets_end {p : Nat → Bool} {f : Nat → Nat} {k N : Nat} (hk : k ≤ N) (h : cntN p N ≤ cntN p k) : cntN p k = cntN p N ∧ setsUp p f N = setsUp p f k := by
  have e : N = k + (N - k) := by omega
  have h1 := cntN_mono p k (N - k)
  rw [← e] at h1
  refine ⟨by omega, ?_⟩
  have h2 := sets_full (p := p) (f := f) (k := k) (N - k) (by rw [← e]; exact h)
  rw [← e] at h2
  exact h2
theorem cntN_le2 {p q : Nat → Bool} : ∀ {n : Nat}, (∀ k, k < n → p k = true → q k = true) → cntN p n ≤ cntN q n
  | 0, _ => Nat.le_refl _
  | n + 1, h => by
    simp only [cntN]
    have h1 := cntN_le2 (n := n) (fun k hk => h k (by omega))
    have h2 : (p n).toNat ≤ (q n).toNat := by
      cases hp : p n with
      | false => simp
      | true => rw [h n (by omega) hp]; simp
    omega
theorem popc_cnt : ∀ s, s < 11 → cntN (fun m => decide (popc m = s)) 1024 ≤ 252 := by decide +kernel
theorem isSet_cnt (TV : Nat → Nat) (n : Nat) : cntN (isSet TV n) 1024 ≤ 252 := by
  have h1 : min n (popc (allF TV 10)) < 11 := by have := popc_le (allF TV 10); omega
  refine Nat.le_trans (cntN_le2 (q := fun m => decide (popc m = min n (popc (allF TV 10)))) (fun k hk h => ?_)) (popc_cnt _ h1)
  simp only [isSet, Bool.and_eq_true] at h
  exact h.2
theorem isSet_le (TV : Nat → Nat) (n : Nat) {m : Nat} (h : m ≤ 1024) : cntN (isSet TV n) m ≤ 252 := by
  have h1 := cntN_mono (isSet TV n) m (1024 - m)
  rw [show m + (1024 - m) = 1024 by omega] at h1
  exact Nat.le_trans h1 (isSet_cnt TV n)
def prevF (F : Nat → Nat → Nat) (f : Nat → Nat) : Nat → Nat → Nat
  | 0 => f
  | i + 1 => F i
set_option maxHeartbeats 4000000 in
set_option maxRecDepth 100000 in
theorem c_X2_lesser (l : Launch) (D : KD) (tb : Nat) (thd : Bool) (tlo : Nat) (te : Nat) (thn : Bool) (tcu : Nat) (tsc : Nat) (tfg : Nat) (ttv : Nat) (tpr : Nat) (tTV : Nat → Nat) (g : Nat) (htTV : ∀ k, k < 10 → tTV k < 10) (hg : g < 10) : cR l yX2_lesser cX2_lesser 2 (some .int) rm_X2_lesser D [(tb, .inr (0, [.int (nI thd.toNat), .int (nI tlo), .int (iI ((te : Int) - 1)), .int (nI thn.toNat), .int (nI tcu), .ref tsc, .ref tfg, .ref ttv, .ref tpr])), (ttv, .inl (D.2.1, 10, .inl (nA tTV)))] [.ref tb, .int (nI g)] (nI (les tTV g)) := by
  refine cR.mk (by decide) (retI _) (Nat.le_of_ble_eq_true rfl) ?_
  intro X hx hL hP hret ls hl
  subst hL
  have hl : lv_has ls 2 [(0, .ref tb), (1, .int (nI g))] := hl
  refine x_iload_n hx dX2_lesser_0 hl 1 rfl ?_
  refine x_aload_n hx dX2_lesser_1 hl 0 rfl ?_
  refine x_get0 hx hP 0 rfl 7 (Nat.le_of_ble_eq_true rfl) wf_RX2_75 rfl dX2_lesser_2 ?_
  refine x_iload_n hx dX2_lesser_5 hl 1 rfl ?_
  have hj_6 : g < 10 := by omega
  refine x_iald (v := nI (tTV g)) hx hP 1 rfl hj_6 (by decide) (rfl) dX2_lesser_6 ?_
  have b_1 := htTV g hj_6
  refine x_mmin (v := nI (min g (tTV g))) hx wm_RX2_78 (Nat.le_of_ble_eq_true rfl) (Nat.le_of_ble_eq_true rfl) ⟨Nat.zero_le _, Nat.zero_le _⟩ hl (nI_min (by omega) (by omega)) dX2_lesser_7 ?_
  exact hret _ _ _ dX2_lesser_10 (congrArg nI (by first | rfl | omega | (simp [*]; done) | (simp [*]; omega)))
def falF (j : Nat) (f : Nat → Bool) : Nat → Bool := fun k => if k < j then false else f k
theorem falF_up (f : Nat → Bool) (j k : Nat) : va_up (falF j f) j false k = falF (j + 1) f k := by
  by_cases h : k = j
  · subst h; simp [va_up, falF]
  · have : (k < j + 1) ↔ (k < j) := by omega
    simp [va_up, falF, h, this]
set_option maxHeartbeats 4000000 in
set_option maxRecDepth 100000 in
theorem c_X2_forget (l : Launch) (D : KD) (pr : Nat) (pwy : Nat) (pfp : Nat) (pmd : Nat) (pik : Nat) (psg : Nat) (ptw : Nat) (pdb : Nat) (pad : Nat) (pal : Nat) (pah : Nat) (pst : Nat) (ic : Bool) (sn : Nat) (IK : Nat → Bool)  : cV l yX2_forget cX2_forget 2 rm_X2_forget D [(pr, .inr (2, [.ref pwy, .ref pfp, .ref pmd, .ref pik, .int (nI ic.toNat), .ref psg, .ref ptw, .ref pdb, .ref pad, .ref pal, .ref pah, .ref pst, .int (nI sn)])), (pik, .inl (D.2.2.1, 7, .inl (bA IK)))] [.ref pr] [(pr, .inr (2, [.ref pwy, .ref pfp, .ref pmd, .ref pik, .int (nI false.toNat), .ref psg, .ref ptw, .ref pdb, .ref pad, .ref pal, .ref pah, .ref pst, .int (nI sn)])), (pik, .inl (D.2.2.1, 7, .inl (bA (fun _ => false))))] := by
  refine cV.mk (by decide) (Nat.le_of_ble_eq_true rfl) ?_
  intro X A hx hL hA hW hret ls hl
  subst hL
  have hl : lv_has ls 2 [(0, .ref pr)] := hl
  refine x_aload_n hx dX2_forget_0 hl 0 rfl ?_
  refine x_iconst (v := nI 0) hx dX2_forget_1 (by decide) ?_
  refine x_put2 hx hW 0 rfl 4 (Nat.le_of_ble_eq_true rfl) wf_RX2_25 rfl (narZ false) (fitZ false) (Nat.le_of_ble_eq_true rfl) dX2_forget_2 [(pr, .inr (2, [.ref pwy, .ref pfp, .ref pmd, .ref pik, .int (nI false.toNat), .ref psg, .ref ptw, .ref pdb, .ref pad, .ref pal, .ref pah, .ref pst, .int (nI sn)])), (pik, .inl (D.2.2.1, 7, .inl (bA IK)))] rfl (fun H locs hW => ?_)
  refine x_iconst (v := nI 0) hx dX2_forget_5 (by decide) ?_
  refine x_istore_n (lv' := [(1, .int (nI 0)), (0, .ref pr)]) hx dX2_forget_6 hl (Nat.le_of_ble_eq_true rfl) rfl (fun ls hl => ?_)
  have L7_1 : ∀ (L7_1n : Nat) (j : Nat), (j ≤ 7) → 7 - j < L7_1n → ∀ (H : Heap) (locs : List Loc), Wd X D A [(pr, .inr (2, [.ref pwy, .ref pfp, .ref pmd, .ref pik, .int (nI false.toNat), .ref psg, .ref ptw, .ref pdb, .ref pad, .ref pal, .ref pah, .ref pst, .int (nI sn)])), (pik, .inl (D.2.2.1, 7, .inl (bA (falF j IK))))] H locs → ∀ ls : Array Slot, lv_has ls 2 [(0, .ref pr), (1, .int (nI j))] → Wx X 0 0 H locs 7 ls [] := by
    intro L7_1n
    induction L7_1n with
    | zero =>
      intro j h1 hm
      exact absurd hm (Nat.not_lt_zero _)
    | succ L7_1n ihL7_1 =>
      intro j h1 hm H locs hW ls hl
      refine x_iload_n hx dX2_forget_7 hl 1 rfl ?_
      refine x_bipush (v := nI 6) hx dX2_forget_8 (by decide) ?_
      refine x_icmp_gt_N (a := j) (b := 6) (tgt := 26) hx dX2_forget_10 (by decide) (by omega) (by omega) (fun h_2 => ?_) (fun h_2 => ?_)
      · have e_3 : ∀ k, k < 7 → (falF j IK) k = (fun _ => false) k := by
          intro k hk
          simp [falF]; omega
        have hW : Wd X D A [(pr, .inr (2, [.ref pwy, .ref pfp, .ref pmd, .ref pik, .int (nI false.toNat), .ref psg, .ref ptw, .ref pdb, .ref pad, .ref pal, .ref pah, .ref pst, .int (nI sn)])), (pik, .inl (D.2.2.1, 7, .inl (bA (fun _ => false))))] _ _ := hW.row 1 rfl (fun j hj => congrArg (fun z : Bool => nI z.toNat) (e_3 j hj)) rfl
        exact hret _ _ _ _ dX2_forget_26 hW
      · refine x_aload_n hx dX2_forget_13 hl 0 rfl ?_
        refine x_get2 hx hW.1 0 rfl 3 (Nat.le_of_ble_eq_true rfl) wf_RX2_21 rfl dX2_forget_14 ?_
        refine x_iload_n hx dX2_forget_17 hl 1 rfl ?_
        refine x_iconst (v := nI 0) hx dX2_forget_18 (by decide) ?_
        have hj_19 : j < 7 := by omega
        refine x_zast hx hW 1 rfl hj_19 (by decide) (upd_bA _ _ false) dX2_forget_19 [(pr, .inr (2, [.ref pwy, .ref pfp, .ref pmd, .ref pik, .int (nI false.toNat), .ref psg, .ref ptw, .ref pdb, .ref pad, .ref pal, .ref pah, .ref pst, .int (nI sn)])), (pik, .inl (D.2.2.1, 7, .inl (bA (va_up (falF j IK) j false))))] rfl (fun H locs hW => ?_)
        refine x_iinc (v := nI (j + 1)) (lv' := [(1, .int (nI (j + 1))), (0, .ref pr)]) hx dX2_forget_20 hl 1 rfl (nI_addc j 1) (Nat.le_of_ble_eq_true rfl) rfl (fun ls hl => ?_)
        refine x_goto (tgt := 7) hx dX2_forget_23 (by decide) ?_
        have e_4 : (j + 1 : Nat) = (j + 1) := by
          first | rfl | omega | (simp [*]; done) | (simp [*]; omega)
        have e_5 : ∀ k, k < 7 → (va_up (falF j IK) j false) k = (falF (j + 1) IK) k := by
          intro k hk
          first | (simp [falF]; done) | exact falF_up IK j k
        have hW : Wd X D A [(pr, .inr (2, [.ref pwy, .ref pfp, .ref pmd, .ref pik, .int (nI false.toNat), .ref psg, .ref ptw, .ref pdb, .ref pad, .ref pal, .ref pah, .ref pst, .int (nI sn)])), (pik, .inl (D.2.2.1, 7, .inl (bA (falF (j + 1) IK))))] _ _ := hW.row 1 rfl (fun j hj => congrArg (fun z : Bool => nI z.toNat) (e_5 j hj)) rfl
        exact ihL7_1 (j + 1) (by first | assumption | omega | (simp [*]; done)) (by omega) _ _ hW _ (lv_to (l := [(0, .ref pr), (1, .int (nI (j + 1)))]) (l2 := [(0, .ref pr), (1, .int (nI (j + 1)))]) (lv_sub hl [1, 0] rfl) (cE rfl (cE (congrArg (fun z => ((1, Value.int z) : Nat × Value)) (congrArg (fun z : Nat => nI z) e_4)) rfl)))
  have e_6 : ∀ k, k < 7 → (IK) k = (falF 0 IK) k := by
    intro k hk
    first | (simp [falF]; done) | exact falF_up IK j k
  have hW : Wd X D A [(pr, .inr (2, [.ref pwy, .ref pfp, .ref pmd, .ref pik, .int (nI false.toNat), .ref psg, .ref ptw, .ref pdb, .ref pad, .ref pal, .ref pah, .ref pst, .int (nI sn)])), (pik, .inl (D.2.2.1, 7, .inl (bA (falF 0 IK))))] _ _ := hW.row 1 rfl (fun j hj => congrArg (fun z : Bool => nI z.toNat) (e_6 j hj)) rfl
  exact L7_1 (7 - 0 + 1) 0 (by first | assumption | omega | (simp [*]; done)) (Nat.lt_succ_self _) _ _ hW _ (lv_sub hl [1, 0] rfl)
set_option maxHeartbeats 4000000 in
set_option maxRecDepth 100000 in
theorem c_X2_countDays (l : Launch) (D : KD) (pr : Nat) (pwy : Nat) (pfp : Nat) (pmd : Nat) (pik : Nat) (psg : Nat) (ptw : Nat) (pdb : Nat) (pad : Nat) (pal : Nat) (pah : Nat) (pst : Nat) (ic : Bool) (sn : Nat) (SI : Nat → Nat) (TW : Nat → Nat) (tb : Nat) (thd : Bool) (tlo : Nat) (te : Nat) (thn : Bool) (tcu : Nat) (tsc : Nat) (tfg : Nat) (ttv : Nat) (tpr : Nat) (tTV : Nat → Nat) (htTV : ∀ k, k < 10 → tTV k < 10) (hle : tlo ≤ te) (he : te ≤ 100) : cV l yX2_countDays cX2_countDays 5 rm_X2_countDays D [(pr, .inr (2, [.ref pwy, .ref pfp, .ref pmd, .ref pik, .int (nI ic.toNat), .ref psg, .ref ptw, .ref pdb, .ref pad, .ref pal, .ref pah, .ref pst, .int (nI sn)])), (psg, .inl (D.2.1, 10, .inl (nA SI))), (ptw, .inl (D.2.1, 100, .inl (nA TW))), (tb, .inr (0, [.int (nI thd.toNat), .int (nI tlo), .int (iI ((te : Int) - 1)), .int (nI thn.toNat), .int (nI tcu), .ref tsc, .ref tfg, .ref ttv, .ref tpr])), (ttv, .inl (D.2.1, 10, .inl (nA tTV)))] [.ref pr, .ref tb] [(pr, .inr (2, [.ref pwy, .ref pfp, .ref pmd, .ref pik, .int (nI ic.toNat), .ref psg, .ref ptw, .ref pdb, .ref pad, .ref pal, .ref pah, .ref pst, .int (nI sn)])), (psg, .inl (D.2.1, 10, .inl (nA (sgD tTV thn te tlo te)))), (ptw, .inl (D.2.1, 100, .inl (nA (twD tTV thn te tlo te)))), (tb, .inr (0, [.int (nI thd.toNat), .int (nI tlo), .int (iI ((te : Int) - 1)), .int (nI thn.toNat), .int (nI tcu), .ref tsc, .ref tfg, .ref ttv, .ref tpr])), (ttv, .inl (D.2.1, 10, .inl (nA tTV)))] := by
  refine cV.mk (by decide) (Nat.le_of_ble_eq_true rfl) ?_
  intro X A hx hL hA hW hret ls hl
  subst hL
  have hl : lv_has ls 5 [(0, .ref pr), (1, .ref tb)] := hl
  refine x_aload_n hx dX2_countDays_0 hl 0 rfl ?_
  refine x_get2 hx hW.1 0 rfl 5 (Nat.le_of_ble_eq_true rfl) wf_RX2_29 rfl dX2_countDays_1 ?_
  refine x_iconst (v := nI 0) hx dX2_countDays_4 (by decide) ?_
  refine x_callVS (As := [.ref psg, .int (nI 0)]) (rest := []) (wr := [(pr, .inr (2, [.ref pwy, .ref pfp, .ref pmd, .ref pik, .int (nI ic.toNat), .ref psg, .ref ptw, .ref pdb, .ref pad, .ref pal, .ref pah, .ref pst, .int (nI sn)])), (ptw, .inl (D.2.1, 100, .inl (nA TW))), (tb, .inr (0, [.int (nI thd.toNat), .int (nI tlo), .int (iI ((te : Int) - 1)), .int (nI thn.toNat), .int (nI tcu), .ref tsc, .ref tfg, .ref ttv, .ref tpr])), (ttv, .inl (D.2.1, 10, .inl (nA tTV)))]) hx yv_J7_fill_53178 (c_J7_fill_53178 _ D psg 10 SI 0 (by first | assumption | omega | (simp [*]; done))) wm_RX2_84 hA hW [1] [0, 2, 3, 4] rfl rfl rfl rfl rfl ⟨rfl, rfl⟩ ⟨Nat.le_of_ble_eq_true rfl, Nat.le_of_ble_eq_true rfl⟩ ⟨Nat.zero_le _, Nat.zero_le _⟩ hl rfl rfl (Nat.le_of_ble_eq_true rfl) dX2_countDays_5 [(pr, .inr (2, [.ref pwy, .ref pfp, .ref pmd, .ref pik, .int (nI ic.toNat), .ref psg, .ref ptw, .ref pdb, .ref pad, .ref pal, .ref pah, .ref pst, .int (nI sn)])), (ptw, .inl (D.2.1, 100, .inl (nA TW))), (tb, .inr (0, [.int (nI thd.toNat), .int (nI tlo), .int (iI ((te : Int) - 1)), .int (nI thn.toNat), .int (nI tcu), .ref tsc, .ref tfg, .ref ttv, .ref tpr])), (ttv, .inl (D.2.1, 10, .inl (nA tTV))), (psg, .inl (D.2.1, 10, .inl (nA (fun _ => 0))))] rfl (fun H locs hW => ?_)
  refine x_aload_n hx dX2_countDays_8 hl 0 rfl ?_
  refine x_get2 hx hW.1 0 rfl 6 (Nat.le_of_ble_eq_true rfl) wf_RX2_32 rfl dX2_countDays_9 ?_
  refine x_iconst (v := nI 0) hx dX2_countDays_12 (by decide) ?_
  refine x_callVS (As := [.ref ptw, .int (nI 0)]) (rest := []) (wr := [(pr, .inr (2, [.ref pwy, .ref pfp, .ref pmd, .ref pik, .int (nI ic.toNat), .ref psg, .ref ptw, .ref pdb, .ref pad, .ref pal, .ref pah, .ref pst, .int (nI sn)])), (tb, .inr (0, [.int (nI thd.toNat), .int (nI tlo), .int (iI ((te : Int) - 1)), .int (nI thn.toNat), .int (nI tcu), .ref tsc, .ref tfg, .ref ttv, .ref tpr])), (ttv, .inl (D.2.1, 10, .inl (nA tTV))), (psg, .inl (D.2.1, 10, .inl (nA (fun _ => 0))))]) hx yv_J7_fill_53178 (c_J7_fill_53178 _ D ptw 100 TW 0 (by first | assumption | omega | (simp [*]; done))) wm_RX2_84 hA hW [1] [0, 2, 3, 4] rfl rfl rfl rfl rfl ⟨rfl, rfl⟩ ⟨Nat.le_of_ble_eq_true rfl, Nat.le_of_ble_eq_true rfl⟩ ⟨Nat.zero_le _, Nat.zero_le _⟩ hl rfl rfl (Nat.le_of_ble_eq_true rfl) dX2_countDays_13 [(pr, .inr (2, [.ref pwy, .ref pfp, .ref pmd, .ref pik, .int (nI ic.toNat), .ref psg, .ref ptw, .ref pdb, .ref pad, .ref pal, .ref pah, .ref pst, .int (nI sn)])), (tb, .inr (0, [.int (nI thd.toNat), .int (nI tlo), .int (iI ((te : Int) - 1)), .int (nI thn.toNat), .int (nI tcu), .ref tsc, .ref tfg, .ref ttv, .ref tpr])), (ttv, .inl (D.2.1, 10, .inl (nA tTV))), (psg, .inl (D.2.1, 10, .inl (nA (fun _ => 0)))), (ptw, .inl (D.2.1, 100, .inl (nA (fun _ => 0))))] rfl (fun H locs hW => ?_)
  refine x_aload_n hx dX2_countDays_16 hl 1 rfl ?_
  refine x_get0 hx hW.1 1 rfl 1 (Nat.le_of_ble_eq_true rfl) wf_RX2_90 rfl dX2_countDays_17 ?_
  refine x_istore_n (lv' := [(2, .int (nI tlo)), (0, .ref pr), (1, .ref tb)]) hx dX2_countDays_20 hl (Nat.le_of_ble_eq_true rfl) rfl (fun ls hl => ?_)
  have L21_1 : ∀ (L21_1n : Nat) (d : Nat), (tlo ≤ d) → (d ≤ te) → te - d < L21_1n → ∀ (H : Heap) (locs : List Loc), Wd X D A [(pr, .inr (2, [.ref pwy, .ref pfp, .ref pmd, .ref pik, .int (nI ic.toNat), .ref psg, .ref ptw, .ref pdb, .ref pad, .ref pal, .ref pah, .ref pst, .int (nI sn)])), (tb, .inr (0, [.int (nI thd.toNat), .int (nI tlo), .int (iI ((te : Int) - 1)), .int (nI thn.toNat), .int (nI tcu), .ref tsc, .ref tfg, .ref ttv, .ref tpr])), (ttv, .inl (D.2.1, 10, .inl (nA tTV))), (psg, .inl (D.2.1, 10, .inl (nA (sgD tTV thn te tlo d)))), (ptw, .inl (D.2.1, 100, .inl (nA (twD tTV thn te tlo d))))] H locs → ∀ ls : Array Slot, lv_has ls 5 [(0, .ref pr), (1, .ref tb), (2, .int (nI d))] → Wx X 0 0 H locs 21 ls [] := by
    intro L21_1n
    induction L21_1n with
    | zero =>
      intro d h1 h2 hm
      exact absurd hm (Nat.not_lt_zero _)
    | succ L21_1n ihL21_1 =>
      intro d h1 h2 hm H locs hW ls hl
      refine x_iload_n hx dX2_countDays_21 hl 2 rfl ?_
      refine x_aload_n hx dX2_countDays_22 hl 1 rfl ?_
      refine x_get0 hx hW.1 1 rfl 2 (Nat.le_of_ble_eq_true rfl) wf_RX2_93 rfl dX2_countDays_23 ?_
      refine x_icmp_gt_Z (a := (d : Int)) (b := ((te : Int) - 1)) (tgt := 113) hx dX2_countDays_26 (by decide) (by omega) (by omega) (fun h_2 => ?_) (fun h_2 => ?_)
      · have e_3 : ∀ k, k < 10 → (sgD tTV thn te tlo d) k = (sgD tTV thn te tlo te) k := by
          intro k hk
          have e9 : d = te := by omega
          rw [e9]
        have hW : Wd X D A [(pr, .inr (2, [.ref pwy, .ref pfp, .ref pmd, .ref pik, .int (nI ic.toNat), .ref psg, .ref ptw, .ref pdb, .ref pad, .ref pal, .ref pah, .ref pst, .int (nI sn)])), (tb, .inr (0, [.int (nI thd.toNat), .int (nI tlo), .int (iI ((te : Int) - 1)), .int (nI thn.toNat), .int (nI tcu), .ref tsc, .ref tfg, .ref ttv, .ref tpr])), (ttv, .inl (D.2.1, 10, .inl (nA tTV))), (psg, .inl (D.2.1, 10, .inl (nA (sgD tTV thn te tlo te)))), (ptw, .inl (D.2.1, 100, .inl (nA (twD tTV thn te tlo d))))] _ _ := hW.row 3 rfl (fun j hj => congrArg (nI) (e_3 j hj)) rfl
        have e_4 : ∀ k, k < 100 → (twD tTV thn te tlo d) k = (twD tTV thn te tlo te) k := by
          intro k hk
          have e9 : d = te := by omega
          rw [e9]
        have hW : Wd X D A [(pr, .inr (2, [.ref pwy, .ref pfp, .ref pmd, .ref pik, .int (nI ic.toNat), .ref psg, .ref ptw, .ref pdb, .ref pad, .ref pal, .ref pah, .ref pst, .int (nI sn)])), (tb, .inr (0, [.int (nI thd.toNat), .int (nI tlo), .int (iI ((te : Int) - 1)), .int (nI thn.toNat), .int (nI tcu), .ref tsc, .ref tfg, .ref ttv, .ref tpr])), (ttv, .inl (D.2.1, 10, .inl (nA tTV))), (psg, .inl (D.2.1, 10, .inl (nA (sgD tTV thn te tlo te)))), (ptw, .inl (D.2.1, 100, .inl (nA (twD tTV thn te tlo te))))] _ _ := hW.row 4 rfl (fun j hj => congrArg (nI) (e_4 j hj)) rfl
        exact hret _ _ _ _ dX2_countDays_113 (hW.conv [0, 3, 4, 1, 2] (w1 := [(pr, .inr (2, [.ref pwy, .ref pfp, .ref pmd, .ref pik, .int (nI ic.toNat), .ref psg, .ref ptw, .ref pdb, .ref pad, .ref pal, .ref pah, .ref pst, .int (nI sn)])), (psg, .inl (D.2.1, 10, .inl (nA (sgD tTV thn te tlo te)))), (ptw, .inl (D.2.1, 100, .inl (nA (twD tTV thn te tlo te)))), (tb, .inr (0, [.int (nI thd.toNat), .int (nI tlo), .int (iI ((te : Int) - 1)), .int (nI thn.toNat), .int (nI tcu), .ref tsc, .ref tfg, .ref ttv, .ref tpr])), (ttv, .inl (D.2.1, 10, .inl (nA tTV)))]) (w2 := [(pr, .inr (2, [.ref pwy, .ref pfp, .ref pmd, .ref pik, .int (nI ic.toNat), .ref psg, .ref ptw, .ref pdb, .ref pad, .ref pal, .ref pah, .ref pst, .int (nI sn)])), (psg, .inl (D.2.1, 10, .inl (nA (sgD tTV thn te tlo te)))), (ptw, .inl (D.2.1, 100, .inl (nA (twD tTV thn te tlo te)))), (tb, .inr (0, [.int (nI thd.toNat), .int (nI tlo), .int (iI ((te : Int) - 1)), .int (nI thn.toNat), .int (nI tcu), .ref tsc, .ref tfg, .ref ttv, .ref tpr])), (ttv, .inl (D.2.1, 10, .inl (nA tTV)))]) rfl rfl rfl)
      · refine x_aload_n hx dX2_countDays_29 hl 1 rfl ?_
        refine x_iload_n hx dX2_countDays_30 hl 2 rfl ?_
        refine x_bipush (v := nI 10) hx dX2_countDays_31 (by decide) ?_
        refine x_irem (v := nI (d % 10)) hx dX2_countDays_33 (by decide) (pk_rem (by omega) (by omega) (by omega)) ?_
        refine x_callRS (As := [.ref tb, .int (nI (d % 10))]) (rest := []) hx yv_X2_lesser (c_X2_lesser _ D tb thd tlo te thn tcu tsc tfg ttv tpr tTV (d % 10) (by first | assumption | omega | (simp [*]; done)) (by first | assumption | omega | (simp [*]; done))) wm_RX2_96 hW.1 [1, 2] rfl ⟨rfl, rfl⟩ ⟨Nat.le_of_ble_eq_true rfl, Nat.le_of_ble_eq_true rfl⟩ ⟨Nat.zero_le _, Nat.zero_le _⟩ hl rfl rfl (Nat.le_of_ble_eq_true rfl) dX2_countDays_34 ?_
        have hl2 := les_lt (TV := tTV) (show d % 10 < 10 by omega)
        refine x_istore_n (lv' := [(3, .int (nI (les tTV (d % 10)))), (0, .ref pr), (1, .ref tb), (2, .int (nI d))]) hx dX2_countDays_37 hl (Nat.le_of_ble_eq_true rfl) rfl (fun ls hl => ?_)
        refine x_aload_n hx dX2_countDays_38 hl 2 rfl ?_
        refine x_iload_n hx dX2_countDays_39 hl 3 rfl ?_
        refine x_callRV (As := [.int (nI d)]) (rest := []) hx yv_X0_hasTwoPlaces (c_X0_hasTwoPlaces _ D tb thd tlo te thn tcu tsc tfg ttv tpr d (by first | assumption | omega | (simp [*]; done)) (by first | assumption | omega | (simp [*]; done))) wm_RX2_100 hW.1 [1] rfl 1 rfl rfl ⟨rfl, rfl⟩ ⟨Nat.le_of_ble_eq_true rfl, Nat.le_of_ble_eq_true rfl⟩ ⟨Nat.zero_le _, Nat.zero_le _⟩ hl rfl rfl (Nat.le_of_ble_eq_true rfl) dX2_countDays_40 ?_
        refine x_if_eq_B (tgt := 97) hx dX2_countDays_43 (by decide) (fun h_5 => ?_) (fun h_5 => ?_)
        · refine x_aload_n hx dX2_countDays_97 hl 1 rfl ?_
          refine x_get2 hx hW.1 0 rfl 5 (Nat.le_of_ble_eq_true rfl) wf_RX2_29 rfl dX2_countDays_98 ?_
          refine x_iload_n hx dX2_countDays_101 hl 0 rfl ?_
          refine x_dup2 hx dX2_countDays_102 rfl rfl ?_
          have hj_103 : les tTV (d % 10) < 10 := by omega
          refine x_iald (v := nI ((sgD tTV thn te tlo d) (les tTV (d % 10)))) hx hW.1 3 rfl hj_103 (by decide) (rfl) dX2_countDays_103 ?_
          refine x_iconst (v := nI 1) hx dX2_countDays_104 (by decide) ?_
          refine x_iadd (v := nI (((sgD tTV thn te tlo d) (les tTV (d % 10))) + 1)) hx dX2_countDays_105 (nI_add _ _) ?_
          have hj_106 : les tTV (d % 10) < 10 := by omega
          refine x_iast hx hW 3 rfl hj_106 (by decide) (upd_nA _ _ _) dX2_countDays_106 [(pr, .inr (2, [.ref pwy, .ref pfp, .ref pmd, .ref pik, .int (nI ic.toNat), .ref psg, .ref ptw, .ref pdb, .ref pad, .ref pal, .ref pah, .ref pst, .int (nI sn)])), (tb, .inr (0, [.int (nI thd.toNat), .int (nI tlo), .int (iI ((te : Int) - 1)), .int (nI thn.toNat), .int (nI tcu), .ref tsc, .ref tfg, .ref ttv, .ref tpr])), (ttv, .inl (D.2.1, 10, .inl (nA tTV))), (psg, .inl (D.2.1, 10, .inl (nA (va_up (sgD tTV thn te tlo d) (les tTV (d % 10)) (((sgD tTV thn te tlo d) (les tTV (d % 10))) + 1))))), (ptw, .inl (D.2.1, 100, .inl (nA (twD tTV thn te tlo d))))] rfl (fun H locs hW => ?_)
          refine x_iinc (v := nI (d + 1)) (lv' := [(2, .int (nI (d + 1))), (3, .int (nI (les tTV (d % 10)))), (0, .ref pr), (1, .ref tb)]) hx dX2_countDays_107 hl 3 rfl (nI_addc d 1) (Nat.le_of_ble_eq_true rfl) rfl (fun ls hl => ?_)
          refine x_goto (tgt := 21) hx dX2_countDays_110 (by decide) ?_
          have e_6 : (d + 1 : Nat) = (d + 1) := by
            first | rfl | omega | (simp [*]; done) | (simp [*]; omega)
          have e_7 : ∀ k, k < 10 → (va_up (sgD tTV thn te tlo d) (les tTV (d % 10)) (((sgD tTV thn te tlo d) (les tTV (d % 10))) + 1)) k = (sgD tTV thn te tlo (d + 1)) k := by
            intro k hk
            first | (simp [sgD, cntTo_0]; done) | exact sgD_y h1 (by assumption) k | exact sgD_n h1 (by assumption) k
          have hW : Wd X D A [(pr, .inr (2, [.ref pwy, .ref pfp, .ref pmd, .ref pik, .int (nI ic.toNat), .ref psg, .ref ptw, .ref pdb, .ref pad, .ref pal, .ref pah, .ref pst, .int (nI sn)])), (tb, .inr (0, [.int (nI thd.toNat), .int (nI tlo), .int (iI ((te : Int) - 1)), .int (nI thn.toNat), .int (nI tcu), .ref tsc, .ref tfg, .ref ttv, .ref tpr])), (ttv, .inl (D.2.1, 10, .inl (nA tTV))), (psg, .inl (D.2.1, 10, .inl (nA (sgD tTV thn te tlo (d + 1))))), (ptw, .inl (D.2.1, 100, .inl (nA (twD tTV thn te tlo d))))] _ _ := hW.row 3 rfl (fun j hj => congrArg (nI) (e_7 j hj)) rfl
          have e_8 : ∀ k, k < 100 → (twD tTV thn te tlo d) k = (twD tTV thn te tlo (d + 1)) k := by
            intro k hk
            first | (simp [twD, cntTo_0]; done) | exact twD_n h1 (by assumption) k | exact twD_y1 h1 (by assumption) (by assumption) k | exact twD_y2 h1 (by assumption) (by assumption) (by assumption) (by assumption) k
          have hW : Wd X D A [(pr, .inr (2, [.ref pwy, .ref pfp, .ref pmd, .ref pik, .int (nI ic.toNat), .ref psg, .ref ptw, .ref pdb, .ref pad, .ref pal, .ref pah, .ref pst, .int (nI sn)])), (tb, .inr (0, [.int (nI thd.toNat), .int (nI tlo), .int (iI ((te : Int) - 1)), .int (nI thn.toNat), .int (nI tcu), .ref tsc, .ref tfg, .ref ttv, .ref tpr])), (ttv, .inl (D.2.1, 10, .inl (nA tTV))), (psg, .inl (D.2.1, 10, .inl (nA (sgD tTV thn te tlo (d + 1))))), (ptw, .inl (D.2.1, 100, .inl (nA (twD tTV thn te tlo (d + 1)))))] _ _ := hW.row 4 rfl (fun j hj => congrArg (nI) (e_8 j hj)) rfl
          exact ihL21_1 (d + 1) (by first | assumption | omega | (simp [*]; done)) (by first | assumption | omega | (simp [*]; done)) (by omega) _ _ hW _ (lv_to (l := [(0, .ref pr), (1, .ref tb), (2, .int (nI (d + 1)))]) (l2 := [(0, .ref pr), (1, .ref tb), (2, .int (nI (d + 1)))]) (lv_sub hl [2, 3, 0] rfl) (cE rfl (cE rfl (cE (congrArg (fun z => ((2, Value.int z) : Nat × Value)) (congrArg (fun z : Nat => nI z) e_6)) rfl))))
        · refine x_aload_n hx dX2_countDays_46 hl 2 rfl ?_
          refine x_iload_n hx dX2_countDays_47 hl 3 rfl ?_
          refine x_bipush (v := nI 10) hx dX2_countDays_48 (by decide) ?_
          refine x_idiv (v := nI (d / 10)) hx dX2_countDays_50 (by decide) (pk_div (by omega) (by omega) (by omega)) ?_
          refine x_callRS (As := [.ref tb, .int (nI (d / 10))]) (rest := []) hx yv_X2_lesser (c_X2_lesser _ D tb thd tlo te thn tcu tsc tfg ttv tpr tTV (d / 10) (by first | assumption | omega | (simp [*]; done)) (by first | assumption | omega | (simp [*]; done))) wm_RX2_96 hW.1 [1, 2] rfl ⟨rfl, rfl⟩ ⟨Nat.le_of_ble_eq_true rfl, Nat.le_of_ble_eq_true rfl⟩ ⟨Nat.zero_le _, Nat.zero_le _⟩ hl rfl rfl (Nat.le_of_ble_eq_true rfl) dX2_countDays_51 ?_
          have hl1 := les_lt (TV := tTV) (show d / 10 < 10 by omega)
          refine x_istore (lv' := [(4, .int (nI (les tTV (d / 10)))), (3, .int (nI (les tTV (d % 10)))), (0, .ref pr), (1, .ref tb), (2, .int (nI d))]) hx dX2_countDays_54 hl (Nat.le_of_ble_eq_true rfl) rfl (fun ls hl => ?_)
          refine x_aload_n hx dX2_countDays_56 hl 2 rfl ?_
          refine x_get2 hx hW.1 0 rfl 6 (Nat.le_of_ble_eq_true rfl) wf_RX2_32 rfl dX2_countDays_57 ?_
          refine x_iload hx dX2_countDays_60 hl 0 rfl ?_
          refine x_bipush (v := nI 10) hx dX2_countDays_62 (by decide) ?_
          refine x_imul (v := nI ((les tTV (d / 10)) * 10)) hx dX2_countDays_64 (pk_mul _ _) ?_
          refine x_iload_n hx dX2_countDays_65 hl 1 rfl ?_
          refine x_iadd (v := nI (((les tTV (d / 10)) * 10) + (les tTV (d % 10)))) hx dX2_countDays_66 (nI_add _ _) ?_
          refine x_dup2 hx dX2_countDays_67 rfl rfl ?_
          have hj_68 : ((les tTV (d / 10)) * 10) + (les tTV (d % 10)) < 100 := by omega
          refine x_iald (v := nI ((twD tTV thn te tlo d) (((les tTV (d / 10)) * 10) + (les tTV (d % 10))))) hx hW.1 4 rfl hj_68 (by decide) (rfl) dX2_countDays_68 ?_
          refine x_iconst (v := nI 1) hx dX2_countDays_69 (by decide) ?_
          refine x_iadd (v := nI (((twD tTV thn te tlo d) (((les tTV (d / 10)) * 10) + (les tTV (d % 10)))) + 1)) hx dX2_countDays_70 (nI_add _ _) ?_
          have hj_71 : ((les tTV (d / 10)) * 10) + (les tTV (d % 10)) < 100 := by omega
          refine x_iast hx hW 4 rfl hj_71 (by decide) (upd_nA _ _ _) dX2_countDays_71 [(pr, .inr (2, [.ref pwy, .ref pfp, .ref pmd, .ref pik, .int (nI ic.toNat), .ref psg, .ref ptw, .ref pdb, .ref pad, .ref pal, .ref pah, .ref pst, .int (nI sn)])), (tb, .inr (0, [.int (nI thd.toNat), .int (nI tlo), .int (iI ((te : Int) - 1)), .int (nI thn.toNat), .int (nI tcu), .ref tsc, .ref tfg, .ref ttv, .ref tpr])), (ttv, .inl (D.2.1, 10, .inl (nA tTV))), (psg, .inl (D.2.1, 10, .inl (nA (sgD tTV thn te tlo d)))), (ptw, .inl (D.2.1, 100, .inl (nA (va_up (twD tTV thn te tlo d) (((les tTV (d / 10)) * 10) + (les tTV (d % 10))) (((twD tTV thn te tlo d) (((les tTV (d / 10)) * 10) + (les tTV (d % 10)))) + 1)))))] rfl (fun H locs hW => ?_)
          refine x_iload hx dX2_countDays_72 hl 0 rfl ?_
          refine x_iload_n hx dX2_countDays_74 hl 1 rfl ?_
          refine x_icmp_eq_N (a := (les tTV (d / 10))) (b := (les tTV (d % 10))) (tgt := 94) hx dX2_countDays_75 (by decide) (by omega) (by omega) (fun h_9 => ?_) (fun h_9 => ?_)
          · refine x_goto (tgt := 107) hx dX2_countDays_94 (by decide) ?_
            refine x_iinc (v := nI (d + 1)) (lv' := [(2, .int (nI (d + 1))), (4, .int (nI (les tTV (d / 10)))), (3, .int (nI (les tTV (d % 10)))), (0, .ref pr), (1, .ref tb)]) hx dX2_countDays_107 hl 4 rfl (nI_addc d 1) (Nat.le_of_ble_eq_true rfl) rfl (fun ls hl => ?_)
            refine x_goto (tgt := 21) hx dX2_countDays_110 (by decide) ?_
            have e_10 : (d + 1 : Nat) = (d + 1) := by
              first | rfl | omega | (simp [*]; done) | (simp [*]; omega)
            have e_11 : ∀ k, k < 10 → (sgD tTV thn te tlo d) k = (sgD tTV thn te tlo (d + 1)) k := by
              intro k hk
              first | (simp [sgD, cntTo_0]; done) | exact sgD_y h1 (by assumption) k | exact sgD_n h1 (by assumption) k
            have hW : Wd X D A [(pr, .inr (2, [.ref pwy, .ref pfp, .ref pmd, .ref pik, .int (nI ic.toNat), .ref psg, .ref ptw, .ref pdb, .ref pad, .ref pal, .ref pah, .ref pst, .int (nI sn)])), (tb, .inr (0, [.int (nI thd.toNat), .int (nI tlo), .int (iI ((te : Int) - 1)), .int (nI thn.toNat), .int (nI tcu), .ref tsc, .ref tfg, .ref ttv, .ref tpr])), (ttv, .inl (D.2.1, 10, .inl (nA tTV))), (psg, .inl (D.2.1, 10, .inl (nA (sgD tTV thn te tlo (d + 1))))), (ptw, .inl (D.2.1, 100, .inl (nA (va_up (twD tTV thn te tlo d) (((les tTV (d / 10)) * 10) + (les tTV (d % 10))) (((twD tTV thn te tlo d) (((les tTV (d / 10)) * 10) + (les tTV (d % 10)))) + 1)))))] _ _ := hW.row 3 rfl (fun j hj => congrArg (nI) (e_11 j hj)) rfl
            have e_12 : ∀ k, k < 100 → (va_up (twD tTV thn te tlo d) (((les tTV (d / 10)) * 10) + (les tTV (d % 10))) (((twD tTV thn te tlo d) (((les tTV (d / 10)) * 10) + (les tTV (d % 10)))) + 1)) k = (twD tTV thn te tlo (d + 1)) k := by
              intro k hk
              first | (simp [twD, cntTo_0]; done) | exact twD_n h1 (by assumption) k | exact twD_y1 h1 (by assumption) (by assumption) k | exact twD_y2 h1 (by assumption) (by assumption) (by assumption) (by assumption) k
            have hW : Wd X D A [(pr, .inr (2, [.ref pwy, .ref pfp, .ref pmd, .ref pik, .int (nI ic.toNat), .ref psg, .ref ptw, .ref pdb, .ref pad, .ref pal, .ref pah, .ref pst, .int (nI sn)])), (tb, .inr (0, [.int (nI thd.toNat), .int (nI tlo), .int (iI ((te : Int) - 1)), .int (nI thn.toNat), .int (nI tcu), .ref tsc, .ref tfg, .ref ttv, .ref tpr])), (ttv, .inl (D.2.1, 10, .inl (nA tTV))), (psg, .inl (D.2.1, 10, .inl (nA (sgD tTV thn te tlo (d + 1))))), (ptw, .inl (D.2.1, 100, .inl (nA (twD tTV thn te tlo (d + 1)))))] _ _ := hW.row 4 rfl (fun j hj => congrArg (nI) (e_12 j hj)) rfl
            exact ihL21_1 (d + 1) (by first | assumption | omega | (simp [*]; done)) (by first | assumption | omega | (simp [*]; done)) (by omega) _ _ hW _ (lv_to (l := [(0, .ref pr), (1, .ref tb), (2, .int (nI (d + 1)))]) (l2 := [(0, .ref pr), (1, .ref tb), (2, .int (nI (d + 1)))]) (lv_sub hl [3, 4, 0] rfl) (cE rfl (cE rfl (cE (congrArg (fun z => ((2, Value.int z) : Nat × Value)) (congrArg (fun z : Nat => nI z) e_10)) rfl))))
          · refine x_aload_n hx dX2_countDays_78 hl 2 rfl ?_
            refine x_get2 hx hW.1 0 rfl 6 (Nat.le_of_ble_eq_true rfl) wf_RX2_32 rfl dX2_countDays_79 ?_
            refine x_iload_n hx dX2_countDays_82 hl 1 rfl ?_
            refine x_bipush (v := nI 10) hx dX2_countDays_83 (by decide) ?_
            refine x_imul (v := nI ((les tTV (d % 10)) * 10)) hx dX2_countDays_85 (pk_mul _ _) ?_
            refine x_iload hx dX2_countDays_86 hl 0 rfl ?_
            refine x_iadd (v := nI (((les tTV (d % 10)) * 10) + (les tTV (d / 10)))) hx dX2_countDays_88 (nI_add _ _) ?_
            refine x_dup2 hx dX2_countDays_89 rfl rfl ?_
            have hj_90 : ((les tTV (d % 10)) * 10) + (les tTV (d / 10)) < 100 := by omega
            refine x_iald (v := nI ((va_up (twD tTV thn te tlo d) (((les tTV (d / 10)) * 10) + (les tTV (d % 10))) (((twD tTV thn te tlo d) (((les tTV (d / 10)) * 10) + (les tTV (d % 10)))) + 1)) (((les tTV (d % 10)) * 10) + (les tTV (d / 10))))) hx hW.1 4 rfl hj_90 (by decide) (rfl) dX2_countDays_90 ?_
            refine x_iconst (v := nI 1) hx dX2_countDays_91 (by decide) ?_
            refine x_iadd (v := nI (((va_up (twD tTV thn te tlo d) (((les tTV (d / 10)) * 10) + (les tTV (d % 10))) (((twD tTV thn te tlo d) (((les tTV (d / 10)) * 10) + (les tTV (d % 10)))) + 1)) (((les tTV (d % 10)) * 10) + (les tTV (d / 10)))) + 1)) hx dX2_countDays_92 (nI_add _ _) ?_
            have hj_93 : ((les tTV (d % 10)) * 10) + (les tTV (d / 10)) < 100 := by omega
            refine x_iast hx hW 4 rfl hj_93 (by decide) (upd_nA _ _ _) dX2_countDays_93 [(pr, .inr (2, [.ref pwy, .ref pfp, .ref pmd, .ref pik, .int (nI ic.toNat), .ref psg, .ref ptw, .ref pdb, .ref pad, .ref pal, .ref pah, .ref pst, .int (nI sn)])), (tb, .inr (0, [.int (nI thd.toNat), .int (nI tlo), .int (iI ((te : Int) - 1)), .int (nI thn.toNat), .int (nI tcu), .ref tsc, .ref tfg, .ref ttv, .ref tpr])), (ttv, .inl (D.2.1, 10, .inl (nA tTV))), (psg, .inl (D.2.1, 10, .inl (nA (sgD tTV thn te tlo d)))), (ptw, .inl (D.2.1, 100, .inl (nA (va_up (va_up (twD tTV thn te tlo d) (((les tTV (d / 10)) * 10) + (les tTV (d % 10))) (((twD tTV thn te tlo d) (((les tTV (d / 10)) * 10) + (les tTV (d % 10)))) + 1)) (((les tTV (d % 10)) * 10) + (les tTV (d / 10))) (((va_up (twD tTV thn te tlo d) (((les tTV (d / 10)) * 10) + (les tTV (d % 10))) (((twD tTV thn te tlo d) (((les tTV (d / 10)) * 10) + (les tTV (d % 10)))) + 1)) (((les tTV (d % 10)) * 10) + (les tTV (d / 10)))) + 1)))))] rfl (fun H locs hW => ?_)
            refine x_goto (tgt := 107) hx dX2_countDays_94 (by decide) ?_
            refine x_iinc (v := nI (d + 1)) (lv' := [(2, .int (nI (d + 1))), (4, .int (nI (les tTV (d / 10)))), (3, .int (nI (les tTV (d % 10)))), (0, .ref pr), (1, .ref tb)]) hx dX2_countDays_107 hl 4 rfl (nI_addc d 1) (Nat.le_of_ble_eq_true rfl) rfl (fun ls hl => ?_)
            refine x_goto (tgt := 21) hx dX2_countDays_110 (by decide) ?_
            have e_13 : (d + 1 : Nat) = (d + 1) := by
              first | rfl | omega | (simp [*]; done) | (simp [*]; omega)
            have e_14 : ∀ k, k < 10 → (sgD tTV thn te tlo d) k = (sgD tTV thn te tlo (d + 1)) k := by
              intro k hk
              first | (simp [sgD, cntTo_0]; done) | exact sgD_y h1 (by assumption) k | exact sgD_n h1 (by assumption) k
            have hW : Wd X D A [(pr, .inr (2, [.ref pwy, .ref pfp, .ref pmd, .ref pik, .int (nI ic.toNat), .ref psg, .ref ptw, .ref pdb, .ref pad, .ref pal, .ref pah, .ref pst, .int (nI sn)])), (tb, .inr (0, [.int (nI thd.toNat), .int (nI tlo), .int (iI ((te : Int) - 1)), .int (nI thn.toNat), .int (nI tcu), .ref tsc, .ref tfg, .ref ttv, .ref tpr])), (ttv, .inl (D.2.1, 10, .inl (nA tTV))), (psg, .inl (D.2.1, 10, .inl (nA (sgD tTV thn te tlo (d + 1))))), (ptw, .inl (D.2.1, 100, .inl (nA (va_up (va_up (twD tTV thn te tlo d) (((les tTV (d / 10)) * 10) + (les tTV (d % 10))) (((twD tTV thn te tlo d) (((les tTV (d / 10)) * 10) + (les tTV (d % 10)))) + 1)) (((les tTV (d % 10)) * 10) + (les tTV (d / 10))) (((va_up (twD tTV thn te tlo d) (((les tTV (d / 10)) * 10) + (les tTV (d % 10))) (((twD tTV thn te tlo d) (((les tTV (d / 10)) * 10) + (les tTV (d % 10)))) + 1)) (((les tTV (d % 10)) * 10) + (les tTV (d / 10)))) + 1)))))] _ _ := hW.row 3 rfl (fun j hj => congrArg (nI) (e_14 j hj)) rfl
            have e_15 : ∀ k, k < 100 → (va_up (va_up (twD tTV thn te tlo d) (((les tTV (d / 10)) * 10) + (les tTV (d % 10))) (((twD tTV thn te tlo d) (((les tTV (d / 10)) * 10) + (les tTV (d % 10)))) + 1)) (((les tTV (d % 10)) * 10) + (les tTV (d / 10))) (((va_up (twD tTV thn te tlo d) (((les tTV (d / 10)) * 10) + (les tTV (d % 10))) (((twD tTV thn te tlo d) (((les tTV (d / 10)) * 10) + (les tTV (d % 10)))) + 1)) (((les tTV (d % 10)) * 10) + (les tTV (d / 10)))) + 1)) k = (twD tTV thn te tlo (d + 1)) k := by
              intro k hk
              first | (simp [twD, cntTo_0]; done) | exact twD_n h1 (by assumption) k | exact twD_y1 h1 (by assumption) (by assumption) k | exact twD_y2 h1 (by assumption) (by assumption) (by assumption) (by assumption) k
            have hW : Wd X D A [(pr, .inr (2, [.ref pwy, .ref pfp, .ref pmd, .ref pik, .int (nI ic.toNat), .ref psg, .ref ptw, .ref pdb, .ref pad, .ref pal, .ref pah, .ref pst, .int (nI sn)])), (tb, .inr (0, [.int (nI thd.toNat), .int (nI tlo), .int (iI ((te : Int) - 1)), .int (nI thn.toNat), .int (nI tcu), .ref tsc, .ref tfg, .ref ttv, .ref tpr])), (ttv, .inl (D.2.1, 10, .inl (nA tTV))), (psg, .inl (D.2.1, 10, .inl (nA (sgD tTV thn te tlo (d + 1))))), (ptw, .inl (D.2.1, 100, .inl (nA (twD tTV thn te tlo (d + 1)))))] _ _ := hW.row 4 rfl (fun j hj => congrArg (nI) (e_15 j hj)) rfl
            exact ihL21_1 (d + 1) (by first | assumption | omega | (simp [*]; done)) (by first | assumption | omega | (simp [*]; done)) (by omega) _ _ hW _ (lv_to (l := [(0, .ref pr), (1, .ref tb), (2, .int (nI (d + 1)))]) (l2 := [(0, .ref pr), (1, .ref tb), (2, .int (nI (d + 1)))]) (lv_sub hl [3, 4, 0] rfl) (cE rfl (cE rfl (cE (congrArg (fun z => ((2, Value.int z) : Nat × Value)) (congrArg (fun z : Nat => nI z) e_13)) rfl))))
  have e_16 : ∀ k, k < 10 → (fun _ => 0) k = (sgD tTV thn te tlo tlo) k := by
    intro k hk
    first | (simp [sgD, cntTo_0]; done) | exact sgD_y h1 (by assumption) k | exact sgD_n h1 (by assumption) k
  have hW : Wd X D A [(pr, .inr (2, [.ref pwy, .ref pfp, .ref pmd, .ref pik, .int (nI ic.toNat), .ref psg, .ref ptw, .ref pdb, .ref pad, .ref pal, .ref pah, .ref pst, .int (nI sn)])), (tb, .inr (0, [.int (nI thd.toNat), .int (nI tlo), .int (iI ((te : Int) - 1)), .int (nI thn.toNat), .int (nI tcu), .ref tsc, .ref tfg, .ref ttv, .ref tpr])), (ttv, .inl (D.2.1, 10, .inl (nA tTV))), (psg, .inl (D.2.1, 10, .inl (nA (sgD tTV thn te tlo tlo)))), (ptw, .inl (D.2.1, 100, .inl (nA (fun _ => 0))))] _ _ := hW.row 3 rfl (fun j hj => congrArg (nI) (e_16 j hj)) rfl
  have e_17 : ∀ k, k < 100 → (fun _ => 0) k = (twD tTV thn te tlo tlo) k := by
    intro k hk
    first | (simp [twD, cntTo_0]; done) | exact twD_n h1 (by assumption) k | exact twD_y1 h1 (by assumption) (by assumption) k | exact twD_y2 h1 (by assumption) (by assumption) (by assumption) (by assumption) k
  have hW : Wd X D A [(pr, .inr (2, [.ref pwy, .ref pfp, .ref pmd, .ref pik, .int (nI ic.toNat), .ref psg, .ref ptw, .ref pdb, .ref pad, .ref pal, .ref pah, .ref pst, .int (nI sn)])), (tb, .inr (0, [.int (nI thd.toNat), .int (nI tlo), .int (iI ((te : Int) - 1)), .int (nI thn.toNat), .int (nI tcu), .ref tsc, .ref tfg, .ref ttv, .ref tpr])), (ttv, .inl (D.2.1, 10, .inl (nA tTV))), (psg, .inl (D.2.1, 10, .inl (nA (sgD tTV thn te tlo tlo)))), (ptw, .inl (D.2.1, 100, .inl (nA (twD tTV thn te tlo tlo))))] _ _ := hW.row 4 rfl (fun j hj => congrArg (nI) (e_17 j hj)) rfl
  exact L21_1 (te - tlo + 1) tlo (by first | assumption | omega | (simp [*]; done)) (by first | assumption | omega | (simp [*]; done)) (Nat.lt_succ_self _) _ _ hW _ (lv_sub hl [1, 2, 0] rfl)
set_option maxHeartbeats 4000000 in
set_option maxRecDepth 100000 in
theorem c_X2_countDoubled (l : Launch) (D : KD) (pr : Nat) (pwy : Nat) (pfp : Nat) (pmd : Nat) (pik : Nat) (psg : Nat) (ptw : Nat) (pdb : Nat) (pad : Nat) (pal : Nat) (pah : Nat) (pst : Nat) (ic : Bool) (sn : Nat) (SI : Nat → Nat) (TW : Nat → Nat) (DB : Nat → Nat)  : cV l yX2_countDoubled cX2_countDoubled 6 rm_X2_countDoubled D [(pr, .inr (2, [.ref pwy, .ref pfp, .ref pmd, .ref pik, .int (nI ic.toNat), .ref psg, .ref ptw, .ref pdb, .ref pad, .ref pal, .ref pah, .ref pst, .int (nI sn)])), (psg, .inl (D.2.1, 10, .inl (nA SI))), (ptw, .inl (D.2.1, 100, .inl (nA TW))), (pdb, .inl (D.2.1, 1024, .inl (nA DB)))] [.ref pr] [(pr, .inr (2, [.ref pwy, .ref pfp, .ref pmd, .ref pik, .int (nI ic.toNat), .ref psg, .ref ptw, .ref pdb, .ref pad, .ref pal, .ref pah, .ref pst, .int (nI sn)])), (psg, .inl (D.2.1, 10, .inl (nA SI))), (ptw, .inl (D.2.1, 100, .inl (nA TW))), (pdb, .inl (D.2.1, 1024, .inl (nA (dblF SI TW))))] := by
  refine cV.mk (by decide) (Nat.le_of_ble_eq_true rfl) ?_
  intro X A hx hL hA hW hret ls hl
  subst hL
  have hl : lv_has ls 6 [(0, .ref pr)] := hl
  refine x_aload_n hx dX2_countDoubled_0 hl 0 rfl ?_
  refine x_get2 hx hW.1 0 rfl 7 (Nat.le_of_ble_eq_true rfl) wf_RX2_35 rfl dX2_countDoubled_1 ?_
  refine x_iconst (v := nI 0) hx dX2_countDoubled_4 (by decide) ?_
  refine x_iconst (v := nI 0) hx dX2_countDoubled_5 (by decide) ?_
  have hj_6 : 0 < 1024 := by omega
  refine x_iast hx hW 3 rfl hj_6 (by decide) (upd_nA _ _ _) dX2_countDoubled_6 [(pr, .inr (2, [.ref pwy, .ref pfp, .ref pmd, .ref pik, .int (nI ic.toNat), .ref psg, .ref ptw, .ref pdb, .ref pad, .ref pal, .ref pah, .ref pst, .int (nI sn)])), (psg, .inl (D.2.1, 10, .inl (nA SI))), (ptw, .inl (D.2.1, 100, .inl (nA TW))), (pdb, .inl (D.2.1, 1024, .inl (nA (va_up DB 0 0))))] rfl (fun H locs hW => ?_)
  refine x_iconst (v := nI 1) hx dX2_countDoubled_7 (by decide) ?_
  refine x_istore_n (lv' := [(1, .int (nI 1)), (0, .ref pr)]) hx dX2_countDoubled_8 hl (Nat.le_of_ble_eq_true rfl) rfl (fun ls hl => ?_)
  have L9_1 : ∀ (L9_1n : Nat) (m : Nat), (1 ≤ m) → (m ≤ 1024) → 1024 - m < L9_1n → ∀ (H : Heap) (locs : List Loc), Wd X D A [(pr, .inr (2, [.ref pwy, .ref pfp, .ref pmd, .ref pik, .int (nI ic.toNat), .ref psg, .ref ptw, .ref pdb, .ref pad, .ref pal, .ref pah, .ref pst, .int (nI sn)])), (psg, .inl (D.2.1, 10, .inl (nA SI))), (ptw, .inl (D.2.1, 100, .inl (nA TW))), (pdb, .inl (D.2.1, 1024, .inl (nA (filN (dblF SI TW) DB m))))] H locs → ∀ ls : Array Slot, lv_has ls 6 [(0, .ref pr), (1, .int (nI m))] → Wx X 0 0 H locs 9 ls [] := by
    intro L9_1n
    induction L9_1n with
    | zero =>
      intro m h1 h2 hm
      exact absurd hm (Nat.not_lt_zero _)
    | succ L9_1n ihL9_1 =>
      intro m h1 h2 hm H locs hW ls hl
      refine x_iload_n hx dX2_countDoubled_9 hl 1 rfl ?_
      refine x_sipush (v := nI 1024) hx dX2_countDoubled_10 (by decide) ?_
      refine x_icmp_ge_N (a := m) (b := 1024) (tgt := 98) hx dX2_countDoubled_13 (by decide) (by omega) (by omega) (fun h_2 => ?_) (fun h_2 => ?_)
      · have e_3 : ∀ k, k < 1024 → (filN (dblF SI TW) DB m) k = (dblF SI TW) k := by
          intro k hk
          have e9 : m = 1024 := by omega
          rw [e9]; exact filN_in hk
        have hW : Wd X D A [(pr, .inr (2, [.ref pwy, .ref pfp, .ref pmd, .ref pik, .int (nI ic.toNat), .ref psg, .ref ptw, .ref pdb, .ref pad, .ref pal, .ref pah, .ref pst, .int (nI sn)])), (psg, .inl (D.2.1, 10, .inl (nA SI))), (ptw, .inl (D.2.1, 100, .inl (nA TW))), (pdb, .inl (D.2.1, 1024, .inl (nA (dblF SI TW))))] _ _ := hW.row 3 rfl (fun j hj => congrArg (nI) (e_3 j hj)) rfl
        exact hret _ _ _ _ dX2_countDoubled_98 hW
      · have hlb := low_bits m (by omega) (by omega)
        have hlb1 := hlb.1
        have hlb3 := hlb.2.2.1
        have hm9 : m < 1024 := by omega
        refine x_iload_n hx dX2_countDoubled_16 hl 1 rfl ?_
        refine x_callRN (As := [.int (nI m)]) (rest := []) hx yv_X7_leastOf (c_X7_leastOf _ D m (by first | assumption | omega | (simp [*]; done)) (by first | assumption | omega | (simp [*]; done))) (List.mem_of_getElem? (i := 11) rfl) hW.1 [] rfl ⟨rfl, rfl⟩ ⟨Nat.le_of_ble_eq_true rfl, Nat.le_of_ble_eq_true rfl⟩ ⟨Nat.zero_le _, Nat.zero_le _⟩ hl rfl rfl (Nat.le_of_ble_eq_true rfl) dX2_countDoubled_17 ?_
        refine x_istore_n (lv' := [(2, .int (nI (lowB m))), (0, .ref pr), (1, .int (nI m))]) hx dX2_countDoubled_20 hl (Nat.le_of_ble_eq_true rfl) rfl (fun ls hl => ?_)
        refine x_iload_n hx dX2_countDoubled_21 hl 2 rfl ?_
        refine x_iload_n hx dX2_countDoubled_22 hl 2 rfl ?_
        refine x_iconst (v := nI 1) hx dX2_countDoubled_23 (by decide) ?_
        refine x_isub (v := nI (m - 1)) hx dX2_countDoubled_24 (pk_sub (by omega)) ?_
        refine x_iand (v := nI (m &&& (m - 1))) hx dX2_countDoubled_25 (nI_and _ _) ?_
        refine x_istore_n (lv' := [(3, .int (nI (m &&& (m - 1)))), (2, .int (nI (lowB m))), (0, .ref pr), (1, .int (nI m))]) hx dX2_countDoubled_26 hl (Nat.le_of_ble_eq_true rfl) rfl (fun ls hl => ?_)
        refine x_aload_n hx dX2_countDoubled_27 hl 2 rfl ?_
        refine x_get2 hx hW.1 0 rfl 7 (Nat.le_of_ble_eq_true rfl) wf_RX2_35 rfl dX2_countDoubled_28 ?_
        refine x_iload_n hx dX2_countDoubled_31 hl 0 rfl ?_
        have hj_32 : m &&& (m - 1) < 1024 := by omega
        refine x_iald (v := nI ((filN (dblF SI TW) DB m) (m &&& (m - 1)))) hx hW.1 3 rfl hj_32 (by decide) (rfl) dX2_countDoubled_32 ?_
        refine x_aload_n hx dX2_countDoubled_33 hl 2 rfl ?_
        refine x_get2 hx hW.1 0 rfl 5 (Nat.le_of_ble_eq_true rfl) wf_RX2_29 rfl dX2_countDoubled_34 ?_
        refine x_iload_n hx dX2_countDoubled_37 hl 1 rfl ?_
        have hj_38 : lowB m < 10 := by omega
        refine x_iald (v := nI (SI (lowB m))) hx hW.1 1 rfl hj_38 (by decide) (rfl) dX2_countDoubled_38 ?_
        refine x_iadd (v := nI (((filN (dblF SI TW) DB m) (m &&& (m - 1))) + (SI (lowB m)))) hx dX2_countDoubled_39 (nI_add _ _) ?_
        refine x_istore (lv' := [(4, .int (nI (((filN (dblF SI TW) DB m) (m &&& (m - 1))) + (SI (lowB m))))), (3, .int (nI (m &&& (m - 1)))), (2, .int (nI (lowB m))), (0, .ref pr), (1, .int (nI m))]) hx dX2_countDoubled_40 hl (Nat.le_of_ble_eq_true rfl) rfl (fun ls hl => ?_)
        refine x_iload_n hx dX2_countDoubled_42 hl 2 rfl ?_
        refine x_iconst (v := nI 1) hx dX2_countDoubled_43 (by decide) ?_
        refine x_iadd (v := nI (lowB m + 1)) hx dX2_countDoubled_44 (nI_add _ _) ?_
        refine x_istore (lv' := [(5, .int (nI (lowB m + 1))), (4, .int (nI (((filN (dblF SI TW) DB m) (m &&& (m - 1))) + (SI (lowB m))))), (3, .int (nI (m &&& (m - 1)))), (2, .int (nI (lowB m))), (0, .ref pr), (1, .int (nI m))]) hx dX2_countDoubled_45 hl (Nat.le_of_ble_eq_true rfl) rfl (fun ls hl => ?_)
        have L47_4 : ∀ (L47_4n : Nat) (h : Nat), (lowB m + 1 ≤ h) → (h ≤ 10) → 10 - h < L47_4n → ∀ (H : Heap) (locs : List Loc), Wd X D A [(pr, .inr (2, [.ref pwy, .ref pfp, .ref pmd, .ref pik, .int (nI ic.toNat), .ref psg, .ref ptw, .ref pdb, .ref pad, .ref pal, .ref pah, .ref pst, .int (nI sn)])), (psg, .inl (D.2.1, 10, .inl (nA SI))), (ptw, .inl (D.2.1, 100, .inl (nA TW))), (pdb, .inl (D.2.1, 1024, .inl (nA (filN (dblF SI TW) DB m))))] H locs → ∀ ls : Array Slot, lv_has ls 6 [(0, .ref pr), (1, .int (nI m)), (2, .int (nI (lowB m))), (3, .int (nI (m &&& (m - 1)))), (4, .int (nI ((filN (dblF SI TW) DB m) (m &&& (m - 1)) + SI (lowB m) + smTo (fun x => ((m &&& (m - 1)).testBit x).toNat * TW (lowB m * 10 + x)) (lowB m + 1) h))), (5, .int (nI h))] → Wx X 0 0 H locs 47 ls [] := by
          intro L47_4n
          induction L47_4n with
          | zero =>
            intro h h3 h4 hm
            exact absurd hm (Nat.not_lt_zero _)
          | succ L47_4n ihL47_4 =>
            intro h h3 h4 hm H locs hW ls hl
            refine x_iload hx dX2_countDoubled_47 hl 5 rfl ?_
            refine x_bipush (v := nI 10) hx dX2_countDoubled_49 (by decide) ?_
            refine x_icmp_ge_N (a := h) (b := 10) (tgt := 84) hx dX2_countDoubled_51 (by decide) (by omega) (by omega) (fun h_5 => ?_) (fun h_5 => ?_)
            · refine x_aload_n hx dX2_countDoubled_84 hl 0 rfl ?_
              refine x_get2 hx hW.1 0 rfl 7 (Nat.le_of_ble_eq_true rfl) wf_RX2_35 rfl dX2_countDoubled_85 ?_
              refine x_iload_n hx dX2_countDoubled_88 hl 1 rfl ?_
              refine x_iload hx dX2_countDoubled_89 hl 4 rfl ?_
              have hj_91 : m < 1024 := by omega
              refine x_iast hx hW 3 rfl hj_91 (by decide) (upd_nA _ _ _) dX2_countDoubled_91 [(pr, .inr (2, [.ref pwy, .ref pfp, .ref pmd, .ref pik, .int (nI ic.toNat), .ref psg, .ref ptw, .ref pdb, .ref pad, .ref pal, .ref pah, .ref pst, .int (nI sn)])), (psg, .inl (D.2.1, 10, .inl (nA SI))), (ptw, .inl (D.2.1, 100, .inl (nA TW))), (pdb, .inl (D.2.1, 1024, .inl (nA (va_up (filN (dblF SI TW) DB m) m ((filN (dblF SI TW) DB m) (m &&& (m - 1)) + SI (lowB m) + smTo (fun x => ((m &&& (m - 1)).testBit x).toNat * TW (lowB m * 10 + x)) (lowB m + 1) h)))))] rfl (fun H locs hW => ?_)
              refine x_iinc (v := nI (m + 1)) (lv' := [(1, .int (nI (m + 1))), (0, .ref pr), (2, .int (nI (lowB m))), (3, .int (nI (m &&& (m - 1)))), (4, .int (nI ((filN (dblF SI TW) DB m) (m &&& (m - 1)) + SI (lowB m) + smTo (fun x => ((m &&& (m - 1)).testBit x).toNat * TW (lowB m * 10 + x)) (lowB m + 1) h))), (5, .int (nI h))]) hx dX2_countDoubled_92 hl 1 rfl (nI_addc m 1) (Nat.le_of_ble_eq_true rfl) rfl (fun ls hl => ?_)
              refine x_goto (tgt := 9) hx dX2_countDoubled_95 (by decide) ?_
              have e_6 : (m + 1 : Nat) = (m + 1) := by
                first | rfl | omega | (simp [*]; done) | (simp [*]; omega)
              have e_7 : ∀ k, k < 1024 → (va_up (filN (dblF SI TW) DB m) m ((filN (dblF SI TW) DB m) (m &&& (m - 1)) + SI (lowB m) + smTo (fun x => ((m &&& (m - 1)).testBit x).toNat * TW (lowB m * 10 + x)) (lowB m + 1) h)) k = (filN (dblF SI TW) DB (m + 1)) k := by
                intro k hk
                first | (by_cases h0 : k = 0 <;> simp [va_up, filN, dblF_0, h0]; done) | exact filN_up (by rw [← dblF_s SI TW (by assumption) (by omega), filN_in hlb3]; congr 2; omega) k
              have hW : Wd X D A [(pr, .inr (2, [.ref pwy, .ref pfp, .ref pmd, .ref pik, .int (nI ic.toNat), .ref psg, .ref ptw, .ref pdb, .ref pad, .ref pal, .ref pah, .ref pst, .int (nI sn)])), (psg, .inl (D.2.1, 10, .inl (nA SI))), (ptw, .inl (D.2.1, 100, .inl (nA TW))), (pdb, .inl (D.2.1, 1024, .inl (nA (filN (dblF SI TW) DB (m + 1)))))] _ _ := hW.row 3 rfl (fun j hj => congrArg (nI) (e_7 j hj)) rfl
              exact ihL9_1 (m + 1) (by first | assumption | omega | (simp [*]; done)) (by first | assumption | omega | (simp [*]; done)) (by omega) _ _ hW _ (lv_to (l := [(0, .ref pr), (1, .int (nI (m + 1)))]) (l2 := [(0, .ref pr), (1, .int (nI (m + 1)))]) (lv_sub hl [1, 0] rfl) (cE rfl (cE (congrArg (fun z => ((1, Value.int z) : Nat × Value)) (congrArg (fun z : Nat => nI z) e_6)) rfl)))
            · refine x_iload hx dX2_countDoubled_54 hl 4 rfl ?_
              refine x_iload_n hx dX2_countDoubled_56 hl 3 rfl ?_
              refine x_iload hx dX2_countDoubled_57 hl 5 rfl ?_
              refine x_ishr (v := nI ((m &&& (m - 1)) >>> h)) hx dX2_countDoubled_59 (nI_shr (by omega) (by omega)) ?_
              refine x_iconst (v := nI 1) hx dX2_countDoubled_60 (by decide) ?_
              refine x_iand (v := nI ((m &&& (m - 1)).testBit h).toNat) hx dX2_countDoubled_61 (nI_tb _ _) ?_
              refine x_aload_n hx dX2_countDoubled_62 hl 0 rfl ?_
              refine x_get2 hx hW.1 0 rfl 6 (Nat.le_of_ble_eq_true rfl) wf_RX2_32 rfl dX2_countDoubled_63 ?_
              refine x_iload_n hx dX2_countDoubled_66 hl 2 rfl ?_
              refine x_bipush (v := nI 10) hx dX2_countDoubled_67 (by decide) ?_
              refine x_imul (v := nI ((lowB m) * 10)) hx dX2_countDoubled_69 (pk_mul _ _) ?_
              refine x_iload hx dX2_countDoubled_70 hl 5 rfl ?_
              refine x_iadd (v := nI ((lowB m) * 10 + h)) hx dX2_countDoubled_72 (nI_add _ _) ?_
              have hj_73 : (lowB m) * 10 + h < 100 := by omega
              refine x_iald (v := nI (TW ((lowB m) * 10 + h))) hx hW.1 2 rfl hj_73 (by decide) (rfl) dX2_countDoubled_73 ?_
              refine x_imul (v := nI ((((m &&& (m - 1)).testBit h).toNat) * (TW ((lowB m) * 10 + h)))) hx dX2_countDoubled_74 (pk_mul _ _) ?_
              refine x_iadd (v := nI (((filN (dblF SI TW) DB m) (m &&& (m - 1)) + SI (lowB m) + smTo (fun x => ((m &&& (m - 1)).testBit x).toNat * TW (lowB m * 10 + x)) (lowB m + 1) h) + ((((m &&& (m - 1)).testBit h).toNat) * (TW ((lowB m) * 10 + h))))) hx dX2_countDoubled_75 (nI_add _ _) ?_
              refine x_istore (lv' := [(4, .int (nI (((filN (dblF SI TW) DB m) (m &&& (m - 1)) + SI (lowB m) + smTo (fun x => ((m &&& (m - 1)).testBit x).toNat * TW (lowB m * 10 + x)) (lowB m + 1) h) + ((((m &&& (m - 1)).testBit h).toNat) * (TW ((lowB m) * 10 + h)))))), (0, .ref pr), (1, .int (nI m)), (2, .int (nI (lowB m))), (3, .int (nI (m &&& (m - 1)))), (5, .int (nI h))]) hx dX2_countDoubled_76 hl (Nat.le_of_ble_eq_true rfl) rfl (fun ls hl => ?_)
              refine x_iinc (v := nI (h + 1)) (lv' := [(5, .int (nI (h + 1))), (4, .int (nI (((filN (dblF SI TW) DB m) (m &&& (m - 1)) + SI (lowB m) + smTo (fun x => ((m &&& (m - 1)).testBit x).toNat * TW (lowB m * 10 + x)) (lowB m + 1) h) + ((((m &&& (m - 1)).testBit h).toNat) * (TW ((lowB m) * 10 + h)))))), (0, .ref pr), (1, .int (nI m)), (2, .int (nI (lowB m))), (3, .int (nI (m &&& (m - 1))))]) hx dX2_countDoubled_78 hl 5 rfl (nI_addc h 1) (Nat.le_of_ble_eq_true rfl) rfl (fun ls hl => ?_)
              refine x_goto (tgt := 47) hx dX2_countDoubled_81 (by decide) ?_
              have e_8 : (((filN (dblF SI TW) DB m) (m &&& (m - 1)) + SI (lowB m) + smTo (fun x => ((m &&& (m - 1)).testBit x).toNat * TW (lowB m * 10 + x)) (lowB m + 1) h) + ((((m &&& (m - 1)).testBit h).toNat) * (TW ((lowB m) * 10 + h))) : Nat) = (filN (dblF SI TW) DB m) (m &&& (m - 1)) + SI (lowB m) + smTo (fun x => ((m &&& (m - 1)).testBit x).toNat * TW (lowB m * 10 + x)) (lowB m + 1) (h + 1) := by
                first | (simp [smTo_0]; done) | (rw [smTo_s _ (by omega)]; simp [Nat.add_assoc]; done)
              have e_9 : (h + 1 : Nat) = (h + 1) := by
                first | rfl | omega | (simp [*]; done) | (simp [*]; omega)
              exact ihL47_4 (h + 1) (by first | assumption | omega | (simp [*]; done)) (by first | assumption | omega | (simp [*]; done)) (by omega) _ _ hW _ (lv_to (l := [(0, .ref pr), (1, .int (nI m)), (2, .int (nI (lowB m))), (3, .int (nI (m &&& (m - 1)))), (4, .int (nI (((filN (dblF SI TW) DB m) (m &&& (m - 1)) + SI (lowB m) + smTo (fun x => ((m &&& (m - 1)).testBit x).toNat * TW (lowB m * 10 + x)) (lowB m + 1) h) + ((((m &&& (m - 1)).testBit h).toNat) * (TW ((lowB m) * 10 + h)))))), (5, .int (nI (h + 1)))]) (l2 := [(0, .ref pr), (1, .int (nI m)), (2, .int (nI (lowB m))), (3, .int (nI (m &&& (m - 1)))), (4, .int (nI ((filN (dblF SI TW) DB m) (m &&& (m - 1)) + SI (lowB m) + smTo (fun x => ((m &&& (m - 1)).testBit x).toNat * TW (lowB m * 10 + x)) (lowB m + 1) (h + 1)))), (5, .int (nI (h + 1)))]) (lv_sub hl [2, 3, 4, 5, 1, 0] rfl) (cE rfl (cE rfl (cE rfl (cE rfl (cE (congrArg (fun z => ((4, Value.int z) : Nat × Value)) (congrArg (fun z : Nat => nI z) e_8)) (cE (congrArg (fun z => ((5, Value.int z) : Nat × Value)) (congrArg (fun z : Nat => nI z) e_9)) rfl)))))))
        have e_10 : (((filN (dblF SI TW) DB m) (m &&& (m - 1))) + (SI (lowB m)) : Nat) = (filN (dblF SI TW) DB m) (m &&& (m - 1)) + SI (lowB m) + smTo (fun x => ((m &&& (m - 1)).testBit x).toNat * TW (lowB m * 10 + x)) (lowB m + 1) (lowB m + 1) := by
          first | (simp [smTo_0]; done) | (rw [smTo_s _ (by omega)]; simp [Nat.add_assoc]; done)
        have e_11 : (lowB m + 1 : Nat) = (lowB m + 1) := by
          first | rfl | omega | (simp [*]; done) | (simp [*]; omega)
        exact L47_4 (10 - (lowB m + 1) + 1) (lowB m + 1) (by first | assumption | omega | (simp [*]; done)) (by first | assumption | omega | (simp [*]; done)) (Nat.lt_succ_self _) _ _ hW _ (lv_to (l := [(0, .ref pr), (1, .int (nI m)), (2, .int (nI (lowB m))), (3, .int (nI (m &&& (m - 1)))), (4, .int (nI (((filN (dblF SI TW) DB m) (m &&& (m - 1))) + (SI (lowB m))))), (5, .int (nI (lowB m + 1)))]) (l2 := [(0, .ref pr), (1, .int (nI m)), (2, .int (nI (lowB m))), (3, .int (nI (m &&& (m - 1)))), (4, .int (nI ((filN (dblF SI TW) DB m) (m &&& (m - 1)) + SI (lowB m) + smTo (fun x => ((m &&& (m - 1)).testBit x).toNat * TW (lowB m * 10 + x)) (lowB m + 1) (lowB m + 1)))), (5, .int (nI (lowB m + 1)))]) (lv_sub hl [4, 5, 3, 2, 1, 0] rfl) (cE rfl (cE rfl (cE rfl (cE rfl (cE (congrArg (fun z => ((4, Value.int z) : Nat × Value)) (congrArg (fun z : Nat => nI z) e_10)) (cE (congrArg (fun z => ((5, Value.int z) : Nat × Value)) (congrArg (fun z : Nat => nI z) e_11)) rfl)))))))
  have e_12 : ∀ k, k < 1024 → (va_up DB 0 0) k = (filN (dblF SI TW) DB 1) k := by
    intro k hk
    first | (by_cases h0 : k = 0 <;> simp [va_up, filN, dblF_0, h0]; done) | exact filN_up (by rw [← dblF_s SI TW (by assumption) (by omega), filN_in hlb3]; congr 2; omega) k
  have hW : Wd X D A [(pr, .inr (2, [.ref pwy, .ref pfp, .ref pmd, .ref pik, .int (nI ic.toNat), .ref psg, .ref ptw, .ref pdb, .ref pad, .ref pal, .ref pah, .ref pst, .int (nI sn)])), (psg, .inl (D.2.1, 10, .inl (nA SI))), (ptw, .inl (D.2.1, 100, .inl (nA TW))), (pdb, .inl (D.2.1, 1024, .inl (nA (filN (dblF SI TW) DB 1))))] _ _ := hW.row 3 rfl (fun j hj => congrArg (nI) (e_12 j hj)) rfl
  exact L9_1 (1024 - 1 + 1) 1 (by first | assumption | omega | (simp [*]; done)) (by first | assumption | omega | (simp [*]; done)) (Nat.lt_succ_self _) _ _ hW _ (lv_sub hl [1, 0] rfl)
set_option maxHeartbeats 4000000 in
set_option maxRecDepth 100000 in
theorem c_X2_listSets (l : Launch) (D : KD) (pr : Nat) (pwy : Nat) (pfp : Nat) (pmd : Nat) (pik : Nat) (psg : Nat) (ptw : Nat) (pdb : Nat) (pad : Nat) (pal : Nat) (pah : Nat) (pst : Nat) (ic : Bool) (sn : Nat) (ST : Nat → Nat) (tb : Nat) (thd : Bool) (tlo : Nat) (te : Nat) (thn : Bool) (tcu : Nat) (tsc : Nat) (tfg : Nat) (ttv : Nat) (tpr : Nat) (tTV : Nat → Nat) (n : Nat) (htTV : ∀ k, k < 10 → tTV k < 10) (hn : n < 7) : cV l yX2_listSets cX2_listSets 6 rm_X2_listSets D [(pr, .inr (2, [.ref pwy, .ref pfp, .ref pmd, .ref pik, .int (nI ic.toNat), .ref psg, .ref ptw, .ref pdb, .ref pad, .ref pal, .ref pah, .ref pst, .int (nI sn)])), (pst, .inl (D.2.1, 252, .inl (nA ST))), (tb, .inr (0, [.int (nI thd.toNat), .int (nI tlo), .int (iI ((te : Int) - 1)), .int (nI thn.toNat), .int (nI tcu), .ref tsc, .ref tfg, .ref ttv, .ref tpr])), (ttv, .inl (D.2.1, 10, .inl (nA tTV)))] [.ref pr, .ref tb, .int (nI n)] [(pr, .inr (2, [.ref pwy, .ref pfp, .ref pmd, .ref pik, .int (nI ic.toNat), .ref psg, .ref ptw, .ref pdb, .ref pad, .ref pal, .ref pah, .ref pst, .int (nI (cntN (isSet tTV n) 1024))])), (pst, .inl (D.2.1, 252, .inl (nA (setsUp (isSet tTV n) ST 1024)))), (tb, .inr (0, [.int (nI thd.toNat), .int (nI tlo), .int (iI ((te : Int) - 1)), .int (nI thn.toNat), .int (nI tcu), .ref tsc, .ref tfg, .ref ttv, .ref tpr])), (ttv, .inl (D.2.1, 10, .inl (nA tTV)))] := by
  refine cV.mk (by decide) (Nat.le_of_ble_eq_true rfl) ?_
  intro X A hx hL hA hW hret ls hl
  subst hL
  have hl : lv_has ls 6 [(0, .ref pr), (1, .ref tb), (2, .int (nI n))] := hl
  refine x_iconst (v := nI 0) hx dX2_listSets_0 (by decide) ?_
  refine x_istore_n (lv' := [(3, .int (nI 0)), (0, .ref pr), (1, .ref tb), (2, .int (nI n))]) hx dX2_listSets_1 hl (Nat.le_of_ble_eq_true rfl) rfl (fun ls hl => ?_)
  refine x_iconst (v := nI 0) hx dX2_listSets_2 (by decide) ?_
  refine x_istore (lv' := [(4, .int (nI 0)), (3, .int (nI 0)), (0, .ref pr), (1, .ref tb), (2, .int (nI n))]) hx dX2_listSets_3 hl (Nat.le_of_ble_eq_true rfl) rfl (fun ls hl => ?_)
  have L5_1 : ∀ (L5_1n : Nat) (j : Nat), (j ≤ 10) → 10 - j < L5_1n → ∀ (H : Heap) (locs : List Loc), Wd X D A [(pr, .inr (2, [.ref pwy, .ref pfp, .ref pmd, .ref pik, .int (nI ic.toNat), .ref psg, .ref ptw, .ref pdb, .ref pad, .ref pal, .ref pah, .ref pst, .int (nI sn)])), (pst, .inl (D.2.1, 252, .inl (nA ST))), (tb, .inr (0, [.int (nI thd.toNat), .int (nI tlo), .int (iI ((te : Int) - 1)), .int (nI thn.toNat), .int (nI tcu), .ref tsc, .ref tfg, .ref ttv, .ref tpr])), (ttv, .inl (D.2.1, 10, .inl (nA tTV)))] H locs → ∀ ls : Array Slot, lv_has ls 6 [(0, .ref pr), (1, .ref tb), (2, .int (nI n)), (3, .int (nI (allF tTV j))), (4, .int (nI j))] → Wx X 0 0 H locs 5 ls [] := by
    intro L5_1n
    induction L5_1n with
    | zero =>
      intro j h1 hm
      exact absurd hm (Nat.not_lt_zero _)
    | succ L5_1n ihL5_1 =>
      intro j h1 hm H locs hW ls hl
      have hal := allF_lt (TV := tTV) j h1
      refine x_iload hx dX2_listSets_5 hl 4 rfl ?_
      refine x_bipush (v := nI 10) hx dX2_listSets_7 (by decide) ?_
      refine x_icmp_ge_N (a := j) (b := 10) (tgt := 29) hx dX2_listSets_9 (by decide) (by omega) (by omega) (fun h_2 => ?_) (fun h_2 => ?_)
      · obtain rfl : j = 10 := by omega
        refine x_iload_n hx dX2_listSets_29 hl 2 rfl ?_
        refine x_iload_n hx dX2_listSets_30 hl 3 rfl ?_
        refine x_callRS (As := [.int (nI (allF tTV 10))]) (rest := [.int (nI n)]) hx yv_J6_bitCount_0f7a4 (c_J6_bitCount_0f7a4 _ D (nI (allF tTV 10)) ) wm_RX2_108 hW.1 [] rfl ⟨rfl, rfl⟩ ⟨Nat.le_of_ble_eq_true rfl, Nat.le_of_ble_eq_true rfl⟩ ⟨Nat.zero_le _, Nat.zero_le _⟩ hl rfl rfl (Nat.le_of_ble_eq_true rfl) dX2_listSets_31 ?_
        refine x_top (u := nI (popc (allF tTV 10))) (bitC_p _ hal) ?_
        have hpl := popc_le (allF tTV 10)
        refine x_mmin (v := nI (min n (popc (allF tTV 10)))) hx wm_RX2_78 (Nat.le_of_ble_eq_true rfl) (Nat.le_of_ble_eq_true rfl) ⟨Nat.zero_le _, Nat.zero_le _⟩ hl (nI_min (by omega) (by omega)) dX2_listSets_34 ?_
        refine x_istore (lv' := [(4, .int (nI (min n (popc (allF tTV 10))))), (0, .ref pr), (1, .ref tb), (2, .int (nI n)), (3, .int (nI (allF tTV 10)))]) hx dX2_listSets_37 hl (Nat.le_of_ble_eq_true rfl) rfl (fun ls hl => ?_)
        have hpl9 : min n (popc (allF tTV 10)) < 11 := by omega
        refine x_aload_n hx dX2_listSets_39 hl 1 rfl ?_
        refine x_iconst (v := nI 0) hx dX2_listSets_40 (by decide) ?_
        refine x_put2 hx hW 0 rfl 12 (Nat.le_of_ble_eq_true rfl) wf_RX2_50 rfl rfl rfl (Nat.le_of_ble_eq_true rfl) dX2_listSets_41 [(pr, .inr (2, [.ref pwy, .ref pfp, .ref pmd, .ref pik, .int (nI ic.toNat), .ref psg, .ref ptw, .ref pdb, .ref pad, .ref pal, .ref pah, .ref pst, .int (nI 0)])), (pst, .inl (D.2.1, 252, .inl (nA ST))), (tb, .inr (0, [.int (nI thd.toNat), .int (nI tlo), .int (iI ((te : Int) - 1)), .int (nI thn.toNat), .int (nI tcu), .ref tsc, .ref tfg, .ref ttv, .ref tpr])), (ttv, .inl (D.2.1, 10, .inl (nA tTV)))] rfl (fun H locs hW => ?_)
        refine x_iconst (v := nI 0) hx dX2_listSets_44 (by decide) ?_
        refine x_istore (lv' := [(5, .int (nI 0)), (4, .int (nI (min n (popc (allF tTV 10))))), (0, .ref pr), (1, .ref tb), (2, .int (nI n)), (3, .int (nI (allF tTV 10)))]) hx dX2_listSets_45 hl (Nat.le_of_ble_eq_true rfl) rfl (fun ls hl => ?_)
        have L47_3 : ∀ (L47_3n : Nat) (m : Nat), (m ≤ 1024) → 1024 - m < L47_3n → ∀ (H : Heap) (locs : List Loc), Wd X D A [(pr, .inr (2, [.ref pwy, .ref pfp, .ref pmd, .ref pik, .int (nI ic.toNat), .ref psg, .ref ptw, .ref pdb, .ref pad, .ref pal, .ref pah, .ref pst, .int (nI (cntN (isSet tTV n) m))])), (pst, .inl (D.2.1, 252, .inl (nA (setsUp (isSet tTV n) ST m)))), (tb, .inr (0, [.int (nI thd.toNat), .int (nI tlo), .int (iI ((te : Int) - 1)), .int (nI thn.toNat), .int (nI tcu), .ref tsc, .ref tfg, .ref ttv, .ref tpr])), (ttv, .inl (D.2.1, 10, .inl (nA tTV)))] H locs → ∀ ls : Array Slot, lv_has ls 6 [(0, .ref pr), (1, .ref tb), (2, .int (nI n)), (3, .int (nI (allF tTV 10))), (4, .int (nI (min n (popc (allF tTV 10))))), (5, .int (nI m))] → Wx X 0 0 H locs 47 ls [] := by
          intro L47_3n
          induction L47_3n with
          | zero =>
            intro m h3 hm
            exact absurd hm (Nat.not_lt_zero _)
          | succ L47_3n ihL47_3 =>
            intro m h3 hm H locs hW ls hl
            have hc9 := isSet_le tTV n h3
            refine x_iload hx dX2_listSets_47 hl 5 rfl ?_
            refine x_sipush (v := nI 1024) hx dX2_listSets_49 (by decide) ?_
            refine x_icmp_ge_N (a := m) (b := 1024) (tgt := 111) hx dX2_listSets_52 (by decide) (by omega) (by omega) (fun h_4 => ?_) (fun h_4 => ?_)
            · have hfull := sets_end (p := isSet tTV n) (f := ST) (show m ≤ 1024 by omega) (by rw [show m = 1024 by omega]; exact Nat.le_refl _)
              have e_5 : ∀ k, k < 252 → (setsUp (isSet tTV n) ST m) k = (setsUp (isSet tTV n) ST 1024) k := by
                intro k hk
                rw [hfull.2]
              have hW : Wd X D A [(pr, .inr (2, [.ref pwy, .ref pfp, .ref pmd, .ref pik, .int (nI ic.toNat), .ref psg, .ref ptw, .ref pdb, .ref pad, .ref pal, .ref pah, .ref pst, .int (nI (cntN (isSet tTV n) m))])), (pst, .inl (D.2.1, 252, .inl (nA (setsUp (isSet tTV n) ST 1024)))), (tb, .inr (0, [.int (nI thd.toNat), .int (nI tlo), .int (iI ((te : Int) - 1)), .int (nI thn.toNat), .int (nI tcu), .ref tsc, .ref tfg, .ref ttv, .ref tpr])), (ttv, .inl (D.2.1, 10, .inl (nA tTV)))] _ _ := hW.row 1 rfl (fun j hj => congrArg (nI) (e_5 j hj)) rfl
              have e_6 : (cntN (isSet tTV n) m : Nat) = cntN (isSet tTV n) 1024 := by
                exact hfull.1
              exact hret _ _ _ _ dX2_listSets_111 (hW.conv [0, 1, 2, 3] (w1 := [(pr, .inr (2, [.ref pwy, .ref pfp, .ref pmd, .ref pik, .int (nI ic.toNat), .ref psg, .ref ptw, .ref pdb, .ref pad, .ref pal, .ref pah, .ref pst, .int (nI (cntN (isSet tTV n) m))])), (pst, .inl (D.2.1, 252, .inl (nA (setsUp (isSet tTV n) ST 1024)))), (tb, .inr (0, [.int (nI thd.toNat), .int (nI tlo), .int (iI ((te : Int) - 1)), .int (nI thn.toNat), .int (nI tcu), .ref tsc, .ref tfg, .ref ttv, .ref tpr])), (ttv, .inl (D.2.1, 10, .inl (nA tTV)))]) (w2 := [(pr, .inr (2, [.ref pwy, .ref pfp, .ref pmd, .ref pik, .int (nI ic.toNat), .ref psg, .ref ptw, .ref pdb, .ref pad, .ref pal, .ref pah, .ref pst, .int (nI (cntN (isSet tTV n) 1024))])), (pst, .inl (D.2.1, 252, .inl (nA (setsUp (isSet tTV n) ST 1024)))), (tb, .inr (0, [.int (nI thd.toNat), .int (nI tlo), .int (iI ((te : Int) - 1)), .int (nI thn.toNat), .int (nI tcu), .ref tsc, .ref tfg, .ref ttv, .ref tpr])), (ttv, .inl (D.2.1, 10, .inl (nA tTV)))]) rfl rfl (cE (congrArg (fun z => ((pr, .inr (2, z)) : Nat × va_E)) (cE rfl (cE rfl (cE rfl (cE rfl (cE rfl (cE rfl (cE rfl (cE rfl (cE rfl (cE rfl (cE rfl (cE rfl (cE (congrArg Value.int (congrArg (fun z : Nat => nI z) e_6)) rfl)))))))))))))) (cE rfl (cE rfl (cE rfl rfl)))))
            · refine x_aload_n hx dX2_listSets_55 hl 0 rfl ?_
              refine x_get2 hx hW.1 0 rfl 12 (Nat.le_of_ble_eq_true rfl) wf_RX2_50 rfl dX2_listSets_56 ?_
              refine x_sipush (v := nI 252) hx dX2_listSets_59 (by decide) ?_
              refine x_icmp_ge_N (a := (cntN (isSet tTV n) m)) (b := 252) (tgt := 111) hx dX2_listSets_62 (by decide) (by omega) (by omega) (fun h_7 => ?_) (fun h_7 => ?_)
              · have hfull := sets_end (p := isSet tTV n) (f := ST) (show m ≤ 1024 by omega) (Nat.le_trans (isSet_cnt tTV n) (by assumption))
                have e_8 : ∀ k, k < 252 → (setsUp (isSet tTV n) ST m) k = (setsUp (isSet tTV n) ST 1024) k := by
                  intro k hk
                  rw [hfull.2]
                have hW : Wd X D A [(pr, .inr (2, [.ref pwy, .ref pfp, .ref pmd, .ref pik, .int (nI ic.toNat), .ref psg, .ref ptw, .ref pdb, .ref pad, .ref pal, .ref pah, .ref pst, .int (nI (cntN (isSet tTV n) m))])), (pst, .inl (D.2.1, 252, .inl (nA (setsUp (isSet tTV n) ST 1024)))), (tb, .inr (0, [.int (nI thd.toNat), .int (nI tlo), .int (iI ((te : Int) - 1)), .int (nI thn.toNat), .int (nI tcu), .ref tsc, .ref tfg, .ref ttv, .ref tpr])), (ttv, .inl (D.2.1, 10, .inl (nA tTV)))] _ _ := hW.row 1 rfl (fun j hj => congrArg (nI) (e_8 j hj)) rfl
                have e_9 : (cntN (isSet tTV n) m : Nat) = cntN (isSet tTV n) 1024 := by
                  exact hfull.1
                exact hret _ _ _ _ dX2_listSets_111 (hW.conv [0, 1, 2, 3] (w1 := [(pr, .inr (2, [.ref pwy, .ref pfp, .ref pmd, .ref pik, .int (nI ic.toNat), .ref psg, .ref ptw, .ref pdb, .ref pad, .ref pal, .ref pah, .ref pst, .int (nI (cntN (isSet tTV n) m))])), (pst, .inl (D.2.1, 252, .inl (nA (setsUp (isSet tTV n) ST 1024)))), (tb, .inr (0, [.int (nI thd.toNat), .int (nI tlo), .int (iI ((te : Int) - 1)), .int (nI thn.toNat), .int (nI tcu), .ref tsc, .ref tfg, .ref ttv, .ref tpr])), (ttv, .inl (D.2.1, 10, .inl (nA tTV)))]) (w2 := [(pr, .inr (2, [.ref pwy, .ref pfp, .ref pmd, .ref pik, .int (nI ic.toNat), .ref psg, .ref ptw, .ref pdb, .ref pad, .ref pal, .ref pah, .ref pst, .int (nI (cntN (isSet tTV n) 1024))])), (pst, .inl (D.2.1, 252, .inl (nA (setsUp (isSet tTV n) ST 1024)))), (tb, .inr (0, [.int (nI thd.toNat), .int (nI tlo), .int (iI ((te : Int) - 1)), .int (nI thn.toNat), .int (nI tcu), .ref tsc, .ref tfg, .ref ttv, .ref tpr])), (ttv, .inl (D.2.1, 10, .inl (nA tTV)))]) rfl rfl (cE (congrArg (fun z => ((pr, .inr (2, z)) : Nat × va_E)) (cE rfl (cE rfl (cE rfl (cE rfl (cE rfl (cE rfl (cE rfl (cE rfl (cE rfl (cE rfl (cE rfl (cE rfl (cE (congrArg Value.int (congrArg (fun z : Nat => nI z) e_9)) rfl)))))))))))))) (cE rfl (cE rfl (cE rfl rfl)))))
              · refine x_iload hx dX2_listSets_65 hl 5 rfl ?_
                refine x_iload_n hx dX2_listSets_67 hl 3 rfl ?_
                refine x_iconst (v := iI (-1)) hx dX2_listSets_68 (by decide) ?_
                refine x_ixor (v := (nI (allF tTV 10) ^^^ iI (-1))) hx dX2_listSets_69 (rfl) ?_
                refine x_iand (v := nI (bclr m (allF tTV 10))) hx dX2_listSets_70 (nI_bclr _ _) ?_
                have hbc : bclr m (allF tTV 10) < 1024 := by
                  unfold bclr
                  exact Nat.xor_lt_two_pow (n := 10) (by omega) (Nat.and_lt_two_pow m (n := 10) hal)
                refine x_if_ne_N (a := (bclr m (allF tTV 10))) (tgt := 105) hx dX2_listSets_71 (by decide) (by omega) (fun h_10 => ?_) (fun h_10 => ?_)
                · refine x_iinc (v := nI (m + 1)) (lv' := [(5, .int (nI (m + 1))), (0, .ref pr), (1, .ref tb), (2, .int (nI n)), (3, .int (nI (allF tTV 10))), (4, .int (nI (min n (popc (allF tTV 10)))))]) hx dX2_listSets_105 hl 5 rfl (nI_addc m 1) (Nat.le_of_ble_eq_true rfl) rfl (fun ls hl => ?_)
                  refine x_goto (tgt := 47) hx dX2_listSets_108 (by decide) ?_
                  have e_11 : (m + 1 : Nat) = (m + 1) := by
                    first | rfl | omega | (simp [*]; done) | (simp [*]; omega)
                  have e_12 : ∀ k, k < 252 → (setsUp (isSet tTV n) ST m) k = (setsUp (isSet tTV n) ST (m + 1)) k := by
                    intro k hk
                    first | rfl | (simp [setsUp, isSet, *]; done)
                  have hW : Wd X D A [(pr, .inr (2, [.ref pwy, .ref pfp, .ref pmd, .ref pik, .int (nI ic.toNat), .ref psg, .ref ptw, .ref pdb, .ref pad, .ref pal, .ref pah, .ref pst, .int (nI (cntN (isSet tTV n) m))])), (pst, .inl (D.2.1, 252, .inl (nA (setsUp (isSet tTV n) ST (m + 1))))), (tb, .inr (0, [.int (nI thd.toNat), .int (nI tlo), .int (iI ((te : Int) - 1)), .int (nI thn.toNat), .int (nI tcu), .ref tsc, .ref tfg, .ref ttv, .ref tpr])), (ttv, .inl (D.2.1, 10, .inl (nA tTV)))] _ _ := hW.row 1 rfl (fun j hj => congrArg (nI) (e_12 j hj)) rfl
                  have e_13 : (cntN (isSet tTV n) m : Nat) = cntN (isSet tTV n) (m + 1) := by
                    first | rfl | (simp [cntN, isSet, *]; done)
                  exact ihL47_3 (m + 1) (by first | assumption | omega | (simp [*]; done)) (by omega) _ _ (hW.conv [0, 1, 2, 3] (w1 := [(pr, .inr (2, [.ref pwy, .ref pfp, .ref pmd, .ref pik, .int (nI ic.toNat), .ref psg, .ref ptw, .ref pdb, .ref pad, .ref pal, .ref pah, .ref pst, .int (nI (cntN (isSet tTV n) m))])), (pst, .inl (D.2.1, 252, .inl (nA (setsUp (isSet tTV n) ST (m + 1))))), (tb, .inr (0, [.int (nI thd.toNat), .int (nI tlo), .int (iI ((te : Int) - 1)), .int (nI thn.toNat), .int (nI tcu), .ref tsc, .ref tfg, .ref ttv, .ref tpr])), (ttv, .inl (D.2.1, 10, .inl (nA tTV)))]) (w2 := [(pr, .inr (2, [.ref pwy, .ref pfp, .ref pmd, .ref pik, .int (nI ic.toNat), .ref psg, .ref ptw, .ref pdb, .ref pad, .ref pal, .ref pah, .ref pst, .int (nI (cntN (isSet tTV n) (m + 1)))])), (pst, .inl (D.2.1, 252, .inl (nA (setsUp (isSet tTV n) ST (m + 1))))), (tb, .inr (0, [.int (nI thd.toNat), .int (nI tlo), .int (iI ((te : Int) - 1)), .int (nI thn.toNat), .int (nI tcu), .ref tsc, .ref tfg, .ref ttv, .ref tpr])), (ttv, .inl (D.2.1, 10, .inl (nA tTV)))]) rfl rfl (cE (congrArg (fun z => ((pr, .inr (2, z)) : Nat × va_E)) (cE rfl (cE rfl (cE rfl (cE rfl (cE rfl (cE rfl (cE rfl (cE rfl (cE rfl (cE rfl (cE rfl (cE rfl (cE (congrArg Value.int (congrArg (fun z : Nat => nI z) e_13)) rfl)))))))))))))) (cE rfl (cE rfl (cE rfl rfl))))) _ (lv_to (l := [(0, .ref pr), (1, .ref tb), (2, .int (nI n)), (3, .int (nI (allF tTV 10))), (4, .int (nI (min n (popc (allF tTV 10))))), (5, .int (nI (m + 1)))]) (l2 := [(0, .ref pr), (1, .ref tb), (2, .int (nI n)), (3, .int (nI (allF tTV 10))), (4, .int (nI (min n (popc (allF tTV 10))))), (5, .int (nI (m + 1)))]) (lv_sub hl [1, 2, 3, 4, 5, 0] rfl) (cE rfl (cE rfl (cE rfl (cE rfl (cE rfl (cE (congrArg (fun z => ((5, Value.int z) : Nat × Value)) (congrArg (fun z : Nat => nI z) e_11)) rfl)))))))
                · refine x_iload hx dX2_listSets_74 hl 5 rfl ?_
                  refine x_callRS (As := [.int (nI m)]) (rest := []) hx yv_J6_bitCount_0f7a4 (c_J6_bitCount_0f7a4 _ D (nI m) ) wm_RX2_108 hW.1 [] rfl ⟨rfl, rfl⟩ ⟨Nat.le_of_ble_eq_true rfl, Nat.le_of_ble_eq_true rfl⟩ ⟨Nat.zero_le _, Nat.zero_le _⟩ hl rfl rfl (Nat.le_of_ble_eq_true rfl) dX2_listSets_76 ?_
                  refine x_top (u := nI (popc m)) (bitC_p _ (by omega)) ?_
                  have hpm := popc_le m
                  refine x_iload hx dX2_listSets_79 hl 4 rfl ?_
                  refine x_icmp_ne_N (a := (popc m)) (b := (min n (popc (allF tTV 10)))) (tgt := 105) hx dX2_listSets_81 (by decide) (by omega) (by omega) (fun h_14 => ?_) (fun h_14 => ?_)
                  · refine x_iinc (v := nI (m + 1)) (lv' := [(5, .int (nI (m + 1))), (0, .ref pr), (1, .ref tb), (2, .int (nI n)), (3, .int (nI (allF tTV 10))), (4, .int (nI (min n (popc (allF tTV 10)))))]) hx dX2_listSets_105 hl 5 rfl (nI_addc m 1) (Nat.le_of_ble_eq_true rfl) rfl (fun ls hl => ?_)
                    refine x_goto (tgt := 47) hx dX2_listSets_108 (by decide) ?_
                    have e_15 : (m + 1 : Nat) = (m + 1) := by
                      first | rfl | omega | (simp [*]; done) | (simp [*]; omega)
                    have e_16 : ∀ k, k < 252 → (setsUp (isSet tTV n) ST m) k = (setsUp (isSet tTV n) ST (m + 1)) k := by
                      intro k hk
                      first | rfl | (simp [setsUp, isSet, *]; done)
                    have hW : Wd X D A [(pr, .inr (2, [.ref pwy, .ref pfp, .ref pmd, .ref pik, .int (nI ic.toNat), .ref psg, .ref ptw, .ref pdb, .ref pad, .ref pal, .ref pah, .ref pst, .int (nI (cntN (isSet tTV n) m))])), (pst, .inl (D.2.1, 252, .inl (nA (setsUp (isSet tTV n) ST (m + 1))))), (tb, .inr (0, [.int (nI thd.toNat), .int (nI tlo), .int (iI ((te : Int) - 1)), .int (nI thn.toNat), .int (nI tcu), .ref tsc, .ref tfg, .ref ttv, .ref tpr])), (ttv, .inl (D.2.1, 10, .inl (nA tTV)))] _ _ := hW.row 1 rfl (fun j hj => congrArg (nI) (e_16 j hj)) rfl
                    have e_17 : (cntN (isSet tTV n) m : Nat) = cntN (isSet tTV n) (m + 1) := by
                      first | rfl | (simp [cntN, isSet, *]; done)
                    exact ihL47_3 (m + 1) (by first | assumption | omega | (simp [*]; done)) (by omega) _ _ (hW.conv [0, 1, 2, 3] (w1 := [(pr, .inr (2, [.ref pwy, .ref pfp, .ref pmd, .ref pik, .int (nI ic.toNat), .ref psg, .ref ptw, .ref pdb, .ref pad, .ref pal, .ref pah, .ref pst, .int (nI (cntN (isSet tTV n) m))])), (pst, .inl (D.2.1, 252, .inl (nA (setsUp (isSet tTV n) ST (m + 1))))), (tb, .inr (0, [.int (nI thd.toNat), .int (nI tlo), .int (iI ((te : Int) - 1)), .int (nI thn.toNat), .int (nI tcu), .ref tsc, .ref tfg, .ref ttv, .ref tpr])), (ttv, .inl (D.2.1, 10, .inl (nA tTV)))]) (w2 := [(pr, .inr (2, [.ref pwy, .ref pfp, .ref pmd, .ref pik, .int (nI ic.toNat), .ref psg, .ref ptw, .ref pdb, .ref pad, .ref pal, .ref pah, .ref pst, .int (nI (cntN (isSet tTV n) (m + 1)))])), (pst, .inl (D.2.1, 252, .inl (nA (setsUp (isSet tTV n) ST (m + 1))))), (tb, .inr (0, [.int (nI thd.toNat), .int (nI tlo), .int (iI ((te : Int) - 1)), .int (nI thn.toNat), .int (nI tcu), .ref tsc, .ref tfg, .ref ttv, .ref tpr])), (ttv, .inl (D.2.1, 10, .inl (nA tTV)))]) rfl rfl (cE (congrArg (fun z => ((pr, .inr (2, z)) : Nat × va_E)) (cE rfl (cE rfl (cE rfl (cE rfl (cE rfl (cE rfl (cE rfl (cE rfl (cE rfl (cE rfl (cE rfl (cE rfl (cE (congrArg Value.int (congrArg (fun z : Nat => nI z) e_17)) rfl)))))))))))))) (cE rfl (cE rfl (cE rfl rfl))))) _ (lv_to (l := [(0, .ref pr), (1, .ref tb), (2, .int (nI n)), (3, .int (nI (allF tTV 10))), (4, .int (nI (min n (popc (allF tTV 10))))), (5, .int (nI (m + 1)))]) (l2 := [(0, .ref pr), (1, .ref tb), (2, .int (nI n)), (3, .int (nI (allF tTV 10))), (4, .int (nI (min n (popc (allF tTV 10))))), (5, .int (nI (m + 1)))]) (lv_sub hl [1, 2, 3, 4, 5, 0] rfl) (cE rfl (cE rfl (cE rfl (cE rfl (cE rfl (cE (congrArg (fun z => ((5, Value.int z) : Nat × Value)) (congrArg (fun z : Nat => nI z) e_15)) rfl)))))))
                  · refine x_aload_n hx dX2_listSets_84 hl 0 rfl ?_
                    refine x_get2 hx hW.1 0 rfl 11 (Nat.le_of_ble_eq_true rfl) wf_RX2_47 rfl dX2_listSets_85 ?_
                    refine x_aload_n hx dX2_listSets_88 hl 0 rfl ?_
                    refine x_get2 hx hW.1 0 rfl 12 (Nat.le_of_ble_eq_true rfl) wf_RX2_50 rfl dX2_listSets_89 ?_
                    refine x_iload hx dX2_listSets_92 hl 5 rfl ?_
                    have hj_94 : cntN (isSet tTV n) m < 252 := by omega
                    refine x_iast hx hW 1 rfl hj_94 (by decide) (upd_nA _ _ _) dX2_listSets_94 [(pr, .inr (2, [.ref pwy, .ref pfp, .ref pmd, .ref pik, .int (nI ic.toNat), .ref psg, .ref ptw, .ref pdb, .ref pad, .ref pal, .ref pah, .ref pst, .int (nI (cntN (isSet tTV n) m))])), (pst, .inl (D.2.1, 252, .inl (nA (va_up (setsUp (isSet tTV n) ST m) (cntN (isSet tTV n) m) m)))), (tb, .inr (0, [.int (nI thd.toNat), .int (nI tlo), .int (iI ((te : Int) - 1)), .int (nI thn.toNat), .int (nI tcu), .ref tsc, .ref tfg, .ref ttv, .ref tpr])), (ttv, .inl (D.2.1, 10, .inl (nA tTV)))] rfl (fun H locs hW => ?_)
                    refine x_aload_n hx dX2_listSets_95 hl 0 rfl ?_
                    refine x_dup hx dX2_listSets_96 rfl ?_
                    refine x_get2 hx hW.1 0 rfl 12 (Nat.le_of_ble_eq_true rfl) wf_RX2_50 rfl dX2_listSets_97 ?_
                    refine x_iconst (v := nI 1) hx dX2_listSets_100 (by decide) ?_
                    refine x_iadd (v := nI (cntN (isSet tTV n) m + 1)) hx dX2_listSets_101 (nI_add _ _) ?_
                    refine x_put2 hx hW 0 rfl 12 (Nat.le_of_ble_eq_true rfl) wf_RX2_50 rfl rfl rfl (Nat.le_of_ble_eq_true rfl) dX2_listSets_102 [(pr, .inr (2, [.ref pwy, .ref pfp, .ref pmd, .ref pik, .int (nI ic.toNat), .ref psg, .ref ptw, .ref pdb, .ref pad, .ref pal, .ref pah, .ref pst, .int (nI (cntN (isSet tTV n) m + 1))])), (pst, .inl (D.2.1, 252, .inl (nA (va_up (setsUp (isSet tTV n) ST m) (cntN (isSet tTV n) m) m)))), (tb, .inr (0, [.int (nI thd.toNat), .int (nI tlo), .int (iI ((te : Int) - 1)), .int (nI thn.toNat), .int (nI tcu), .ref tsc, .ref tfg, .ref ttv, .ref tpr])), (ttv, .inl (D.2.1, 10, .inl (nA tTV)))] rfl (fun H locs hW => ?_)
                    refine x_iinc (v := nI (m + 1)) (lv' := [(5, .int (nI (m + 1))), (0, .ref pr), (1, .ref tb), (2, .int (nI n)), (3, .int (nI (allF tTV 10))), (4, .int (nI (min n (popc (allF tTV 10)))))]) hx dX2_listSets_105 hl 5 rfl (nI_addc m 1) (Nat.le_of_ble_eq_true rfl) rfl (fun ls hl => ?_)
                    refine x_goto (tgt := 47) hx dX2_listSets_108 (by decide) ?_
                    have e_18 : (m + 1 : Nat) = (m + 1) := by
                      first | rfl | omega | (simp [*]; done) | (simp [*]; omega)
                    have e_19 : ∀ k, k < 252 → (va_up (setsUp (isSet tTV n) ST m) (cntN (isSet tTV n) m) m) k = (setsUp (isSet tTV n) ST (m + 1)) k := by
                      intro k hk
                      first | rfl | (simp [setsUp, isSet, *]; done)
                    have hW : Wd X D A [(pr, .inr (2, [.ref pwy, .ref pfp, .ref pmd, .ref pik, .int (nI ic.toNat), .ref psg, .ref ptw, .ref pdb, .ref pad, .ref pal, .ref pah, .ref pst, .int (nI (cntN (isSet tTV n) m + 1))])), (pst, .inl (D.2.1, 252, .inl (nA (setsUp (isSet tTV n) ST (m + 1))))), (tb, .inr (0, [.int (nI thd.toNat), .int (nI tlo), .int (iI ((te : Int) - 1)), .int (nI thn.toNat), .int (nI tcu), .ref tsc, .ref tfg, .ref ttv, .ref tpr])), (ttv, .inl (D.2.1, 10, .inl (nA tTV)))] _ _ := hW.row 1 rfl (fun j hj => congrArg (nI) (e_19 j hj)) rfl
                    have e_20 : (cntN (isSet tTV n) m + 1 : Nat) = cntN (isSet tTV n) (m + 1) := by
                      first | rfl | (simp [cntN, isSet, *]; done)
                    exact ihL47_3 (m + 1) (by first | assumption | omega | (simp [*]; done)) (by omega) _ _ (hW.conv [0, 1, 2, 3] (w1 := [(pr, .inr (2, [.ref pwy, .ref pfp, .ref pmd, .ref pik, .int (nI ic.toNat), .ref psg, .ref ptw, .ref pdb, .ref pad, .ref pal, .ref pah, .ref pst, .int (nI (cntN (isSet tTV n) m + 1))])), (pst, .inl (D.2.1, 252, .inl (nA (setsUp (isSet tTV n) ST (m + 1))))), (tb, .inr (0, [.int (nI thd.toNat), .int (nI tlo), .int (iI ((te : Int) - 1)), .int (nI thn.toNat), .int (nI tcu), .ref tsc, .ref tfg, .ref ttv, .ref tpr])), (ttv, .inl (D.2.1, 10, .inl (nA tTV)))]) (w2 := [(pr, .inr (2, [.ref pwy, .ref pfp, .ref pmd, .ref pik, .int (nI ic.toNat), .ref psg, .ref ptw, .ref pdb, .ref pad, .ref pal, .ref pah, .ref pst, .int (nI (cntN (isSet tTV n) (m + 1)))])), (pst, .inl (D.2.1, 252, .inl (nA (setsUp (isSet tTV n) ST (m + 1))))), (tb, .inr (0, [.int (nI thd.toNat), .int (nI tlo), .int (iI ((te : Int) - 1)), .int (nI thn.toNat), .int (nI tcu), .ref tsc, .ref tfg, .ref ttv, .ref tpr])), (ttv, .inl (D.2.1, 10, .inl (nA tTV)))]) rfl rfl (cE (congrArg (fun z => ((pr, .inr (2, z)) : Nat × va_E)) (cE rfl (cE rfl (cE rfl (cE rfl (cE rfl (cE rfl (cE rfl (cE rfl (cE rfl (cE rfl (cE rfl (cE rfl (cE (congrArg Value.int (congrArg (fun z : Nat => nI z) e_20)) rfl)))))))))))))) (cE rfl (cE rfl (cE rfl rfl))))) _ (lv_to (l := [(0, .ref pr), (1, .ref tb), (2, .int (nI n)), (3, .int (nI (allF tTV 10))), (4, .int (nI (min n (popc (allF tTV 10))))), (5, .int (nI (m + 1)))]) (l2 := [(0, .ref pr), (1, .ref tb), (2, .int (nI n)), (3, .int (nI (allF tTV 10))), (4, .int (nI (min n (popc (allF tTV 10))))), (5, .int (nI (m + 1)))]) (lv_sub hl [1, 2, 3, 4, 5, 0] rfl) (cE rfl (cE rfl (cE rfl (cE rfl (cE rfl (cE (congrArg (fun z => ((5, Value.int z) : Nat × Value)) (congrArg (fun z : Nat => nI z) e_18)) rfl)))))))
        have e_21 : ∀ k, k < 252 → (ST) k = (setsUp (isSet tTV n) ST 0) k := by
          intro k hk
          first | rfl | (simp [setsUp, isSet, *]; done)
        have hW : Wd X D A [(pr, .inr (2, [.ref pwy, .ref pfp, .ref pmd, .ref pik, .int (nI ic.toNat), .ref psg, .ref ptw, .ref pdb, .ref pad, .ref pal, .ref pah, .ref pst, .int (nI 0)])), (pst, .inl (D.2.1, 252, .inl (nA (setsUp (isSet tTV n) ST 0)))), (tb, .inr (0, [.int (nI thd.toNat), .int (nI tlo), .int (iI ((te : Int) - 1)), .int (nI thn.toNat), .int (nI tcu), .ref tsc, .ref tfg, .ref ttv, .ref tpr])), (ttv, .inl (D.2.1, 10, .inl (nA tTV)))] _ _ := hW.row 1 rfl (fun j hj => congrArg (nI) (e_21 j hj)) rfl
        have e_22 : (0 : Nat) = cntN (isSet tTV n) 0 := by
          first | rfl | (simp [cntN, isSet, *]; done)
        exact L47_3 (1024 - 0 + 1) 0 (by first | assumption | omega | (simp [*]; done)) (Nat.lt_succ_self _) _ _ (hW.conv [0, 1, 2, 3] (w1 := [(pr, .inr (2, [.ref pwy, .ref pfp, .ref pmd, .ref pik, .int (nI ic.toNat), .ref psg, .ref ptw, .ref pdb, .ref pad, .ref pal, .ref pah, .ref pst, .int (nI 0)])), (pst, .inl (D.2.1, 252, .inl (nA (setsUp (isSet tTV n) ST 0)))), (tb, .inr (0, [.int (nI thd.toNat), .int (nI tlo), .int (iI ((te : Int) - 1)), .int (nI thn.toNat), .int (nI tcu), .ref tsc, .ref tfg, .ref ttv, .ref tpr])), (ttv, .inl (D.2.1, 10, .inl (nA tTV)))]) (w2 := [(pr, .inr (2, [.ref pwy, .ref pfp, .ref pmd, .ref pik, .int (nI ic.toNat), .ref psg, .ref ptw, .ref pdb, .ref pad, .ref pal, .ref pah, .ref pst, .int (nI (cntN (isSet tTV n) 0))])), (pst, .inl (D.2.1, 252, .inl (nA (setsUp (isSet tTV n) ST 0)))), (tb, .inr (0, [.int (nI thd.toNat), .int (nI tlo), .int (iI ((te : Int) - 1)), .int (nI thn.toNat), .int (nI tcu), .ref tsc, .ref tfg, .ref ttv, .ref tpr])), (ttv, .inl (D.2.1, 10, .inl (nA tTV)))]) rfl rfl (cE (congrArg (fun z => ((pr, .inr (2, z)) : Nat × va_E)) (cE rfl (cE rfl (cE rfl (cE rfl (cE rfl (cE rfl (cE rfl (cE rfl (cE rfl (cE rfl (cE rfl (cE rfl (cE (congrArg Value.int (congrArg (fun z : Nat => nI z) e_22)) rfl)))))))))))))) (cE rfl (cE rfl (cE rfl rfl))))) _ (lv_sub hl [2, 3, 4, 5, 1, 0] rfl)
      · refine x_iload_n hx dX2_listSets_12 hl 3 rfl ?_
        refine x_iconst (v := nI 1) hx dX2_listSets_13 (by decide) ?_
        refine x_aload_n hx dX2_listSets_14 hl 1 rfl ?_
        refine x_iload hx dX2_listSets_15 hl 4 rfl ?_
        refine x_callRS (As := [.ref tb, .int (nI j)]) (rest := [.int (nI 1), .int (nI (allF tTV j))]) hx yv_X2_lesser (c_X2_lesser _ D tb thd tlo te thn tcu tsc tfg ttv tpr tTV j (by first | assumption | omega | (simp [*]; done)) (by first | assumption | omega | (simp [*]; done))) wm_RX2_96 hW.1 [2, 3] rfl ⟨rfl, rfl⟩ ⟨Nat.le_of_ble_eq_true rfl, Nat.le_of_ble_eq_true rfl⟩ ⟨Nat.zero_le _, Nat.zero_le _⟩ hl rfl rfl (Nat.le_of_ble_eq_true rfl) dX2_listSets_17 ?_
        have hls := les_lt (TV := tTV) (show j < 10 by omega)
        refine x_ishl (v := nI (2 ^ (les tTV j))) hx dX2_listSets_20 (nI_shl1 (by omega)) ?_
        refine x_ior (v := nI ((allF tTV j) ||| (2 ^ (les tTV j)))) hx dX2_listSets_21 (nI_or _ _) ?_
        refine x_istore_n (lv' := [(3, .int (nI ((allF tTV j) ||| (2 ^ (les tTV j))))), (0, .ref pr), (1, .ref tb), (2, .int (nI n)), (4, .int (nI j))]) hx dX2_listSets_22 hl (Nat.le_of_ble_eq_true rfl) rfl (fun ls hl => ?_)
        refine x_iinc (v := nI (j + 1)) (lv' := [(4, .int (nI (j + 1))), (3, .int (nI ((allF tTV j) ||| (2 ^ (les tTV j))))), (0, .ref pr), (1, .ref tb), (2, .int (nI n))]) hx dX2_listSets_23 hl 4 rfl (nI_addc j 1) (Nat.le_of_ble_eq_true rfl) rfl (fun ls hl => ?_)
        refine x_goto (tgt := 5) hx dX2_listSets_26 (by decide) ?_
        have e_23 : ((allF tTV j) ||| (2 ^ (les tTV j)) : Nat) = allF tTV (j + 1) := by
          first | rfl | omega | (simp [*]; done) | (simp [*]; omega)
        have e_24 : (j + 1 : Nat) = (j + 1) := by
          first | rfl | omega | (simp [*]; done) | (simp [*]; omega)
        exact ihL5_1 (j + 1) (by first | assumption | omega | (simp [*]; done)) (by omega) _ _ hW _ (lv_to (l := [(0, .ref pr), (1, .ref tb), (2, .int (nI n)), (3, .int (nI ((allF tTV j) ||| (2 ^ (les tTV j))))), (4, .int (nI (j + 1)))]) (l2 := [(0, .ref pr), (1, .ref tb), (2, .int (nI n)), (3, .int (nI (allF tTV (j + 1)))), (4, .int (nI (j + 1)))]) (lv_sub hl [2, 3, 4, 1, 0] rfl) (cE rfl (cE rfl (cE rfl (cE (congrArg (fun z => ((3, Value.int z) : Nat × Value)) (congrArg (fun z : Nat => nI z) e_23)) (cE (congrArg (fun z => ((4, Value.int z) : Nat × Value)) (congrArg (fun z : Nat => nI z) e_24)) rfl))))))
  have e_25 : (0 : Nat) = allF tTV 0 := by
    first | rfl | omega | (simp [*]; done) | (simp [*]; omega)
  exact L5_1 (10 - 0 + 1) 0 (by first | assumption | omega | (simp [*]; done)) (Nat.lt_succ_self _) _ _ hW _ (lv_to (l := [(0, .ref pr), (1, .ref tb), (2, .int (nI n)), (3, .int (nI 0)), (4, .int (nI 0))]) (l2 := [(0, .ref pr), (1, .ref tb), (2, .int (nI n)), (3, .int (nI (allF tTV 0))), (4, .int (nI 0))]) (lv_sub hl [2, 3, 4, 1, 0] rfl) (cE rfl (cE rfl (cE rfl (cE (congrArg (fun z => ((3, Value.int z) : Nat × Value)) (congrArg (fun z : Nat => nI z) e_25)) (cE rfl rfl))))))
