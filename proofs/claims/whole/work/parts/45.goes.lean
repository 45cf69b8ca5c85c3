/-! all clauses: what the place of the last number was doesn't matter; each clause goes on -/
section NA
variable {LT : Nat → Nat} {len w : Nat} {fa : Int} {na nb tu pd lo e cu : Nat} {hn : Bool} {SC FG TV PR : Nat → Nat}
theorem dS2_na : dS2 LT len false (w, 0, fa, na) = dS2 LT len false (w, 0, fa, nb) := by rw [dS2, dS2, rw_0, rw_0, rnS_0, rnS_0]
theorem dL_na : dL LT len false (w, 0, fa, na) = dL LT len false (w, 0, fa, nb) := rfl
theorem dS3_na : dS3 LT len false (w, 0, fa, na) = dS3 LT len false (w, 0, fa, nb) := by rw [dS3, dS3, dS2_na (nb := nb)]
theorem dH_na : dH LT len false (w, 0, fa, na) = dH LT len false (w, 0, fa, nb) := by rw [dH, dH, dS2_na (nb := nb)]
theorem dS4_na : dS4 LT len false (w, 0, fa, na) = dS4 LT len false (w, 0, fa, nb) := by rw [dS4, dS4, dS3_na (nb := nb), dH_na (nb := nb), dL_na (nb := nb)]
theorem dZ_na : dZ LT len false (w, 0, fa, na) = dZ LT len false (w, 0, fa, nb) := by rw [dZ, dZ, dS4_na (nb := nb)]
theorem dS6_na : dS6 LT len false (w, 0, fa, na) = dS6 LT len false (w, 0, fa, nb) := by rw [dS6, dS6, dS4_na (nb := nb)]
theorem fDay_na : fDay LT len (w, 0, fa, na) tu pd false lo e hn cu SC FG TV PR = fDay LT len (w, 0, fa, nb) tu pd false lo e hn cu SC FG TV PR := by
  rw [fDay, fDay, dS6_na (nb := nb), dL_na (nb := nb), dH_na (nb := nb), dZ_na (nb := nb)]
theorem tS2_na (ht : tu < 4) : tS2 LT len tu (w, 0, fa, na) = tS2 LT len tu (w, 0, fa, nb) := by rw [tS2, tS2, tS1_y ht, tS1_y ht, rnS_0, rnS_0]
theorem tA_na (ht : tu < 4) : tA LT len tu (w, 0, fa, na) = tA LT len tu (w, 0, fa, nb) := by rw [tA, tA, tS1_y ht, tS1_y ht]; rfl
theorem tS3_na (ht : tu < 4) : tS3 LT len TV tu (w, 0, fa, na) = tS3 LT len TV tu (w, 0, fa, nb) := by rw [tS3, tS3, tA_na (nb := nb) ht, tS2_na (nb := nb) ht]
theorem tB_na (ht : tu < 4) : tB LT len TV tu (w, 0, fa, na) = tB LT len TV tu (w, 0, fa, nb) := by rw [tB, tB, tS3_na (nb := nb) ht]
theorem tS6_na (ht : tu < 4) : tS6 LT len TV tu (w, 0, fa, na) = tS6 LT len TV tu (w, 0, fa, nb) := by rw [tS6, tS6, tS5, tS5, tS4, tS4, tB_na (nb := nb) ht, tA_na (nb := nb) ht, tS3_na (nb := nb) ht]
theorem fTur_na (ht : tu < 4) {hd : Bool} : fTur LT len (w, 0, fa, na) tu pd hd lo e hn cu SC FG TV PR = fTur LT len (w, 0, fa, nb) tu pd hd lo e hn cu SC FG TV PR := by
  rw [fTur, fTur, tS6_na (nb := nb) ht, tA_na (nb := nb) ht, tB_na (nb := nb) ht]
theorem pS2_na : pS2 LT len (w, 0, fa, na) = pS2 LT len (w, 0, fa, nb) := by rw [pS2, pS2, rw_0, rw_0, rnS_0, rnS_0]
theorem pA_na : pA LT len (w, 0, fa, na) = pA LT len (w, 0, fa, nb) := rfl
theorem pS3_na : pS3 LT len pd (w, 0, fa, na) = pS3 LT len pd (w, 0, fa, nb) := by rw [pS3, pS3, pS2_na (nb := nb), pA_na (nb := nb)]
theorem fPri_na {hd : Bool} : fPri LT len (w, 0, fa, na) tu pd hd lo e hn cu SC FG TV PR = fPri LT len (w, 0, fa, nb) tu pd hd lo e hn cu SC FG TV PR := by
  rw [fPri, fPri, pS5, pS5, pB, pB, pS3_na (nb := nb), pA_na (nb := nb)]
theorem cbN_na {c : Nat} : ∀ f, cbN LT len c (cQ0 w fa na FG SC) (f + 1) = cbN LT len c (cQ0 w fa nb FG SC) (f + 1)
  | 0 => by
    have h : ∀ m, cbN LT len c (cQ0 w fa m FG SC) (0 + 1) = cbStep LT len c 0 (cQ0 w fa m FG SC) := fun m => (cbN_go rfl rfl rfl).symm
    rw [h, h, cbStep, cbStep]
    show (cbG LT len 0 (rnS LT len 9 (w + 1, 0, fa, na)), cbT LT len 0 (rnS LT len 9 (w + 1, 0, fa, na)), va_up FG (c * 6 + 0) (rnV LT len 9 (w + 1, 0, fa, na)), va_up SC c (0 + 1)) = (cbG LT len 0 (rnS LT len 9 (w + 1, 0, fa, nb)), cbT LT len 0 (rnS LT len 9 (w + 1, 0, fa, nb)), va_up FG (c * 6 + 0) (rnV LT len 9 (w + 1, 0, fa, nb)), va_up SC c (0 + 1))
    rw [rnS_0, rnS_0, show rnV LT len 9 (w + 1, 0, fa, na) = rnV LT len 9 (w + 1, 0, fa, nb) from rfl]
  | f + 1 => by
    have ih := cbN_na (c := c) f
    rw [cbN, ih, ← cbN]
theorem cq_na (hc : cu < 4) : cq LT len cu FG SC (w, 0, fa, na) = cq LT len cu FG SC (w, 0, fa, nb) := by
  rw [cq_0 hc, cq_0 hc]; exact cbN_na 5
theorem fCub_na (hc : cu < 4) {hd : Bool} : fCub LT len (w, 0, fa, na) tu pd hd lo e hn cu SC FG TV PR = fCub LT len (w, 0, fa, nb) tu pd hd lo e hn cu SC FG TV PR := by
  rw [fCub, fCub, cS6, cS6, cq_na (nb := nb) hc]
theorem eq3 {q r : PT} (h : q = r) : q.1.2.1 = r.1.2.1 ∧ q.1.2.2.1 = r.1.2.2.1 ∧ (q.1.2.1 = 0 → q = r) := by
  rw [h]; exact ⟨rfl, rfl, fun _ => rfl⟩
theorem ne3 {q r : PT} {n : Nat} {f : Int} (hn : ¬ n = 0) (h1 : q.1.2.1 = n ∧ q.1.2.2.1 = f) (h2 : r.1.2.1 = n ∧ r.1.2.2.1 = f) : q.1.2.1 = r.1.2.1 ∧ q.1.2.2.1 = r.1.2.2.1 ∧ (q.1.2.1 = 0 → q = r) :=
  ⟨h1.1.trans h2.1.symm, h1.2.trans h2.2.symm, fun h => absurd (h1.1.symm.trans h) hn⟩
theorem fc_na {a : Nat} {hd : Bool} : (fCl LT len (a, 0, fa, na) tu pd hd lo e hn cu SC FG TV PR).1.2.1 = (fCl LT len (a, 0, fa, nb) tu pd hd lo e hn cu SC FG TV PR).1.2.1 ∧ (fCl LT len (a, 0, fa, na) tu pd hd lo e hn cu SC FG TV PR).1.2.2.1 = (fCl LT len (a, 0, fa, nb) tu pd hd lo e hn cu SC FG TV PR).1.2.2.1 ∧ ((fCl LT len (a, 0, fa, na) tu pd hd lo e hn cu SC FG TV PR).1.2.1 = 0 → fCl LT len (a, 0, fa, na) tu pd hd lo e hn cu SC FG TV PR = fCl LT len (a, 0, fa, nb) tu pd hd lo e hn cu SC FG TV PR) := by
  by_cases i1 : hereV LT len a = 100
  · rw [fc_d i1, fc_d i1]
    cases hd with
    | false => exact eq3 fDay_na
    | true => exact ne3 (n := 3) (by decide) dS6_3 dS6_3
  · cases hd with
    | false =>
      rw [fc_b i1 rfl, fc_b i1 rfl]
      exact ne3 (n := 1) (by decide) ⟨rfl, rfl⟩ ⟨rfl, rfl⟩
    | true =>
      by_cases i2 : hereV LT len a = 99
      · rw [fc_c i2 rfl, fc_c i2 rfl]
        rcases Nat.lt_or_ge cu 4 with hc | hc
        · exact eq3 (fCub_na hc)
        · exact ne3 (n := 3) (by decide) (cS6_3 hc) (cS6_3 hc)
      · by_cases i3 : hereV LT len a = 116
        · rw [fc_t i3 rfl, fc_t i3 rfl]
          rcases Nat.lt_or_ge tu 4 with hc | hc
          · exact eq3 (fTur_na hc)
          · exact ne3 (n := 3) (by decide) (tS6_3 hc) (tS6_3 hc)
        · by_cases i4 : hereV LT len a = 112
          · rw [fc_p i4 rfl, fc_p i4 rfl]; exact eq3 fPri_na
          · rw [fc_n i1 i2 i3 i4, fc_n i1 i2 i3 i4]
            exact ne3 (n := 1) (by decide) ⟨rfl, rfl⟩ ⟨rfl, rfl⟩
end NA
def gs (len a : Nat) (s : TS) : Prop := a ≤ s.1 ∧ s.1 ≤ len
theorem rnS_gs {LT : Nat → Nat} {len a top : Nat} {s : TS} (h : gs len a s) : gs len a (rnS LT len top s) := by
  unfold rnS
  split
  · have h1 := skipB_rng LT h.2
    have h2 := dgE_rng LT h1.2
    exact ⟨by have := h.1; show a ≤ dgE LT len (skipB LT len s.1); omega, h2.2⟩
  · exact h
theorem blS_gs {len a n : Nat} {wh : Int} {s : TS} (h : gs len a s) : gs len a (blS n wh s) := by
  unfold blS
  split
  · exact h
  · exact h
theorem bl_gs {c : Prop} [Decidable c] {len a n : Nat} {w : Int} {x : TS} (h : gs len a x) : gs len a (if c then blS n w x else x) := by
  split
  · exact blS_gs h
  · exact h
theorem bl_gs3 {c : Prop} [Decidable c] {len a n : Nat} {w : Int} {x : TS} (h : gs len a x) : gs len a (if c then x else blS n w x) := by
  split
  · exact h
  · exact blS_gs h
theorem cbT_gs {LT : Nat → Nat} {len a f : Nat} {t : TS} (h : gs len a t) : gs len a (cbT LT len f t) := by
  have h1 := skipB_rng LT h.2
  have h2 := h.1
  unfold cbT
  split
  · split
    · next h9 => exact ⟨by show a ≤ _ + 1; omega, by show _ + 1 ≤ len; omega⟩
    · exact ⟨by show a ≤ skipB LT len t.1; omega, h1.2⟩
  · exact h
theorem cbN_gs {LT : Nat → Nat} {len c a : Nat} {q0 : CS} (h : gs len a q0.2.1) : ∀ f, gs len a (cbN LT len c q0 f).2.1
  | 0 => h
  | f + 1 => by
    simp only [cbN]
    split
    · exact cbT_gs (rnS_gs (cbN_gs h f))
    · exact cbN_gs h f
theorem reS_pr {LT : Nat → Nat} {len a : Nat} {T : TS} (h : gs len a T) (h0 : (reS LT len T).2.1 = 0) : a < (reS LT len T).1 := by
  have hT := reS_0 h0
  have h1 := skipB_rng LT h.2
  have h2 := h.1
  by_cases hs : hereV LT len T.1 = 59
  · rw [reS_y hs]; show a < skipB LT len T.1 + 1; omega
  · rw [reS_n hT hs] at h0; exact absurd (show (1 : Nat) = 0 from h0) (by decide)
section PRG
variable {LT : Nat → Nat} {len : Nat} {fa : Int} {na tu pd lo e cu : Nat} {hn hd : Bool} {SC FG TV PR : Nat → Nat}
theorem fc_pr {a : Nat} (ha : a ≤ len) (hs : skipB LT len a < len) (h0 : (fCl LT len (a, 0, fa, na) tu pd hd lo e hn cu SC FG TV PR).1.2.1 = 0) : a < (fCl LT len (a, 0, fa, na) tu pd hd lo e hn cu SC FG TV PR).1.1 := by
  have hr := skipB_rng LT ha
  have g0 : gs len a (skipB LT len a + 1, 0, fa, na) := ⟨by show a ≤ _ + 1; omega, by show _ + 1 ≤ len; omega⟩
  by_cases i1 : hereV LT len a = 100
  · rw [fc_d i1] at h0 ⊢
    cases hd with
    | false => exact reS_pr (T := dT LT len (skipB LT len a) fa na) (rnS_gs (bl_gs (rnS_gs (rnS_gs g0)))) h0
    | true => exact absurd (dS6_3.1.symm.trans h0) (by decide)
  · cases hd with
    | false =>
      rw [fc_b i1 rfl] at h0
      exact absurd (show (1 : Nat) = 0 from h0) (by decide)
    | true =>
      by_cases i2 : hereV LT len a = 99
      · rw [fc_c i2 rfl] at h0 ⊢
        rcases Nat.lt_or_ge cu 4 with hc | hc
        · have h1 : gs len a (cq LT len cu FG SC (skipB LT len a, 0, fa, na)).2.1 := by rw [cq_0 hc]; exact cbN_gs g0 6
          exact reS_pr h1 h0
        · exact absurd ((cS6_3 hc).1.symm.trans h0) (by decide)
      · by_cases i3 : hereV LT len a = 116
        · rw [fc_t i3 rfl] at h0 ⊢
          rcases Nat.lt_or_ge tu 4 with hc | hc
          · have h1 : gs len a (tS1 tu (skipB LT len a, 0, fa, na)) := by rw [tS1_y hc]; exact g0
            exact reS_pr (T := tS5 LT len TV tu (skipB LT len a, 0, fa, na)) (bl_gs (rnS_gs (bl_gs3 (rnS_gs h1)))) h0
          · exact absurd ((tS6_3 hc).1.symm.trans h0) (by decide)
        · by_cases i4 : hereV LT len a = 112
          · rw [fc_p i4 rfl] at h0 ⊢
            exact reS_pr (T := rnS LT len 99 (pS3 LT len pd (skipB LT len a, 0, fa, na))) (rnS_gs (bl_gs (rnS_gs g0))) h0
          · rw [fc_n i1 i2 i3 i4] at h0
            exact absurd (show (1 : Nat) = 0 from h0) (by decide)
end PRG
theorem cl_step {LT : Nat → Nat} {len aN naN rp tp rc : Nat} {fz : Int} {ri : Bool} {q : PT} (ha : aN = q.1.1) (hf : q.1.2.1 = 0) (hz : fz = q.1.2.2.1) (h1 : ri = q.2.2.2.1) (h2 : rc = q.2.2.2.2.2.2.2.1) (h3 : rp = q.2.1) (h4 : tp = q.2.2.1) : (fCl LT len (skipB LT len aN, 0, fz, naN) rp tp ri q.2.2.2.2.1 q.2.2.2.2.2.1 q.2.2.2.2.2.2.1 rc q.2.2.2.2.2.2.2.2.1 q.2.2.2.2.2.2.2.2.2.1 q.2.2.2.2.2.2.2.2.2.2.1 q.2.2.2.2.2.2.2.2.2.2.2).1.2.1 = (clq LT len q).1.2.1 ∧ (fCl LT len (skipB LT len aN, 0, fz, naN) rp tp ri q.2.2.2.2.1 q.2.2.2.2.2.1 q.2.2.2.2.2.2.1 rc q.2.2.2.2.2.2.2.2.1 q.2.2.2.2.2.2.2.2.2.1 q.2.2.2.2.2.2.2.2.2.2.1 q.2.2.2.2.2.2.2.2.2.2.2).1.2.2.1 = (clq LT len q).1.2.2.1 ∧ ((fCl LT len (skipB LT len aN, 0, fz, naN) rp tp ri q.2.2.2.2.1 q.2.2.2.2.2.1 q.2.2.2.2.2.2.1 rc q.2.2.2.2.2.2.2.2.1 q.2.2.2.2.2.2.2.2.2.1 q.2.2.2.2.2.2.2.2.2.2.1 q.2.2.2.2.2.2.2.2.2.2.2).1.2.1 = 0 → fCl LT len (skipB LT len aN, 0, fz, naN) rp tp ri q.2.2.2.2.1 q.2.2.2.2.2.1 q.2.2.2.2.2.2.1 rc q.2.2.2.2.2.2.2.2.1 q.2.2.2.2.2.2.2.2.2.1 q.2.2.2.2.2.2.2.2.2.2.1 q.2.2.2.2.2.2.2.2.2.2.2 = clq LT len q) := by
  obtain ⟨⟨a, n, f, m⟩, tu, pd, hd, lo, e, hn, cu, SC, FG, TV, PR⟩ := q
  simp only at ha hf hz h1 h2 h3 h4
  subst ha hf hz h1 h2 h3 h4
  rw [fCl_idem]
  exact fc_na
theorem rdR_re {ri : Bool} {rc rp tp : Nat} {RD RS RF RO RP : Nat → Nat} {q : PT} {s : TS} (h : rdR ri rc rp tp RD RS RF RO RP q) : rdR ri rc rp tp RD RS RF RO RP (s, rp, tp, ri, q.2.2.2.2.1, q.2.2.2.2.2.1, q.2.2.2.2.2.2.1, rc, q.2.2.2.2.2.2.2.2.1, q.2.2.2.2.2.2.2.2.2.1, q.2.2.2.2.2.2.2.2.2.2.1, q.2.2.2.2.2.2.2.2.2.2.2) :=
  ⟨rfl, rfl, rfl, rfl, h.2.2.2.2⟩
theorem clN_fix {LT : Nat → Nat} {len : Nat} {q0 q : PT} {i m : Nat} (e : q = clN LT len q0 i) (hi : i ≤ m) (h : moreB LT len q = false) : q = clN LT len q0 m := by
  subst e
  have h1 := (clN_stay h (m - i)).1
  rw [show i + (m - i) = m by omega] at h1
  exact h1.symm
/-- all of one step -/
theorem cl_go {LT : Nat → Nat} {len i : Nat} {q0 q : PT} (hl : len ≤ 220) (hq : q = clN LT len q0 i) (h0 : q.1.2.1 = 0) (hs : skipB LT len q.1.1 < len) (hp : ptOk len q) (hi : i ≤ q.1.1) : clq LT len q = clN LT len q0 (i + 1) ∧ ptOk len (clq LT len q) ∧ ((clq LT len q).1.2.1 = 0 → i + 1 ≤ (clq LT len q).1.1 ∧ (clq LT len q).1.1 ≤ len) := by
  have hm : moreB LT len q = true := decide_eq_true ⟨h0, hs⟩
  have hp2 : ptOk len (clq LT len q) := by
    obtain ⟨s, tu, pd, hd, lo, e, hn, cu, SC, FG, TV, PR⟩ := q
    exact fCl_ok hl hp hs
  refine ⟨clN_y hq hm, hp2, fun h => ⟨?_, hp2.1.1⟩⟩
  have hle : q.1.1 ≤ len := hp.1.1
  obtain ⟨⟨a, n, f, m⟩, tu, pd, hd, lo, e, hn, cu, SC, FG, TV, PR⟩ := q
  simp only at h0 hs hi hle
  subst h0
  have := fc_pr (LT := LT) hle hs h
  exact Nat.lt_of_le_of_lt hi this
