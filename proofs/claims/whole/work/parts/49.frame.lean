/-! contracts over a larger world, ends by a predicate -/
theorem Met.mono9 {l : Launch} {y : MethodName} {ws : List Cond} {rm : Room} {P P' : Array Value → State → Prop} {Q Q' : Array Value → State → Outcome → State → Prop} {mc ms : Nat} {fr fr' : Addr → Prop} (h : Met l y ws rm P Q mc ms fr) (hp : ∀ a s, P' a s → P a s) (hq : ∀ a s o t, P' a s → Q a s o t → Q' a s o t) (hf : ∀ q, fr q → fr' q) : Met l y ws rm P' Q' mc ms fr' := by
  intro p e ha hc hk s m args below h1 h2 h3 h4
  obtain ⟨n, o, g1, g2, g3, g4, L, g5, g6⟩ := h p e ha hc hk s m args below h1 h2 (hp _ _ h3) h4
  exact ⟨n, o, g1, g2, g3, hq _ _ _ _ h3 g4, L, g5, fun q hq => hf _ (g6 q hq)⟩
def cU (l : Launch) (y : MethodName) (bytes : ByteArray) (maxL : Nat) (ret : Option FieldType) (rm : Room) (D : KD) (W0 : va_W) (av : List Value) (r : Int32) (P : va_W → Prop) : Prop :=
  ∀ sz : Nat, Met l y [.code y bytes maxL ret] rm (va_Pc av (fun U => U.heap.size = sz ∧ va_P D.1 vwCl W0 U.heap ∧ KK D U ∧ va_D (fun _ => True) W0)) (va_Qi (fun z (w : va_W) => z = r ∧ P w) (fun w t => va_P D.1 vwCl w t.heap ∧ va_D (va_A W0 sz) w) (va_A W0 sz)) 0 0 (va_A W0 sz)
theorem va_A_sub {ws W0 : va_W} {sz : Nat} {isC : List Nat} (hCs : isC.map (fun i => ws[i]?) = W0.map some) : ∀ q, va_A W0 sz q → va_A ws sz q := by
  intro q h
  rcases h with ⟨k, e, h⟩ | h
  · have h1 : (isC.map (fun i => ws[i]?))[k]? = some (some (q, e)) := by rw [hCs, List.getElem?_map, h]; rfl
    rw [List.getElem?_map] at h1
    cases hi : isC[k]? with
    | none => rw [hi] at h1; cases h1
    | some i => rw [hi] at h1; exact Or.inl ⟨i, e, Option.some.inj h1⟩
  · exact Or.inr h
section CU
variable {l : Launch} {y : MethodName} {bytes : ByteArray} {maxL : Nat} {ret : Option FieldType} {rm : Room} {D : KD} {ws W0 wr : va_W} {av : List Value} {r : Int32}
theorem cu_gen {U : Type} {W1 : U → va_W} {post : Int32 → U → Prop} {Rl : U → Prop} (h : ∀ sz : Nat, Met l y [.code y bytes maxL ret] rm (va_Pc av (fun U => U.heap.size = sz ∧ va_P D.1 vwCl W0 U.heap ∧ KK D U ∧ va_D (fun _ => True) W0)) (va_Qi post (fun u t => va_P D.1 vwCl (W1 u) t.heap ∧ va_D (va_A W0 sz) (W1 u)) (va_A W0 sz)) 0 0 (va_A W0 sz)) (hpo : ∀ z u, post z u → z = r ∧ Rl u) (isC isR : List Nat) (hCs : isC.map (fun i => ws[i]?) = W0.map some) (hRs : isR.map (fun i => ws[i]?) = wr.map some) (hnC : va_nd isC = true) (hnR : va_nd isR = true) (hdis : ndis isR isC = true) : cU l y bytes maxL ret rm D ws av r (fun w => ∃ u, Rl u ∧ w = wr ++ W1 u) := by
  intro sz
  refine Met.mono9 (h sz) (fun a s hp => ⟨hp.1, hp.2.1, hp.2.2.1.sub isC (sub_of hCs), hp.2.2.2.1, (hp.2.2.2.2.sub isC hnC hCs)⟩) (fun a s o t hp hq => ?_) (va_A_sub hCs)
  obtain ⟨hav, hsz, hP, hK, hD⟩ := hp
  obtain ⟨⟨z, u, ho, hz, hP1, hD1⟩, hF⟩ := hq
  have hz2 := hpo z u hz
  subst hsz
  have hJ := va_join (A0 := va_A ws s.heap.size) hP hD.self isC isR hCs hRs hnR (ndis_ok hdis) hF.2 (va_A_sub hCs) hP1 hD1
  exact ⟨⟨z, _, ho, ⟨hz2.1, u, hz2.2, rfl⟩, hJ.1, hJ.2⟩, hF.1, fun q h1 h2 => hF.2 q h1 (fun h3 => h2 (va_A_sub hCs q h3))⟩
theorem cM.cu {W1 : va_W} (h : cM l y bytes maxL ret rm D W0 av r W1) (isC isR : List Nat) (hCs : isC.map (fun i => ws[i]?) = W0.map some) (hRs : isR.map (fun i => ws[i]?) = wr.map some) (hnC : va_nd isC = true) (hnR : va_nd isR = true) (hdis : ndis isR isC = true) : cU l y bytes maxL ret rm D ws av r (fun w => ∃ u : Unit, True ∧ w = wr ++ (fun _ : Unit => W1) u) :=
  cu_gen (W1 := fun _ : Unit => W1) (Rl := fun _ => True) h (fun z u hz => ⟨hz, trivial⟩) isC isR hCs hRs hnC hnR hdis
theorem cEx.cu {W1 : (Nat → Nat) → va_W} (h : cEx l y bytes maxL ret rm D W0 av r W1) (isC isR : List Nat) (hCs : isC.map (fun i => ws[i]?) = W0.map some) (hRs : isR.map (fun i => ws[i]?) = wr.map some) (hnC : va_nd isC = true) (hnR : va_nd isR = true) (hdis : ndis isR isC = true) : cU l y bytes maxL ret rm D ws av r (fun w => ∃ u : Nat → Nat, True ∧ w = wr ++ W1 u) :=
  cu_gen (W1 := W1) (Rl := fun _ => True) h (fun z u hz => ⟨hz, trivial⟩) isC isR hCs hRs hnC hnR hdis
theorem cQ.cu {U : Type} {W1 : U → va_W} {Rl : U → Prop} (h : cQ l y bytes maxL ret rm D W0 av r W1 Rl) (isC isR : List Nat) (hCs : isC.map (fun i => ws[i]?) = W0.map some) (hRs : isR.map (fun i => ws[i]?) = wr.map some) (hnC : va_nd isC = true) (hnR : va_nd isR = true) (hdis : ndis isR isC = true) : cU l y bytes maxL ret rm D ws av r (fun w => ∃ u, Rl u ∧ w = wr ++ W1 u) :=
  cu_gen (W1 := W1) (Rl := Rl) h (fun z u hz => hz) isC isR hCs hRs hnC hnR hdis
theorem cR.cu (h : cR l y bytes maxL ret rm D W0 av r) (isC : List Nat) (hCs : isC.map (fun i => ws[i]?) = W0.map some) : cU l y bytes maxL ret rm D ws av r (fun w => w = ws) := by
  intro sz
  refine Met.mono9 h (fun a s hp => ⟨hp.1, hp.2.2.1.sub isC (sub_of hCs), hp.2.2.2.1⟩) (fun a s o t hp hq => ?_) (fun q h => h.elim)
  obtain ⟨hav, hsz, hP, hK, hD⟩ := hp
  obtain ⟨z, ho, hz, hh⟩ := hq
  exact ⟨⟨z, ws, ho, ⟨hz, rfl⟩, by rw [hh]; exact hP, hD.self⟩, by rw [hh]; exact Nat.le_refl _, fun q _ _ => by rw [hh]⟩
/-- another order of the cells, another predicate -/
theorem cU.imp {P P' : va_W → Prop} (h : cU l y bytes maxL ret rm D ws av r P) (hi : ∀ w, P w → ∃ w', P' w' ∧ (∀ H : Heap, va_P D.1 vwCl w H → va_P D.1 vwCl w' H) ∧ ∀ A : Nat → Prop, va_D A w → va_D A w') : cU l y bytes maxL ret rm D ws av r P' := by
  intro sz
  refine Met.mono9 (h sz) (fun a s hp => hp) (fun a s o t hp hq => ?_) (fun q h => h)
  obtain ⟨⟨z, w, ho, ⟨hz, hw⟩, hP1, hD1⟩, hF⟩ := hq
  obtain ⟨w', h1, h2, h3⟩ := hi w hw
  exact ⟨⟨z, w', ho, ⟨hz, h1⟩, h2 _ hP1, h3 _ hD1⟩, hF⟩
theorem cU.eqr {P : va_W → Prop} {r' : Int32} (h : cU l y bytes maxL ret rm D ws av r P) (e : r = r') : cU l y bytes maxL ret rm D ws av r' P := e ▸ h
end CU
theorem wperm {D : KD} {w w' : va_W} (is : List Nat) (hs : is.map (fun i => w[i]?) = w'.map some) (hn : va_nd is = true) : (∀ H : Heap, va_P D.1 vwCl w H → va_P D.1 vwCl w' H) ∧ ∀ A : Nat → Prop, va_D A w → va_D A w' :=
  ⟨fun _ h => h.sub is (sub_of hs), fun _ h => h.sub is hn hs⟩
/-- only what lies within a row counts -/
theorem wrow {D : KD} {ws : va_W} (q0 : Nat) {a len : Nat} {c : ClassId} {f f' : Nat → Int32} (he : ws[q0]? = some (a, .inl (c, len, .inl f))) (hf : ∀ j, j < len → f j = f' j) : (∀ H : Heap, va_P D.1 vwCl ws H → va_P D.1 vwCl (ws.set q0 (a, .inl (c, len, .inl f'))) H) ∧ ∀ A : Nat → Prop, va_D A ws → va_D A (ws.set q0 (a, .inl (c, len, .inl f'))) := by
  have hlt : q0 < ws.length := (List.getElem?_eq_some_iff.mp he).1
  refine ⟨fun H hP k q hk => ?_, fun A hD => ⟨fun i j p q hi hj hpq => ?_, fun k q hk => ?_⟩⟩
  · by_cases e : k = q0
    · subst e
      rw [List.getElem?_set_self hlt] at hk
      cases hk
      have h1 := hP k _ he
      have h2 : vp_cell c (len, .inl f) = vp_cell c (len, .inl f') := by
        rw [vp_cell_i, vp_cell_i]
        exact arrV_congr (fun j hj => by rw [hf j hj])
      show H[a]? = some (vp_cell c (len, .inl f'))
      rw [← h2]; exact h1
    · rw [List.getElem?_set_ne (Ne.symm e)] at hk
      exact hP k q hk
  · have key : ∀ (i : Nat) (p : Nat × va_E), (ws.set q0 (a, .inl (c, len, .inl f')))[i]? = some p → ∃ p0, ws[i]? = some p0 ∧ p0.1 = p.1 := by
      intro i p hp
      by_cases e : i = q0
      · subst e
        rw [List.getElem?_set_self hlt] at hp
        cases hp
        exact ⟨_, he, rfl⟩
      · rw [List.getElem?_set_ne (Ne.symm e)] at hp
        exact ⟨p, hp, rfl⟩
    obtain ⟨p0, h1, e1⟩ := key i p hi
    obtain ⟨q1, h2, e2⟩ := key j q hj
    exact hD.1 i j p0 q1 h1 h2 (by rw [e1, e2, hpq])
  · by_cases e : k = q0
    · subst e
      rw [List.getElem?_set_self hlt] at hk
      cases hk
      exact hD.2 k (a, .inl (c, len, .inl f)) he
    · rw [List.getElem?_set_ne (Ne.symm e)] at hk
      exact hD.2 k q hk
/-- the law's call: the callee's cells ahead or behind, the others opaque -/
theorem app_ix {w1 w2 : va_W} : (List.range w1.length).map (fun i => (w1 ++ w2)[i]?) = w1.map some ∧ ((List.range w2.length).map (· + w1.length)).map (fun i => (w1 ++ w2)[i]?) = w2.map some := by
  refine ⟨?_, ?_⟩
  · apply List.ext_getElem?
    intro i
    simp only [List.getElem?_map]
    by_cases h : i < w1.length
    · rw [List.getElem?_range h]
      simp [List.getElem?_append_left h, h]
    · rw [List.getElem?_eq_none (by simp; omega), List.getElem?_eq_none (by omega)]; rfl
  · apply List.ext_getElem?
    intro i
    simp only [List.getElem?_map]
    by_cases h : i < w2.length
    · rw [List.getElem?_range h]
      simp [h]
      rw [List.getElem?_append_right (by omega), Nat.add_sub_cancel]
      exact List.getElem?_eq_getElem h
    · rw [List.getElem?_eq_none (by simp; omega), List.getElem?_eq_none (by omega)]; rfl
