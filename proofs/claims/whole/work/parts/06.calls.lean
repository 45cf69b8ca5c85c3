/-- what a call of y needs of the tables -/
def yB (y : MethodName) (bytes : ByteArray) (maxL : Nat) (ret : Option FieldType) (np : Nat) : Prop :=
  Cond.code y bytes maxL ret ∈ lw_tbl ∧ Cond.initialized y.cls ∈ lw_tbl ∧ (y.cls ≠ "java/lang/invoke/MethodHandle" ∧ y.cls ≠ "java/lang/invoke/VarHandle" ∧ (parseMethodDescriptor y.desc).map (fun d => d.parameters.length) = some np)
def yV (y : MethodName) (bytes : ByteArray) (maxL : Nat) (ret : Option FieldType) (np : Nat) : Prop := yB y bytes maxL ret np ∧ Cond.instanceMethod y ∈ lw_tbl ∧ Cond.selects y.cls y y ∈ lw_tbl
def yS (y : MethodName) (bytes : ByteArray) (maxL : Nat) (ret : Option FieldType) (np : Nat) : Prop := yB y bytes maxL ret np ∧ Cond.static y ∈ lw_tbl
theorem len_of {y : MethodName} {np : Nat} (h : (parseMethodDescriptor y.desc).map (fun d => d.parameters.length) = some np) : ∀ sig, parseMethodDescriptor y.desc = some sig → np = sig.parameters.length := by
  intro sig hs
  rw [hs] at h
  exact (Option.some.inj h).symm
theorem sub_of {ws W0 : va_W} {is : List Nat} (h : is.map (fun i => ws[i]?) = W0.map some) : is.filterMap (fun i => ws[i]?) = W0 := by
  have h1 : is.filterMap (fun i => ws[i]?) = (is.map (fun i => ws[i]?)).filterMap id := by rw [List.filterMap_map]; rfl
  rw [h1, h, List.filterMap_map]
  simp
def ndis (a b : List Nat) : Bool := a.all fun i => !(b.contains i)
theorem ndis_ok {a b : List Nat} (h : ndis a b = true) : ∀ i ∈ a, i ∉ b := by
  intro i hi hb
  have h1 := List.all_eq_true.mp h i hi
  simp [hb] at h1
section XC
variable {X : CX} {k n : Nat} {H : Heap} {locs : List Loc} {pc : Nat} {ls : Array Slot} {st0 rest : List Value} {cc : ByteArray} {own : String} {nL : Nat} {rm : Room} {D : KD} {lv : List (Nat × Value)} {ws : va_W}
variable {y : MethodName} {bytes : ByteArray} {maxL np ix ci N : Nat} {ret : Option FieldType} {rmc : Room} {W0 W1 wr : va_W} {As : List Value} {r : Int32} {b : Nat} {fs : List Value} {T : u_T} {A : Nat → Prop}
theorem ok_callB (hx : Ok X cc own nL rm D) (hy : yB y bytes maxL ret np) (hw : Cond.methodLink own ix y ∈ lw_tbl) (hr0 : rmc.cells = 0 ∧ rmc.slots = 0) (hR : rmc.frames + 1 ≤ rm.frames ∧ 8 + (maxL + 11) + rmc.locals ≤ rm.locals) : CallB X.2.2.2.1 (cxS X) (cxA X) own ix y bytes maxL ret [.code y bytes maxL ret] rmc 0 0 np := by
  have e : X.2.2.2.1 = rm := hx.2.2.2.2.1
  refine ⟨hr0.1, hr0.2, by rw [e]; exact hR.1, by rw [e]; exact hR.2, fun w hw2 a' U hW => ?_, List.mem_cons_self, hx.kk.w hy.1 rfl, hx.kk.w hy.2.1 rfl, ⟨hy.2.2.1, hy.2.2.2.1⟩, len_of hy.2.2.2.2, hx.kk.w hw rfl⟩
  have e2 : w = Cond.code y bytes maxL ret := by simpa using hw2
  subst e2
  exact word_at hW (Or.inl rfl) (hx.kk.w (a := #[]) hy.1 rfl)
theorem ok_callN (hx : Ok X cc own nL rm D) (hy : yB y bytes maxL ret np) (hw : (own, ix, y) ∈ nestL) (hr0 : rmc.cells = 0 ∧ rmc.slots = 0) (hR : rmc.frames + 1 ≤ rm.frames ∧ 8 + (maxL + 11) + rmc.locals ≤ rm.locals) : va_CN X.2.2.2.1 (cxS X) (cxA X) own ix y "CubeDays" bytes maxL ret [.code y bytes maxL ret] rmc 0 0 np := by
  have e : X.2.2.2.1 = rm := hx.2.2.2.2.1
  refine ⟨⟨hr0.1, hr0.2, by rw [e]; exact hR.1, by rw [e]; exact hR.2, fun w hw2 a' U hW => ?_, List.mem_cons_self⟩, hx.kk.w hy.1 rfl, hx.kk.w hy.2.1 rfl, ⟨hy.2.2.1, hy.2.2.2.1⟩, len_of hy.2.2.2.2, va_Nw.use rfl (hx.kk.2.2 _ hw)⟩
  have e2 : w = Cond.code y bytes maxL ret := by simpa using hw2
  subst e2
  exact word_at hW (Or.inl rfl) (hx.kk.w (a := #[]) hy.1 rfl)
theorem ok_room (hx : Ok X cc own nL rm D) (hkn : k ≤ rm.cells ∧ n ≤ rm.slots) : k + 0 ≤ X.2.2.2.1.cells ∧ n + 0 ≤ X.2.2.2.1.slots := by
  have e : X.2.2.2.1 = rm := hx.2.2.2.2.1
  rw [e]; exact hkn

theorem x_callRV (hx : Ok X cc own nL rm D) (hy : yV y bytes maxL ret np) (hC : cR (cxL X) y bytes maxL ret rmc D W0 (.ref b :: As) r) (hw : Cond.methodLink own ix y ∈ lw_tbl) (hP : va_P D.1 vwCl ws H) (is : List Nat) (hs : is.filterMap (fun i => ws[i]?) = W0) (q0 : Nat) (he : ws[q0]? = some (b, .inr (ci, fs))) (hc : vwCl[ci]? = some (y.cls, T, N)) (hr0 : rmc.cells = 0 ∧ rmc.slots = 0) (hR : rmc.frames + 1 ≤ rm.frames ∧ 8 + (maxL + 11) + rmc.locals ≤ rm.locals) (hkn : k ≤ rm.cells ∧ n ≤ rm.slots) (hl : lv_has ls nL lv) (hn : As.length = np) (hst : st0 = As.reverse ++ .ref b :: rest) (h8 : (rest.map fun v => v.category).sum ≤ 8) (hd : decode cc pc = .ok (.invokevirtual ix, 3)) (kk : Wx X k n H locs (pc + 3) ls (.int r :: rest)) : Wx X k n H locs pc ls st0 := by
  intro T0 hT0 X0
  obtain ⟨v, s0, t, T', L, h0, X', hL, e1, e2, ⟨z, hz, hr, hh⟩, sp⟩ := va_runV (Ts := []) ⟨hx.1, hx.2.1, hx.2.2.1, hx.2.2.2.1, fun w h => by cases h⟩ hC ⟨ok_callB hx hy.1 hw hr0 hR, hx.kk.w hy.2.1 rfl, hx.kk.w hy.2.2 rfl⟩ ⟨fun a U g mk q => ⟨q.1, q.2.1, q.2.2.calling⟩, va_recv hx.kk.1 hP hc he, fun U hU hWm => ⟨rfl, by rw [hU]; exact hP.sub is hs, hx.kk.moved hWm⟩⟩ rfl hn hl.1 hst (lv_room h8) hd (ok_room hx hkn) T0 hT0 X0
  cases hz
  subst hr
  have hL0 : L = [] := by
    cases L with
    | nil => rfl
    | cons q l => exact absurd (hL q List.mem_cons_self) (fun h => h)
  subst hL0
  rw [List.append_nil] at X'
  obtain ⟨t2, a1, b1⟩ := kk T' (by rw [e1, hh, h0]) X'
  exact ⟨t2, sp t2 a1, b1⟩
theorem x_callMV (hx : Ok X cc own nL rm D) (hy : yV y bytes maxL ret np) (hC : cM (cxL X) y bytes maxL ret rmc D W0 (.ref b :: As) r W1) (hw : Cond.methodLink own ix y ∈ lw_tbl) (hA : ∀ q : Nat, (cxS X).heap.size ≤ q → A q) (hW : Wd X D A ws H locs) (isC isR : List Nat) (hCs : isC.map (fun i => ws[i]?) = W0.map some) (hRs : isR.map (fun i => ws[i]?) = wr.map some) (hnC : va_nd isC = true) (hnR : va_nd isR = true) (hdis : ndis isR isC = true) (q0 : Nat) (he : ws[q0]? = some (b, .inr (ci, fs))) (hc : vwCl[ci]? = some (y.cls, T, N)) (hr0 : rmc.cells = 0 ∧ rmc.slots = 0) (hR : rmc.frames + 1 ≤ rm.frames ∧ 8 + (maxL + 11) + rmc.locals ≤ rm.locals) (hkn : k ≤ rm.cells ∧ n ≤ rm.slots) (hl : lv_has ls nL lv) (hn : As.length = np) (hst : st0 = As.reverse ++ .ref b :: rest) (h8 : (rest.map fun v => v.category).sum ≤ 8) (hd : decode cc pc = .ok (.invokevirtual ix, 3)) (ws' : va_W) (hws : wr ++ W1 = ws') (kk : ∀ (H : Heap) (locs : List Loc), Wd X D A ws' H locs → Wx X k n H locs (pc + 3) ls (.int r :: rest)) : Wx X k n H locs pc ls st0 := by
  have hFc := va_free hW.2.1 hW.2.2 hA isC hCs
  refine va_calli (va_runV (Ts := []) ⟨hx.1, hx.2.1, hx.2.2.1, hx.2.2.2.1, fun w h => by cases h⟩ (hC H.size) ⟨ok_callB hx hy.1 hw hr0 hR, hx.kk.w hy.2.1 rfl, hx.kk.w hy.2.2 rfl⟩ ⟨fun a U g mk q => ⟨q.1, q.2.1, q.2.2.1, q.2.2.2.1.calling, q.2.2.2.2⟩, va_recv hx.kk.1 hW.1 hc he, fun U hU hWm => ⟨rfl, by rw [hU], by rw [hU]; exact hW.1.sub isC (sub_of hCs), hx.kk.moved hWm, (hW.2.1.sub isC hnC hCs).weaken (fun _ _ _ _ => trivial)⟩⟩ rfl hn hl.1 hst (lv_room h8) hd (ok_room hx hkn)) hW.2.2 (fun q _ h => hFc q h) hFc (fun z u t H1 locs1 ht hvm hz hB hz1 hk1 hS1 => ?_)
  obtain ⟨hP1, hD1⟩ := hB
  rw [ht] at hP1
  have hJ := va_join hW.1 hW.2.1 isC isR hCs hRs hnR (ndis_ok hdis) hk1 hFc hP1 hD1
  rw [hws] at hJ
  subst hz
  exact kk H1 locs1 ⟨hJ.1, hJ.2, hS1⟩
theorem x_callVV (hx : Ok X cc own nL rm D) (hy : yV y bytes maxL none np) (hC : cV (cxL X) y bytes maxL rmc D W0 (.ref b :: As) W1) (hw : Cond.methodLink own ix y ∈ lw_tbl) (hA : ∀ q : Nat, (cxS X).heap.size ≤ q → A q) (hW : Wd X D A ws H locs) (isC isR : List Nat) (hCs : isC.map (fun i => ws[i]?) = W0.map some) (hRs : isR.map (fun i => ws[i]?) = wr.map some) (hnC : va_nd isC = true) (hnR : va_nd isR = true) (hdis : ndis isR isC = true) (q0 : Nat) (he : ws[q0]? = some (b, .inr (ci, fs))) (hc : vwCl[ci]? = some (y.cls, T, N)) (hr0 : rmc.cells = 0 ∧ rmc.slots = 0) (hR : rmc.frames + 1 ≤ rm.frames ∧ 8 + (maxL + 11) + rmc.locals ≤ rm.locals) (hkn : k ≤ rm.cells ∧ n ≤ rm.slots) (hl : lv_has ls nL lv) (hn : As.length = np) (hst : st0 = As.reverse ++ .ref b :: rest) (h8 : (rest.map fun v => v.category).sum ≤ 8) (hd : decode cc pc = .ok (.invokevirtual ix, 3)) (ws' : va_W) (hws : wr ++ W1 = ws') (kk : ∀ (H : Heap) (locs : List Loc), Wd X D A ws' H locs → Wx X k n H locs (pc + 3) ls rest) : Wx X k n H locs pc ls st0 := by
  have hFc := va_free hW.2.1 hW.2.2 hA isC hCs
  refine va_callv (va_runV (Ts := []) ⟨hx.1, hx.2.1, hx.2.2.1, hx.2.2.2.1, fun w h => by cases h⟩ (hC H.size) ⟨ok_callB hx hy.1 hw hr0 hR, hx.kk.w hy.2.1 rfl, hx.kk.w hy.2.2 rfl⟩ ⟨fun a U g mk q => ⟨q.1, q.2.1, q.2.2.1, q.2.2.2.1.calling, q.2.2.2.2⟩, va_recv hx.kk.1 hW.1 hc he, fun U hU hWm => ⟨rfl, by rw [hU], by rw [hU]; exact hW.1.sub isC (sub_of hCs), hx.kk.moved hWm, (hW.2.1.sub isC hnC hCs).weaken (fun _ _ _ _ => trivial)⟩⟩ rfl hn hl.1 hst (lv_room h8) hd (ok_room hx hkn)) hW.2.2 (fun q _ h => hFc q h) hFc (fun u t H1 locs1 ht hvm hz hB hz1 hk1 hS1 => ?_)
  obtain ⟨hP1, hD1⟩ := hB
  rw [ht] at hP1
  have hJ := va_join hW.1 hW.2.1 isC isR hCs hRs hnR (ndis_ok hdis) hk1 hFc hP1 hD1
  rw [hws] at hJ
  exact kk H1 locs1 ⟨hJ.1, hJ.2, hS1⟩
theorem x_callRS (hx : Ok X cc own nL rm D) (hy : yS y bytes maxL ret np) (hC : cR (cxL X) y bytes maxL ret rmc D W0 As r) (hw : Cond.methodLink own ix y ∈ lw_tbl) (hP : va_P D.1 vwCl ws H) (is : List Nat) (hs : is.filterMap (fun i => ws[i]?) = W0) (hr0 : rmc.cells = 0 ∧ rmc.slots = 0) (hR : rmc.frames + 1 ≤ rm.frames ∧ 8 + (maxL + 11) + rmc.locals ≤ rm.locals) (hkn : k ≤ rm.cells ∧ n ≤ rm.slots) (hl : lv_has ls nL lv) (hn : As.length = np) (hst : st0 = As.reverse ++ rest) (h8 : (rest.map fun v => v.category).sum ≤ 8) (hd : decode cc pc = .ok (.invokestatic ix, 3)) (kk : Wx X k n H locs (pc + 3) ls (.int r :: rest)) : Wx X k n H locs pc ls st0 := by
  intro T0 hT0 X0
  obtain ⟨v, s0, t, T', L, h0, X', hL, e1, e2, ⟨z, hz, hr, hh⟩, sp⟩ := va_runS (Ts := []) ⟨hx.1, hx.2.1, hx.2.2.1, hx.2.2.2.1, fun w h => by cases h⟩ hC ⟨ok_callB hx hy.1 hw hr0 hR, hx.kk.w hy.2 rfl⟩ ⟨fun a U g mk q => ⟨q.1, q.2.1, q.2.2.calling⟩, fun U hU hWm => ⟨rfl, by rw [hU]; exact hP.sub is hs, hx.kk.moved hWm⟩⟩ rfl hn hl.1 hst (lv_room h8) hd (ok_room hx hkn) T0 hT0 X0
  cases hz
  subst hr
  have hL0 : L = [] := by
    cases L with
    | nil => rfl
    | cons q l => exact absurd (hL q List.mem_cons_self) (fun h => h)
  subst hL0
  rw [List.append_nil] at X'
  obtain ⟨t2, a1, b1⟩ := kk T' (by rw [e1, hh, h0]) X'
  exact ⟨t2, sp t2 a1, b1⟩
theorem x_callMS (hx : Ok X cc own nL rm D) (hy : yS y bytes maxL ret np) (hC : cM (cxL X) y bytes maxL ret rmc D W0 As r W1) (hw : Cond.methodLink own ix y ∈ lw_tbl) (hA : ∀ q : Nat, (cxS X).heap.size ≤ q → A q) (hW : Wd X D A ws H locs) (isC isR : List Nat) (hCs : isC.map (fun i => ws[i]?) = W0.map some) (hRs : isR.map (fun i => ws[i]?) = wr.map some) (hnC : va_nd isC = true) (hnR : va_nd isR = true) (hdis : ndis isR isC = true) (hr0 : rmc.cells = 0 ∧ rmc.slots = 0) (hR : rmc.frames + 1 ≤ rm.frames ∧ 8 + (maxL + 11) + rmc.locals ≤ rm.locals) (hkn : k ≤ rm.cells ∧ n ≤ rm.slots) (hl : lv_has ls nL lv) (hn : As.length = np) (hst : st0 = As.reverse ++ rest) (h8 : (rest.map fun v => v.category).sum ≤ 8) (hd : decode cc pc = .ok (.invokestatic ix, 3)) (ws' : va_W) (hws : wr ++ W1 = ws') (kk : ∀ (H : Heap) (locs : List Loc), Wd X D A ws' H locs → Wx X k n H locs (pc + 3) ls (.int r :: rest)) : Wx X k n H locs pc ls st0 := by
  have hFc := va_free hW.2.1 hW.2.2 hA isC hCs
  refine va_calli (va_runS (Ts := []) ⟨hx.1, hx.2.1, hx.2.2.1, hx.2.2.2.1, fun w h => by cases h⟩ (hC H.size) ⟨ok_callB hx hy.1 hw hr0 hR, hx.kk.w hy.2 rfl⟩ ⟨fun a U g mk q => ⟨q.1, q.2.1, q.2.2.1, q.2.2.2.1.calling, q.2.2.2.2⟩, fun U hU hWm => ⟨rfl, by rw [hU], by rw [hU]; exact hW.1.sub isC (sub_of hCs), hx.kk.moved hWm, (hW.2.1.sub isC hnC hCs).weaken (fun _ _ _ _ => trivial)⟩⟩ rfl hn hl.1 hst (lv_room h8) hd (ok_room hx hkn)) hW.2.2 (fun q _ h => hFc q h) hFc (fun z u t H1 locs1 ht hvm hz hB hz1 hk1 hS1 => ?_)
  obtain ⟨hP1, hD1⟩ := hB
  rw [ht] at hP1
  have hJ := va_join hW.1 hW.2.1 isC isR hCs hRs hnR (ndis_ok hdis) hk1 hFc hP1 hD1
  rw [hws] at hJ
  subst hz
  exact kk H1 locs1 ⟨hJ.1, hJ.2, hS1⟩
theorem x_callVS (hx : Ok X cc own nL rm D) (hy : yS y bytes maxL none np) (hC : cV (cxL X) y bytes maxL rmc D W0 As W1) (hw : Cond.methodLink own ix y ∈ lw_tbl) (hA : ∀ q : Nat, (cxS X).heap.size ≤ q → A q) (hW : Wd X D A ws H locs) (isC isR : List Nat) (hCs : isC.map (fun i => ws[i]?) = W0.map some) (hRs : isR.map (fun i => ws[i]?) = wr.map some) (hnC : va_nd isC = true) (hnR : va_nd isR = true) (hdis : ndis isR isC = true) (hr0 : rmc.cells = 0 ∧ rmc.slots = 0) (hR : rmc.frames + 1 ≤ rm.frames ∧ 8 + (maxL + 11) + rmc.locals ≤ rm.locals) (hkn : k ≤ rm.cells ∧ n ≤ rm.slots) (hl : lv_has ls nL lv) (hn : As.length = np) (hst : st0 = As.reverse ++ rest) (h8 : (rest.map fun v => v.category).sum ≤ 8) (hd : decode cc pc = .ok (.invokestatic ix, 3)) (ws' : va_W) (hws : wr ++ W1 = ws') (kk : ∀ (H : Heap) (locs : List Loc), Wd X D A ws' H locs → Wx X k n H locs (pc + 3) ls rest) : Wx X k n H locs pc ls st0 := by
  have hFc := va_free hW.2.1 hW.2.2 hA isC hCs
  refine va_callv (va_runS (Ts := []) ⟨hx.1, hx.2.1, hx.2.2.1, hx.2.2.2.1, fun w h => by cases h⟩ (hC H.size) ⟨ok_callB hx hy.1 hw hr0 hR, hx.kk.w hy.2 rfl⟩ ⟨fun a U g mk q => ⟨q.1, q.2.1, q.2.2.1, q.2.2.2.1.calling, q.2.2.2.2⟩, fun U hU hWm => ⟨rfl, by rw [hU], by rw [hU]; exact hW.1.sub isC (sub_of hCs), hx.kk.moved hWm, (hW.2.1.sub isC hnC hCs).weaken (fun _ _ _ _ => trivial)⟩⟩ rfl hn hl.1 hst (lv_room h8) hd (ok_room hx hkn)) hW.2.2 (fun q _ h => hFc q h) hFc (fun u t H1 locs1 ht hvm hz hB hz1 hk1 hS1 => ?_)
  obtain ⟨hP1, hD1⟩ := hB
  rw [ht] at hP1
  have hJ := va_join hW.1 hW.2.1 isC isR hCs hRs hnR (ndis_ok hdis) hk1 hFc hP1 hD1
  rw [hws] at hJ
  exact kk H1 locs1 ⟨hJ.1, hJ.2, hS1⟩
theorem x_callRN (hx : Ok X cc own nL rm D) (hy : yS y bytes maxL ret np) (hC : cR (cxL X) y bytes maxL ret rmc D W0 As r) (hw : (own, ix, y) ∈ nestL) (hP : va_P D.1 vwCl ws H) (is : List Nat) (hs : is.filterMap (fun i => ws[i]?) = W0) (hr0 : rmc.cells = 0 ∧ rmc.slots = 0) (hR : rmc.frames + 1 ≤ rm.frames ∧ 8 + (maxL + 11) + rmc.locals ≤ rm.locals) (hkn : k ≤ rm.cells ∧ n ≤ rm.slots) (hl : lv_has ls nL lv) (hn : As.length = np) (hst : st0 = As.reverse ++ rest) (h8 : (rest.map fun v => v.category).sum ≤ 8) (hd : decode cc pc = .ok (.invokestatic ix, 3)) (kk : Wx X k n H locs (pc + 3) ls (.int r :: rest)) : Wx X k n H locs pc ls st0 := by
  intro T0 hT0 X0
  obtain ⟨v, s0, t, T', L, h0, X', hL, e1, e2, ⟨z, hz, hr, hh⟩, sp⟩ := va_runSN (Ts := []) ⟨hx.1, hx.2.1, hx.2.2.1, hx.2.2.2.1, fun w h => by cases h⟩ hC ⟨ok_callN hx hy.1 hw hr0 hR, hx.kk.w hy.2 rfl, trivial⟩ ⟨fun a U g mk q => ⟨q.1, q.2.1, q.2.2.calling⟩, fun U hU hWm => ⟨rfl, by rw [hU]; exact hP.sub is hs, hx.kk.moved hWm⟩⟩ rfl hn hl.1 hst (lv_room h8) hd (ok_room hx hkn) T0 hT0 X0
  cases hz
  subst hr
  have hL0 : L = [] := by
    cases L with
    | nil => rfl
    | cons q l => exact absurd (hL q List.mem_cons_self) (fun h => h)
  subst hL0
  rw [List.append_nil] at X'
  obtain ⟨t2, a1, b1⟩ := kk T' (by rw [e1, hh, h0]) X'
  exact ⟨t2, sp t2 a1, b1⟩
theorem x_callMN (hx : Ok X cc own nL rm D) (hy : yS y bytes maxL ret np) (hC : cM (cxL X) y bytes maxL ret rmc D W0 As r W1) (hw : (own, ix, y) ∈ nestL) (hA : ∀ q : Nat, (cxS X).heap.size ≤ q → A q) (hW : Wd X D A ws H locs) (isC isR : List Nat) (hCs : isC.map (fun i => ws[i]?) = W0.map some) (hRs : isR.map (fun i => ws[i]?) = wr.map some) (hnC : va_nd isC = true) (hnR : va_nd isR = true) (hdis : ndis isR isC = true) (hr0 : rmc.cells = 0 ∧ rmc.slots = 0) (hR : rmc.frames + 1 ≤ rm.frames ∧ 8 + (maxL + 11) + rmc.locals ≤ rm.locals) (hkn : k ≤ rm.cells ∧ n ≤ rm.slots) (hl : lv_has ls nL lv) (hn : As.length = np) (hst : st0 = As.reverse ++ rest) (h8 : (rest.map fun v => v.category).sum ≤ 8) (hd : decode cc pc = .ok (.invokestatic ix, 3)) (ws' : va_W) (hws : wr ++ W1 = ws') (kk : ∀ (H : Heap) (locs : List Loc), Wd X D A ws' H locs → Wx X k n H locs (pc + 3) ls (.int r :: rest)) : Wx X k n H locs pc ls st0 := by
  have hFc := va_free hW.2.1 hW.2.2 hA isC hCs
  refine va_calli (va_runSN (Ts := []) ⟨hx.1, hx.2.1, hx.2.2.1, hx.2.2.2.1, fun w h => by cases h⟩ (hC H.size) ⟨ok_callN hx hy.1 hw hr0 hR, hx.kk.w hy.2 rfl, trivial⟩ ⟨fun a U g mk q => ⟨q.1, q.2.1, q.2.2.1, q.2.2.2.1.calling, q.2.2.2.2⟩, fun U hU hWm => ⟨rfl, by rw [hU], by rw [hU]; exact hW.1.sub isC (sub_of hCs), hx.kk.moved hWm, (hW.2.1.sub isC hnC hCs).weaken (fun _ _ _ _ => trivial)⟩⟩ rfl hn hl.1 hst (lv_room h8) hd (ok_room hx hkn)) hW.2.2 (fun q _ h => hFc q h) hFc (fun z u t H1 locs1 ht hvm hz hB hz1 hk1 hS1 => ?_)
  obtain ⟨hP1, hD1⟩ := hB
  rw [ht] at hP1
  have hJ := va_join hW.1 hW.2.1 isC isR hCs hRs hnR (ndis_ok hdis) hk1 hFc hP1 hD1
  rw [hws] at hJ
  subst hz
  exact kk H1 locs1 ⟨hJ.1, hJ.2, hS1⟩
theorem x_callVN (hx : Ok X cc own nL rm D) (hy : yS y bytes maxL none np) (hC : cV (cxL X) y bytes maxL rmc D W0 As W1) (hw : (own, ix, y) ∈ nestL) (hA : ∀ q : Nat, (cxS X).heap.size ≤ q → A q) (hW : Wd X D A ws H locs) (isC isR : List Nat) (hCs : isC.map (fun i => ws[i]?) = W0.map some) (hRs : isR.map (fun i => ws[i]?) = wr.map some) (hnC : va_nd isC = true) (hnR : va_nd isR = true) (hdis : ndis isR isC = true) (hr0 : rmc.cells = 0 ∧ rmc.slots = 0) (hR : rmc.frames + 1 ≤ rm.frames ∧ 8 + (maxL + 11) + rmc.locals ≤ rm.locals) (hkn : k ≤ rm.cells ∧ n ≤ rm.slots) (hl : lv_has ls nL lv) (hn : As.length = np) (hst : st0 = As.reverse ++ rest) (h8 : (rest.map fun v => v.category).sum ≤ 8) (hd : decode cc pc = .ok (.invokestatic ix, 3)) (ws' : va_W) (hws : wr ++ W1 = ws') (kk : ∀ (H : Heap) (locs : List Loc), Wd X D A ws' H locs → Wx X k n H locs (pc + 3) ls rest) : Wx X k n H locs pc ls st0 := by
  have hFc := va_free hW.2.1 hW.2.2 hA isC hCs
  refine va_callv (va_runSN (Ts := []) ⟨hx.1, hx.2.1, hx.2.2.1, hx.2.2.2.1, fun w h => by cases h⟩ (hC H.size) ⟨ok_callN hx hy.1 hw hr0 hR, hx.kk.w hy.2 rfl, trivial⟩ ⟨fun a U g mk q => ⟨q.1, q.2.1, q.2.2.1, q.2.2.2.1.calling, q.2.2.2.2⟩, fun U hU hWm => ⟨rfl, by rw [hU], by rw [hU]; exact hW.1.sub isC (sub_of hCs), hx.kk.moved hWm, (hW.2.1.sub isC hnC hCs).weaken (fun _ _ _ _ => trivial)⟩⟩ rfl hn hl.1 hst (lv_room h8) hd (ok_room hx hkn)) hW.2.2 (fun q _ h => hFc q h) hFc (fun u t H1 locs1 ht hvm hz hB hz1 hk1 hS1 => ?_)
  obtain ⟨hP1, hD1⟩ := hB
  rw [ht] at hP1
  have hJ := va_join hW.1 hW.2.1 isC isR hCs hRs hnR (ndis_ok hdis) hk1 hFc hP1 hD1
  rw [hws] at hJ
  exact kk H1 locs1 ⟨hJ.1, hJ.2, hS1⟩
end XC
