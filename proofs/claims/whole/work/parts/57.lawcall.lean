/-! the law's calls: the callee's cells ahead, the others opaque -/
theorem va_nd_nd : ∀ l : List Nat, l.Nodup → va_nd l = true
  | [], _ => rfl
  | a :: l, h => by
    rw [List.nodup_cons] at h
    simp only [va_nd, Bool.and_eq_true, decide_eq_true_eq]
    exact ⟨h.1, va_nd_nd l h.2⟩
theorem nd_shift (n c : Nat) : va_nd ((List.range n).map (· + c)) = true := by
  apply va_nd_nd
  unfold List.Nodup
  rw [List.pairwise_map]
  exact List.Pairwise.imp (fun h => by omega) (List.nodup_range (n := n))
theorem nd_range (n : Nat) : va_nd (List.range n) = true := va_nd_nd _ List.nodup_range
theorem ndis_app (n c : Nat) : ndis ((List.range n).map (· + c)) (List.range c) = true := by
  unfold ndis
  rw [List.all_eq_true]
  intro i hi
  obtain ⟨j, _, rfl⟩ := List.mem_map.mp hi
  simp
section XU
variable {X : CX} {k n : Nat} {H : Heap} {locs : List Loc} {pc : Nat} {ls : Array Slot} {st0 rest : List Value} {cc : ByteArray} {own : String} {nL : Nat} {rm : Room} {D : KD} {lv : List (Nat × Value)} {w1 w2 : va_W}
variable {y : MethodName} {bytes : ByteArray} {maxL np ix ci N : Nat} {ret : Option FieldType} {rmc : Room} {As : List Value} {r : Int32} {b : Nat} {fs : List Value} {T : u_T} {A : Nat → Prop} {P : va_W → Prop}
theorem x_callU (hx : Ok X cc own nL rm D) (hy : yV y bytes maxL ret np) (hC : cU (cxL X) y bytes maxL ret rmc D w1 (.ref b :: As) r P) (hw : Cond.methodLink own ix y ∈ lw_tbl) (hA : ∀ q : Nat, (cxS X).heap.size ≤ q → A q) (hW : Wd X D A (w1 ++ w2) H locs) (he : w1[0]? = some (b, .inr (ci, fs))) (hc : vwCl[ci]? = some (y.cls, T, N)) (hr0 : rmc.cells = 0 ∧ rmc.slots = 0) (hR : rmc.frames + 1 ≤ rm.frames ∧ 8 + (maxL + 11) + rmc.locals ≤ rm.locals) (hkn : k ≤ rm.cells ∧ n ≤ rm.slots) (hl : lv_has ls nL lv) (hn : As.length = np) (hst : st0 = As.reverse ++ .ref b :: rest) (h8 : (rest.map fun v => v.category).sum ≤ 8) (hd : decode cc pc = .ok (.invokevirtual ix, 3)) (kk : ∀ (w : va_W) (H : Heap) (locs : List Loc), P w → Wd X D A (w2 ++ w) H locs → Wx X k n H locs (pc + 3) ls (.int r :: rest)) : Wx X k n H locs pc ls st0 := by
  have hCs := (app_ix (w1 := w1) (w2 := w2)).1
  have hRs := (app_ix (w1 := w1) (w2 := w2)).2
  have he2 : (w1 ++ w2)[0]? = some (b, .inr (ci, fs)) := by
    rw [List.getElem?_append_left ((List.getElem?_eq_some_iff.mp he).1)]; exact he
  have hFc := va_free hW.2.1 hW.2.2 hA _ hCs
  refine va_calli (va_runV (Ts := []) ⟨hx.1, hx.2.1, hx.2.2.1, hx.2.2.2.1, fun w h => by cases h⟩ (hC H.size) ⟨ok_callB hx hy.1 hw hr0 hR, hx.kk.w hy.2.1 rfl, hx.kk.w hy.2.2 rfl⟩ ⟨fun a U g mk q => ⟨q.1, q.2.1, q.2.2.1, q.2.2.2.1.calling, q.2.2.2.2⟩, va_recv hx.kk.1 hW.1 hc he2, fun U hU hWm => ⟨rfl, by rw [hU], by rw [hU]; exact hW.1.sub _ (sub_of hCs), hx.kk.moved hWm, (hW.2.1.sub _ (nd_range _) hCs).weaken (fun _ _ _ _ => trivial)⟩⟩ rfl hn hl.1 hst (lv_room h8) hd (ok_room hx hkn)) hW.2.2 (fun q _ h => hFc q h) hFc (fun z u t H1 locs1 ht hvm hz hB hz1 hk1 hS1 => ?_)
  obtain ⟨hP1, hD1⟩ := hB
  rw [ht] at hP1
  have hJ := va_join hW.1 hW.2.1 _ _ hCs hRs (nd_shift _ _) (ndis_ok (ndis_app _ _)) hk1 hFc hP1 hD1
  obtain ⟨hz, hP9⟩ := hz
  subst hz
  exact kk u H1 locs1 hP9 ⟨hJ.1, hJ.2, hS1⟩
end XU
