/-! THE CLAIM OUT OF ONE WALK OF THE LAW'S BODY. Your part is whole_start (and what it stands on); all else here is the same for every law, but numbers. -/
def R_law : String := "CubeDaysLaw"
def lw_P (b : Addr) (xs : List Int32) (args : Array Value) (s : State) : Prop := args = #[.ref b] ∧ s.IntsAt b xs ∧ xs.length ≤ 256 ∧ (Jvm.Cond.and given_1 narrow_1).before args s = true
def lw_Q (_ : Array Value) (s : State) (o : Outcome) (t : State) : Prop := o = .returned (some (.int 1)) ∧ Framed s o t [] 600000 7302250
def lw_Z (below : List Frame) (a : Array Value) (s : State) : State → Prop := fun t => ∃ o, t.status = .running ∧ Ended t below o ∧ lw_Q a s o t
/-- the law's own end, with 1 on the stack, nothing written that was there before, its room as the claim has it -/
theorem lw_ret {p : Program} {l : Launch} {e : Env} {s : State} {m : MethodId} {below : List Frame} {meth : Method} {c : Code} {b : Nat} (hx : p.tables.exec = Jvm.exec) (hb : c.code = code) (hr : meth.sig.returnType = ret) (hlocks : meth.locks = false) {pc : Nat} {H : Heap} {ls : Array Slot} (hdg : decode code pc = .ok (.ireturn, 1)) : W p l e room_1 s m #[Value.ref b] below meth c H [] 600000 7302250 (lw_Z below #[Value.ref b] s) (F0 m pc ls [.int 1]) := by
  intro T hT X
  obtain ⟨fs, hret, hrun, hended, hW, hframe⟩ := X.leave (v := some (.int 1)) (hlocks := hlocks) (fun h => by rw [hr] at h; cases h)
  have hmeth' : T.vm.method? m = some meth := X.method'
  refine ⟨T.setFrames fs, ?_, .returned (some (.int 1)), hrun, hended, rfl, ⟨_, rfl⟩, hW, hframe⟩
  jvm_step X.here [X.here.top, hx, hb, hdg, hmeth', hr, ret, narrow_b1]
  (try refine ⟨rfl, ?_⟩); (try refine ⟨rfl, ?_⟩)
  first | (intro acts; rw [hret _ acts rfl rfl rfl]) | rw [hret _ _ rfl rfl rfl]
  exact Steps.refl _
/-- what holds at the law's entry: the machine, the code, the tables' words (any of lw_tbl by 'hts w (by decide +kernel)'), the script of L ints xs at the cell b, what the Statement gives of the start (any of its parts by flat_of_before) -/
def lw_At (p : Program) (s : State) (m : MethodId) (meth : Method) (c : Code) (b L : Nat) (xs : Nat → Int32) : Prop :=
  p.tables.exec = Jvm.exec ∧ c.code = code ∧ meth.sig.returnType = ret ∧ c.maxLocals = 4 ∧ s.vm.findClass R_law = some m.cls ∧ (∀ w ∈ lw_tbl, w.before #[Value.ref b] s = true) ∧ va_X b L xs s s.heap ∧ b < s.heap.size ∧ meth.locks = false ∧ (Jvm.Cond.and given_1 narrow_1).before #[Value.ref b] s = true
theorem wk_char : (Cond.arrayClass .char : Cond) ∈ lw_tbl := List.mem_append_right _ (List.mem_append_left _ (List.mem_of_getElem? (i := 55) rfl))
theorem wk_int : (Cond.arrayClass .int : Cond) ∈ lw_tbl := List.mem_append_right _ (List.mem_append_left _ (List.mem_of_getElem? (i := 126) rfl))
theorem wk_bool : (Cond.arrayClass .boolean : Cond) ∈ lw_tbl := List.mem_append_right _ (List.mem_append_left _ (List.mem_of_getElem? (i := 211) rfl))
theorem wk_over : (Cond.arrayOver (.object "CubeDays$State") : Cond) ∈ lw_tbl := List.mem_append_right _ (List.mem_append_left _ (List.mem_of_getElem? (i := 171) rfl))
theorem nest_in : ∀ q ∈ nestL, (Cond.methodLinkNest q.1 q.2.1 q.2.2 "CubeDays" : Cond) ∈ lw_tbl := by
  unfold nestL
  exact List.forall_mem_cons.mpr ⟨wn_RX7_11, List.forall_mem_cons.mpr ⟨wn_RX7_18, List.forall_mem_cons.mpr ⟨wn_RX6_20, List.forall_mem_cons.mpr ⟨wn_RX3_24, List.forall_mem_cons.mpr ⟨wn_RX7_62, List.forall_mem_cons.mpr ⟨wn_RX7_69, List.forall_mem_cons.mpr ⟨wn_RX7_82, List.forall_mem_cons.mpr ⟨wn_RX5_107, List.forall_mem_cons.mpr ⟨wn_RX4_46, List.forall_mem_cons.mpr ⟨wn_RX4_42, List.forall_mem_cons.mpr ⟨wn_RX6_65, List.forall_mem_cons.mpr ⟨wn_RX2_104, fun _ h => absurd h List.not_mem_nil⟩⟩⟩⟩⟩⟩⟩⟩⟩⟩⟩⟩
theorem kk_of {s : State} {b : Nat} (hts : ∀ w ∈ lw_tbl, w.before #[Value.ref b] s = true) : ∃ D : KD, KA D s := by
  obtain ⟨c0, i0, h0⟩ := u_known (C := RX0) (T := TX0) (N := 9) (n := 9) hts (fun w h => (in0 w h).1) (hts _ wa_CubeDays_Desk)
  obtain ⟨c1, i1, h1⟩ := u_known (C := RX1) (T := TX1) (N := 5) (n := 5) hts (fun w h => (in1 w h).1) (hts _ wa_CubeDays_Notes)
  obtain ⟨c2, i2, h2⟩ := u_known (C := RX2) (T := TX2) (N := 13) (n := 13) hts (fun w h => (in2 w h).1) (hts _ wa_CubeDays_Pairs)
  obtain ⟨c3, i3, h3⟩ := u_known (C := RX3) (T := TX3) (N := 3) (n := 3) hts (fun w h => (in3 w h).1) (hts _ wa_CubeDays_Past)
  obtain ⟨c4, i4, h4⟩ := u_known (C := RX4) (T := TX4) (N := 4) (n := 4) hts (fun w h => (in4 w h).1) (hts _ wa_CubeDays_State)
  obtain ⟨c5, i5, h5⟩ := u_known (C := RX5) (T := TX5) (N := 8) (n := 8) hts (fun w h => (in5 w h).1) (hts _ wa_CubeDays_Text)
  obtain ⟨c6, i6, h6⟩ := u_known (C := RX6) (T := TX6) (N := 3) (n := 3) hts (fun w h => (in6 w h).1) (hts _ wa_CubeDays_Trial)
  obtain ⟨c7, i7, h7⟩ := u_known (C := RX7) (T := TX7) (N := 12) (n := 12) hts (fun w h => (in7 w h).1) (hts _ wa_CubeDays)
  obtain ⟨c8, i8, h8⟩ := u_known (C := RX8) (T := TX8) (N := 47) (n := 47) hts (fun w h => (in8 w h).1) (hts _ wa_CubeDaysModel)
  obtain ⟨cI, kI, mI, nI1, nI2, nI3⟩ := Cond.arrayClass_spec (hts _ wk_int)
  obtain ⟨cZ, kZ, mZ, nZ1, nZ2, nZ3⟩ := Cond.arrayClass_spec (hts _ wk_bool)
  obtain ⟨cC, kC, mC, nC1, nC2, nC3⟩ := Cond.arrayClass_spec (hts _ wk_char)
  obtain ⟨mS, cS, kS, hmS, hidx, hkS, hkind, hname⟩ := Cond.arrayOver_spec (hts _ wk_over)
  have hc : ∀ (k : Nat) (q : vw_C), vwCl[k]? = some q → u_Kn s q.1 q.2.1 q.2.2 ((fun k => ([c0, c1, c2, c3, c4, c5, c6, c7, c8] : List ClassId).getD k c0) k) ((fun k => ([i0, i1, i2, i3, i4, i5, i6, i7, i8] : List (Nat → Nat)).getD k i0) k) := by
    intro k q hq
    match k, hq with
    | 0, hq => cases hq; exact h0
    | 1, hq => cases hq; exact h1
    | 2, hq => cases hq; exact h2
    | 3, hq => cases hq; exact h3
    | 4, hq => cases hq; exact h4
    | 5, hq => cases hq; exact h5
    | 6, hq => cases hq; exact h6
    | 7, hq => cases hq; exact h7
    | 8, hq => cases hq; exact h8
    | k + 9, hq => simp [vwCl] at hq
  refine ⟨((fun k => ([c0, c1, c2, c3, c4, c5, c6, c7, c8] : List ClassId).getD k c0, fun k => ([i0, i1, i2, i3, i4, i5, i6, i7, i8] : List (Nat → Nat)).getD k i0), cI, cZ, cC, cS), ⟨⟨hc, ?_⟩, ?_, ?_⟩, ⟨hts _ wk_int, hts _ wk_bool, hts _ wk_char⟩, va_AO.of (hts _ wk_over)⟩
  · intro k q hq
    match k, hq with
    | 0, hq => cases hq; exact ⟨fun N z => ⟨fun k h => (by cases h), kI, nI2, mI, nI3⟩, nI1⟩
    | 1, hq => cases hq; exact ⟨fun N z => ⟨fun k h => (by cases h), kZ, nZ2, mZ, nZ3⟩, nZ1⟩
    | 2, hq => cases hq; exact ⟨fun N z => ⟨fun k h => (by cases h), kC, nC2, mC, nC3⟩, nC1⟩
    | 3, hq => cases hq; exact ⟨fun N z => ⟨fun k h => (by cases h), kS, hkS, mS, hkind⟩, kS, mS, hkS, hkind, hmS, hname⟩
    | k + 4, hq => simp [kTy] at hq
  · intro w hw hg
    simp only [Bool.and_eq_true] at hg
    exact va_tabs hg.1 rfl (hts w hw)
  · intro q hq
    exact va_Nw.of rfl (hts _ (nest_in q hq))
theorem x_astn {X : CX} {k n : Nat} {H : Heap} {locs : List Loc} {pc : Nat} {ls : Array Slot} {st : List Value} {cc : ByteArray} {own : String} {nL : Nat} {rm : Room} {D : KD} {lv lv' : List (Nat × Value)} (hx : Ok X cc own nL rm D) {j : Fin 4} {v : Nat} (hd : decode cc pc = .ok (.astore_n j, 1)) (hl : lv_has ls nL lv) (hn : (j : Nat) < nL) (hq : ((j : Nat), Value.ref v) :: lv.filter (fun q => !(q.1 == (j : Nat)) && !(q.1 + 1 == (j : Nat) && q.2.category == 2)) = lv') (kk : ∀ ls : Array Slot, lv_has ls nL lv' → Wx X k n H locs (pc + 1) ls st) : Wx X k n H locs pc ls (.ref v :: st) := lv_astore_n hx.1 hx.2.1 hd rfl hl hn hq kk
set_option maxHeartbeats 4000000 in
set_option maxRecDepth 100000 in
theorem lw_start {X : CX} {D : KD} {A : Nat → Prop} {bS L : Nat} {xs : Nat → Int32} (hx : Ok X cL_law "CubeDaysLaw" 4 room_1 D) (hka : KA D (cxS X)) (hF : SF X A bS L xs) (hA : ∀ q : Nat, (cxS X).heap.size ≤ q → A q) (hret : ∀ (ls : Array Slot) (H : Heap) (locs : List Loc) (ws : va_W), Wd X D A ws H locs → Wx X 108 4622 H locs 988 ls [.int 1]) (ls : Array Slot) (hl : lv_has ls 4 [(0, .ref bS)]) : Wx X 0 0 (cxS X).heap [] 0 ls [] := by
  have hW : Wd X D A [] (cxS X).heap [] := ⟨fun k q h => by simp at h, ⟨fun i j p q h => by simp at h, fun k q h => by simp at h⟩, va_S.rf⟩
  refine x_new7 hx hA hW wc_RL_7 (Nat.le_of_ble_eq_true rfl) (Nat.le_of_ble_eq_true rfl) dL_law_0 (fun ob H hW => ?_)
  refine x_dup hx dL_law_3 rfl ?_
  refine x_callI (wr := []) hx hka yi_X7_init (c_X7_init (cxL X) D ob) wm_RL_9 hA hW [0] [] rfl rfl rfl rfl rfl ⟨rfl, rfl⟩ ⟨Nat.le_of_ble_eq_true rfl, Nat.le_of_ble_eq_true rfl⟩ ⟨Nat.le_of_ble_eq_true rfl, Nat.le_of_ble_eq_true rfl⟩ hl rfl (Nat.le_of_ble_eq_true rfl) dL_law_4 (fun u H locs hW => ?_)
  have hW : Wd X D A (wcI D ob u) H locs := hW
  refine x_astn (lv' := [(1, .ref ob), (0, .ref bS)]) hx dL_law_7 hl (by decide) rfl (fun ls hl => ?_)
  refine x_new8 hx hA hW wc_RL_10 (Nat.le_of_ble_eq_true rfl) (Nat.le_of_ble_eq_true rfl) dL_law_8 (fun om H hW => ?_)
  refine x_dup hx dL_law_11 rfl ?_
  refine x_callI (wr := wcI D ob u) hx hka yi_X8_init (c_X8_init (cxL X) D om) wm_RL_12 hA hW [82] [0, 1, 2, 3, 4, 5, 6, 7, 8, 9, 10, 11, 12, 13, 14, 15, 16, 17, 18, 19, 20, 21, 22, 23, 24, 25, 26, 27, 28, 29, 30, 31, 32, 33, 34, 35, 36, 37, 38, 39, 40, 41, 42, 43, 44, 45, 46, 47, 48, 49, 50, 51, 52, 53, 54, 55, 56, 57, 58, 59, 60, 61, 62, 63, 64, 65, 66, 67, 68, 69, 70, 71, 72, 73, 74, 75, 76, 77, 78, 79, 80, 81] rfl rfl rfl rfl rfl ⟨rfl, rfl⟩ ⟨Nat.le_of_ble_eq_true rfl, Nat.le_of_ble_eq_true rfl⟩ ⟨Nat.le_of_ble_eq_true rfl, Nat.le_of_ble_eq_true rfl⟩ hl rfl (Nat.le_of_ble_eq_true rfl) dL_law_12 (fun v H locs hW => ?_)
  have hW : Wd X D A (wcI D ob u ++ wmI D om v) H locs := hW
  refine x_astn (lv' := [(2, .ref om), (1, .ref ob), (0, .ref bS)]) hx dL_law_15 hl (by decide) rfl (fun ls hl => ?_)
  refine x_iconst (v := nI 0) hx dL_law_16 (by decide) ?_
  refine x_istore_n (lv' := [(3, .int (nI 0)), (2, .ref om), (1, .ref ob), (0, .ref bS)]) hx dL_law_17 hl (by decide) rfl (fun ls hl => ?_)
  exact lw_loop (a := aF ob u) (b := bF om v) hx hF hA ⟨Nat.le_of_ble_eq_true rfl, Nat.le_of_ble_eq_true rfl⟩ hret 65 0 (wc0 D ob u) (wm0 D om v) H locs ls (by decide) (Nat.zero_le _) (ini2 D ob om u v) (wcm_conv hW) hl
set_option maxHeartbeats 4000000 in
theorem whole_start {p : Program} {e : Env} {s : State} {m : MethodId} {below : List Frame} {meth : Method} {c : Code} (l : Launch) {b L : Nat} {xs : Nat → Int32} (hL : L ≤ 256) (C0 : lw_At p s m meth c b L xs) : W p l e room_1 s m #[Value.ref b] below meth c s.heap [] 0 0 (lw_Z below #[Value.ref b] s) (entryFrame m ([Value.ref b] : List Value).toArray 4) := by
  obtain ⟨hx, hb, hr, hml, hown, hts, hX, hbl, hlocks, hgv⟩ := C0
  obtain ⟨D, hka⟩ := kk_of hts
  have hl := lv_entry ([.ref b]) (n := 4) (Nat.le_of_ble_eq_true rfl)
  rw [lg_entry_eq]
  generalize (lg_sl ([.ref b]) ++ List.replicate (4 - (lg_sl ([.ref b])).length) Slot.unset).toArray = ls at hl ⊢
  have hl : lv_has ls 4 [(0, .ref b)] := hl
  refine lw_start (X := (p, l, e, room_1, s, m, #[Value.ref b], below, meth, c, lw_Z below #[Value.ref b] s)) (A := fun q => s.heap.size ≤ q) (bS := b) (L := L) (xs := xs) ⟨hx, hb, hml, hown, rfl, hka.1⟩ hka ⟨hX, hbl, Nat.not_le.mpr hbl, hL⟩ (fun _ h => h) (fun ls H locs ws hW => ?_) ls hl
  exact va_forget (fun q hq => hW.2.2.2.2 q hq) (W.widen (k := 600000) (n := 7302250) (Nat.le_of_ble_eq_true rfl) (Nat.le_of_ble_eq_true rfl) (lw_ret hx hb hr hlocks dL_law_988))
