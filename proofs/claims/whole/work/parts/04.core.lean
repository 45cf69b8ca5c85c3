/-! the machine behind one name: contexts, the tables' words as a fact of a state, contracts of two kinds (read only; world to world) -/
abbrev KD : Type := va_G × ClassId × ClassId × ClassId × ClassId
abbrev kTy (D : KD) : List (ClassId × FieldType) := [(D.2.1, .int), (D.2.2.1, .boolean), (D.2.2.2.1, .char), (D.2.2.2.2, .object "CubeDays$State")]
def nestL : List (String × Nat × MethodName) := [("CubeDays", 11, ({ cls := "CubeDays$Text", name := "<init>", desc := "()V" } : Jvm.MethodName)), ("CubeDays", 18, ({ cls := "CubeDays$Trial", name := "<init>", desc := "()V" } : Jvm.MethodName)), ("CubeDays$Trial", 20, ({ cls := "CubeDays$State", name := "<init>", desc := "()V" } : Jvm.MethodName)), ("CubeDays$Past", 24, ({ cls := "CubeDays$State", name := "<init>", desc := "()V" } : Jvm.MethodName)), ("CubeDays", 62, ({ cls := "CubeDays$Notes", name := "<init>", desc := "()V" } : Jvm.MethodName)), ("CubeDays", 69, ({ cls := "CubeDays$Pairs", name := "<init>", desc := "()V" } : Jvm.MethodName)), ("CubeDays", 82, ({ cls := "CubeDays$State", name := "<init>", desc := "()V" } : Jvm.MethodName)), ("CubeDays$Text", 107, ({ cls := "CubeDays", name := "place", desc := "(II)I" } : Jvm.MethodName)), ("CubeDays$State", 46, ({ cls := "CubeDays", name := "place", desc := "(II)I" } : Jvm.MethodName)), ("CubeDays$State", 42, ({ cls := "CubeDays", name := "isFigure", desc := "(I)Z" } : Jvm.MethodName)), ("CubeDays$Trial", 65, ({ cls := "CubeDays", name := "leastOf", desc := "(I)I" } : Jvm.MethodName)), ("CubeDays$Pairs", 104, ({ cls := "CubeDays", name := "leastOf", desc := "(I)I" } : Jvm.MethodName))]
def KK (D : KD) (s : State) : Prop := va_K D.1 vwCl (kTy D) s ∧ (∀ w ∈ lw_tbl, (w.onTables && w.keeps) = true → w.before #[] s = true) ∧ ∀ q ∈ nestL, va_Nw (.methodLinkNest q.1 q.2.1 q.2.2 "CubeDays") s
theorem KK.w {D : KD} {s : State} (h : KK D s) {w : Cond} (hw : w ∈ lw_tbl) (hg : (w.onTables && w.keeps) = true) {a : Array Value} : w.before a s = true := by
  have h1 := h.2.1 w hw hg
  simp only [Bool.and_eq_true] at hg
  exact va_tabs hg.1 rfl h1
theorem KK.moved {D : KD} {s U : State} (hW : s.WarmedH U.vm) (h : KK D s) : KK D U :=
  ⟨va_K.moved hW.alike h.1, fun w hw hg => word_at hW (Or.inl hg) (h.2.1 w hw hg), fun q hq => va_Nw.warmM hW (h.2.2 q hq)⟩
theorem KK.calling {D : KD} {U : State} {g : JFrame} {mk : MethodId} {a : Array Value} (h : KK D U) : KK D (U.calling g mk a) :=
  ⟨va_K.moved (u := U) (U := U.calling g mk a) (Vm.Alike.refl U.vm) h.1, fun w hw hg => by
    have h1 := h.2.1 w hw hg
    simp only [Bool.and_eq_true] at hg
    exact va_tabs (u := U) hg.1 rfl h1, fun q hq => va_Nw.same (u := U) rfl rfl (h.2.2 q hq)⟩
abbrev CX : Type := Program × Launch × Env × Room × State × MethodId × Array Value × List Frame × Method × Code × (State → Prop)
abbrev cxL (X : CX) : Launch := X.2.1
abbrev cxS (X : CX) : State := X.2.2.2.2.1
abbrev cxM (X : CX) : MethodId := X.2.2.2.2.2.1
abbrev cxA (X : CX) : Array Value := X.2.2.2.2.2.2.1
abbrev cxC (X : CX) : Code := X.2.2.2.2.2.2.2.2.2.1
def Wx (X : CX) (k n : Nat) (H : Heap) (locs : List Loc) (pc : Nat) (ls : Array Slot) (st : List Value) : Prop :=
  W X.1 X.2.1 X.2.2.1 X.2.2.2.1 X.2.2.2.2.1 X.2.2.2.2.2.1 X.2.2.2.2.2.2.1 X.2.2.2.2.2.2.2.1 X.2.2.2.2.2.2.2.2.1 X.2.2.2.2.2.2.2.2.2.1 H locs k n X.2.2.2.2.2.2.2.2.2.2 (F0 X.2.2.2.2.2.1 pc ls st)
/-- the context is the machine's, at this code, in this class, with this room -/
def Ok (X : CX) (cc : ByteArray) (own : String) (nL : Nat) (rm : Room) (D : KD) : Prop :=
  X.1.tables.exec = Jvm.exec ∧ (cxC X).code = cc ∧ (cxC X).maxLocals = nL ∧ (cxS X).vm.findClass own = some (cxM X).cls ∧ X.2.2.2.1 = rm ∧ KK D (cxS X)
theorem Ok.kk {X : CX} {cc : ByteArray} {own : String} {nL : Nat} {rm : Room} {D : KD} (h : Ok X cc own nL rm D) : KK D (cxS X) := h.2.2.2.2.2
/-- reads only -/
def cR (l : Launch) (y : MethodName) (bytes : ByteArray) (maxL : Nat) (ret : Option FieldType) (rm : Room) (D : KD) (W0 : va_W) (av : List Value) (r : Int32) : Prop :=
  Met l y [.code y bytes maxL ret] rm (va_Pc av (fun U => va_P D.1 vwCl W0 U.heap ∧ KK D U)) (vp_Si (fun z => z = r)) 0 0 (fun _ => False)
/-- world to world, an int comes back -/
def cM (l : Launch) (y : MethodName) (bytes : ByteArray) (maxL : Nat) (ret : Option FieldType) (rm : Room) (D : KD) (W0 : va_W) (av : List Value) (r : Int32) (W1 : va_W) : Prop :=
  ∀ sz : Nat, Met l y [.code y bytes maxL ret] rm (va_Pc av (fun U => U.heap.size = sz ∧ va_P D.1 vwCl W0 U.heap ∧ KK D U ∧ va_D (fun _ => True) W0)) (va_Qi (fun z (_ : Unit) => z = r) (fun _ t => va_P D.1 vwCl W1 t.heap ∧ va_D (va_A W0 sz) W1) (va_A W0 sz)) 0 0 (va_A W0 sz)
/-- world to world, nothing comes back -/
def cV (l : Launch) (y : MethodName) (bytes : ByteArray) (maxL : Nat) (rm : Room) (D : KD) (W0 : va_W) (av : List Value) (W1 : va_W) : Prop :=
  ∀ sz : Nat, Met l y [.code y bytes maxL none] rm (va_Pc av (fun U => U.heap.size = sz ∧ va_P D.1 vwCl W0 U.heap ∧ KK D U ∧ va_D (fun _ => True) W0)) (va_Qv (fun (_ : Unit) => True) (fun _ t => va_P D.1 vwCl W1 t.heap ∧ va_D (va_A W0 sz) W1) (va_A W0 sz)) 0 0 (va_A W0 sz)
/-- the world that a walk holds -/
def Wd (X : CX) (D : KD) (A : Nat → Prop) (ws : va_W) (H : Heap) (locs : List Loc) : Prop := va_P D.1 vwCl ws H ∧ va_D A ws ∧ va_S A (cxS X).heap H locs
set_option maxHeartbeats 1000000 in
theorem cR.mk {l : Launch} {y : MethodName} {bytes : ByteArray} {maxL : Nat} {ret : Option FieldType} {rm : Room} {D : KD} {W0 : va_W} {av : List Value} {r : Int32} (hy : plainName y.cls = true) (hn : ∃ ty, ret = some ty ∧ narrow ty (.int r) = .int r) (hlen : (lg_sl av).length ≤ maxL)
    (k : ∀ X : CX, Ok X bytes y.cls maxL rm D → cxL X = l → va_P D.1 vwCl W0 (cxS X).heap → (∀ (pc : Nat) (ls : Array Slot) (v : Int32), decode bytes pc = .ok (.ireturn, 1) → v = r → Wx X 0 0 (cxS X).heap [] pc ls [.int v]) → ∀ ls : Array Slot, lv_has ls maxL (lv_args 0 av) → Wx X 0 0 (cxS X).heap [] 0 ls []) : cR l y bytes maxL ret rm D W0 av r := by
  obtain ⟨ty, rfl, hn⟩ := hn
  refine Met.ofW (cc := bytes) (maxL := maxL) (ret := some ty) hy rfl ?_
  intro p e s m args below meth c s₁ B hml hv
  obtain ⟨rfl, hP, hK⟩ := hv
  have hlocks := B.notSynchronized
  rw [lg_entry_eq]
  refine k (p, l, e, _, s, m, av.toArray, below, meth, c, _) ⟨B.exec, B.bytes, hml, findClass_of_methodNamed B.named, rfl, hK⟩ rfl hP ?_ _ (lv_entry av hlen)
  intro pc ls v hd hv
  subst hv
  exact W.zret (free := fun _ => False) B.exec B.bytes B.returns hn (fun t ht hW => ⟨v, rfl, rfl, ht⟩) (fun q hq => by cases hq) hd
set_option maxHeartbeats 1000000 in
theorem cM.mk {l : Launch} {y : MethodName} {bytes : ByteArray} {maxL : Nat} {ret : Option FieldType} {rm : Room} {D : KD} {W0 : va_W} {av : List Value} {r : Int32} {W1 : va_W} (hy : plainName y.cls = true) (hn : ∃ ty, ret = some ty ∧ narrow ty (.int r) = .int r) (hlen : (lg_sl av).length ≤ maxL)
    (k : ∀ (X : CX) (A : Nat → Prop), Ok X bytes y.cls maxL rm D → cxL X = l → (∀ q : Nat, (cxS X).heap.size ≤ q → A q) → Wd X D A W0 (cxS X).heap [] → (∀ (pc : Nat) (ls : Array Slot) (H : Heap) (locs : List Loc) (v : Int32), decode bytes pc = .ok (.ireturn, 1) → v = r → Wd X D A W1 H locs → Wx X 0 0 H locs pc ls [.int v]) → ∀ ls : Array Slot, lv_has ls maxL (lv_args 0 av) → Wx X 0 0 (cxS X).heap [] 0 ls []) : cM l y bytes maxL ret rm D W0 av r W1 := by
  obtain ⟨ty, rfl, hn⟩ := hn
  intro sz
  refine Met.ofW (cc := bytes) (maxL := maxL) (ret := some ty) hy rfl ?_
  intro p e s m args below meth c s₁ B hml hv
  obtain ⟨rfl, hsz, hP, hK, hD0⟩ := hv
  have hlocks := B.notSynchronized
  subst hsz
  rw [lg_entry_eq]
  refine k (p, l, e, _, s, m, av.toArray, below, meth, c, _) (va_A W0 s.heap.size) ⟨B.exec, B.bytes, hml, findClass_of_methodNamed B.named, rfl, hK⟩ rfl (fun q h => Or.inr h) ⟨hP, hD0.self, va_S.rf⟩ ?_ _ (lv_entry av hlen)
  intro pc ls H locs v hd hv hW
  subst hv
  exact W.zret (free := va_A W0 s.heap.size) B.exec B.bytes B.returns hn (fun t ht hWm => ⟨⟨v, (), rfl, rfl, by rw [ht]; exact hW.1, hW.2.1⟩, hW.2.2.F ht⟩) hW.2.2.2.2 hd
set_option maxHeartbeats 1000000 in
theorem cV.mk {l : Launch} {y : MethodName} {bytes : ByteArray} {maxL : Nat} {rm : Room} {D : KD} {W0 : va_W} {av : List Value} {W1 : va_W} (hy : plainName y.cls = true) (hlen : (lg_sl av).length ≤ maxL)
    (k : ∀ (X : CX) (A : Nat → Prop), Ok X bytes y.cls maxL rm D → cxL X = l → (∀ q : Nat, (cxS X).heap.size ≤ q → A q) → Wd X D A W0 (cxS X).heap [] → (∀ (pc : Nat) (ls : Array Slot) (H : Heap) (locs : List Loc), decode bytes pc = .ok (.return_, 1) → Wd X D A W1 H locs → Wx X 0 0 H locs pc ls []) → ∀ ls : Array Slot, lv_has ls maxL (lv_args 0 av) → Wx X 0 0 (cxS X).heap [] 0 ls []) : cV l y bytes maxL rm D W0 av W1 := by
  intro sz
  refine Met.ofW (cc := bytes) (maxL := maxL) (ret := none) hy rfl ?_
  intro p e s m args below meth c s₁ B hml hv
  obtain ⟨rfl, hsz, hP, hK, hD0⟩ := hv
  have hlocks := B.notSynchronized
  subst hsz
  rw [lg_entry_eq]
  refine k (p, l, e, _, s, m, av.toArray, below, meth, c, _) (va_A W0 s.heap.size) ⟨B.exec, B.bytes, hml, findClass_of_methodNamed B.named, rfl, hK⟩ rfl (fun q h => Or.inr h) ⟨hP, hD0.self, va_S.rf⟩ ?_ _ (lv_entry av hlen)
  intro pc ls H locs hd hW
  exact W.vret (free := va_A W0 s.heap.size) B.exec B.bytes B.returns (fun t ht hWm => ⟨⟨(), rfl, trivial, by rw [ht]; exact hW.1, hW.2.1⟩, hW.2.2.F ht⟩) hW.2.2.2.2 hd
