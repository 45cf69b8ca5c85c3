set_option maxHeartbeats 1000000 in
theorem cR.mkF {l : Launch} {y : MethodName} {bytes : ByteArray} {maxL : Nat} {ret : Option FieldType} {rm : Room} {D : KD} {W0 : va_W} {av : List Value} {r : Int32} (hy : plainFor y = true) (hn : ∃ ty, ret = some ty ∧ narrow ty (.int r) = .int r) (hlen : (lg_sl av).length ≤ maxL)
    (k : ∀ X : CX, Ok X bytes y.cls maxL rm D → cxL X = l → va_P D.1 vwCl W0 (cxS X).heap → (∀ (pc : Nat) (ls : Array Slot) (v : Int32), decode bytes pc = .ok (.ireturn, 1) → v = r → Wx X 0 0 (cxS X).heap [] pc ls [.int v]) → ∀ ls : Array Slot, lv_has ls maxL (lv_args 0 av) → Wx X 0 0 (cxS X).heap [] 0 ls []) : cR l y bytes maxL ret rm D W0 av r := by
  obtain ⟨ty, rfl, hn⟩ := hn
  refine va_MetF (cc := bytes) (maxL := maxL) (ret := some ty) hy rfl ?_
  intro p e s m args below meth c s₁ B hml hv
  obtain ⟨rfl, hP, hK⟩ := hv
  have hlocks := B.notSynchronized
  rw [lg_entry_eq]
  refine k (p, l, e, _, s, m, av.toArray, below, meth, c, _) ⟨B.exec, B.bytes, hml, findClass_of_methodNamed B.named, rfl, hK⟩ rfl hP ?_ _ (lv_entry av hlen)
  intro pc ls v hd hv
  subst hv
  exact W.zret (free := fun _ => False) B.exec B.bytes B.returns hn (fun t ht hW => ⟨v, rfl, rfl, ht⟩) (fun q hq => by cases hq) hd
set_option maxHeartbeats 1000000 in
theorem cV.mkF {l : Launch} {y : MethodName} {bytes : ByteArray} {maxL : Nat} {rm : Room} {D : KD} {W0 : va_W} {av : List Value} {W1 : va_W} (hy : plainFor y = true) (hlen : (lg_sl av).length ≤ maxL)
    (k : ∀ (X : CX) (A : Nat → Prop), Ok X bytes y.cls maxL rm D → cxL X = l → (∀ q : Nat, (cxS X).heap.size ≤ q → A q) → Wd X D A W0 (cxS X).heap [] → (∀ (pc : Nat) (ls : Array Slot) (H : Heap) (locs : List Loc), decode bytes pc = .ok (.return_, 1) → Wd X D A W1 H locs → Wx X 0 0 H locs pc ls []) → ∀ ls : Array Slot, lv_has ls maxL (lv_args 0 av) → Wx X 0 0 (cxS X).heap [] 0 ls []) : cV l y bytes maxL rm D W0 av W1 := by
  intro sz
  refine va_MetF (cc := bytes) (maxL := maxL) (ret := none) hy rfl ?_
  intro p e s m args below meth c s₁ B hml hv
  obtain ⟨rfl, hsz, hP, hK, hD0⟩ := hv
  have hlocks := B.notSynchronized
  subst hsz
  rw [lg_entry_eq]
  refine k (p, l, e, _, s, m, av.toArray, below, meth, c, _) (va_A W0 s.heap.size) ⟨B.exec, B.bytes, hml, findClass_of_methodNamed B.named, rfl, hK⟩ rfl (fun q h => Or.inr h) ⟨hP, hD0.self, va_S.rf⟩ ?_ _ (lv_entry av hlen)
  intro pc ls H locs hd hW
  exact W.vret (free := va_A W0 s.heap.size) B.exec B.bytes B.returns (fun t ht hWm => ⟨⟨(), rfl, trivial, by rw [ht]; exact hW.1, hW.2.1⟩, hW.2.2.F ht⟩) hW.2.2.2.2 hd
section XL
variable {X : CX} {k n : Nat} {H : Heap} {locs : List Loc} {pc : Nat} {ls : Array Slot} {st : List Value} {cc : ByteArray} {own : String} {nL : Nat} {rm : Room} {D : KD} {lv : List (Nat × Value)} {ws : va_W}
theorem x_iushr (hx : Ok X cc own nL rm D) {x y v : Int32} (hd : decode cc pc = .ok (.iushr, 1)) (hv : (x.toUInt32 >>> (y.toUInt32 &&& Int32.toUInt32 31)).toInt32 = v) (kk : Wx X k n H locs (pc + 1) ls (.int v :: st)) : Wx X k n H locs pc ls (.int y :: .int x :: st) := lv_iushr hx.1 hx.2.1 hd hv kk
theorem x_lmul (hx : Ok X cc own nL rm D) {x y v : Int64} (hd : decode cc pc = .ok (.lmul, 1)) (hv : x * y = v) (kk : Wx X k n H locs (pc + 1) ls (.long v :: st)) : Wx X k n H locs pc ls (.long y :: .long x :: st) := lv_lmul hx.1 hx.2.1 hd (hv ▸ kk)
theorem x_ladd (hx : Ok X cc own nL rm D) {x y v : Int64} (hd : decode cc pc = .ok (.ladd, 1)) (hv : x + y = v) (kk : Wx X k n H locs (pc + 1) ls (.long v :: st)) : Wx X k n H locs pc ls (.long y :: .long x :: st) := lv_ladd hx.1 hx.2.1 hd (hv ▸ kk)
theorem x_land (hx : Ok X cc own nL rm D) {x y v : Int64} (hd : decode cc pc = .ok (.land, 1)) (hv : x &&& y = v) (kk : Wx X k n H locs (pc + 1) ls (.long v :: st)) : Wx X k n H locs pc ls (.long y :: .long x :: st) := lv_land hx.1 hx.2.1 hd (hv ▸ kk)
theorem x_lrem (hx : Ok X cc own nL rm D) {x y v : Int64} (hd : decode cc pc = .ok (.lrem, 1)) (hne : ¬ y = 0) (hv : x - x / y * y = v) (kk : Wx X k n H locs (pc + 1) ls (.long v :: st)) : Wx X k n H locs pc ls (.long y :: .long x :: st) := lv_lrem hx.1 hx.2.1 hd hne (hv ▸ kk)
theorem x_lcmp (hx : Ok X cc own nL rm D) {x y : Int64} (hd : decode cc pc = .ok (.lcmp, 1)) (kk : Wx X k n H locs (pc + 1) ls (.int (lg_cmp x y) :: st)) : Wx X k n H locs pc ls (.long y :: .long x :: st) := W.lcmp hx.1 hx.2.1 hd kk
theorem lgc {x y : Int64} : (lg_cmp x y < 0 ↔ x < y) ∧ (0 < lg_cmp x y ↔ y < x) := by
  unfold lg_cmp
  have h3 : ∀ a b : Int64, a > b ↔ b.toInt < a.toInt := fun a b => Int64.lt_iff_toInt_lt
  have h4 : ∀ a b : Int64, a < b ↔ a.toInt < b.toInt := fun a b => Int64.lt_iff_toInt_lt
  have h5 : ∀ a b : Int64, a = b ↔ a.toInt = b.toInt := fun a b => Int64.toInt_inj.symm
  simp only [h3, h4, h5]
  by_cases h1 : y.toInt < x.toInt
  · simp only [h1, if_true]
    exact ⟨⟨fun h => absurd h (by decide), fun h => by omega⟩, ⟨fun _ => trivial, fun _ => by decide⟩⟩
  · by_cases h2 : x.toInt = y.toInt
    · simp only [h2, Int.lt_irrefl, if_true, if_false]
      exact ⟨⟨fun h => absurd h (by decide), fun h => h.elim⟩, ⟨fun h => absurd h (by decide), fun h => h.elim⟩⟩
    · simp only [h1, h2, if_false]
      exact ⟨⟨fun h => by omega, fun _ => by decide⟩, ⟨fun h => absurd h (by decide), fun h => h.elim⟩⟩
theorem lI_lt {a b : Int} (ha : -9223372036854775808 ≤ a ∧ a < 9223372036854775808) (hb : -9223372036854775808 ≤ b ∧ b < 9223372036854775808) : lI a < lI b ↔ a < b := by
  rw [Int64.lt_iff_toInt_lt, lI_toInt ha, lI_toInt hb]
theorem x_lc_lt (hx : Ok X cc own nL rm D) {a b : Int} {off : Int} {tgt : Nat} (hd : decode cc pc = .ok (.ifCond .lt off, 3)) (ht : (pc : Int) + off = (tgt : Int)) (ha : -9223372036854775808 ≤ a ∧ a < 9223372036854775808) (hb : -9223372036854775808 ≤ b ∧ b < 9223372036854775808) (kt : a < b → Wx X k n H locs tgt ls st) (kf : b ≤ a → Wx X k n H locs (pc + 3) ls st) : Wx X k n H locs pc ls (.int (lg_cmp (lI a) (lI b)) :: st) :=
  lv_if_lt hx.1 hx.2.1 hd ht (fun h => kt ((lI_lt ha hb).mp (lgc.1.mp h))) (fun h => kf (by have := mt (lI_lt ha hb).mpr (mt lgc.1.mpr h); omega))
theorem x_lc_gt (hx : Ok X cc own nL rm D) {a b : Int} {off : Int} {tgt : Nat} (hd : decode cc pc = .ok (.ifCond .gt off, 3)) (ht : (pc : Int) + off = (tgt : Int)) (ha : -9223372036854775808 ≤ a ∧ a < 9223372036854775808) (hb : -9223372036854775808 ≤ b ∧ b < 9223372036854775808) (kt : b < a → Wx X k n H locs tgt ls st) (kf : a ≤ b → Wx X k n H locs (pc + 3) ls st) : Wx X k n H locs pc ls (.int (lg_cmp (lI a) (lI b)) :: st) :=
  lv_if_gt hx.1 hx.2.1 hd ht (fun h => kt ((lI_lt hb ha).mp (lgc.2.mp h))) (fun h => kf (by have := mt (lI_lt hb ha).mpr (mt lgc.2.mpr h); omega))
theorem x_tswOut (hx : Ok X cc own nL rm D) {dflt lo hi : Int} {offs : Array Int} {len : Nat} {z : Int} {tgt : Nat} (hd : decode cc pc = .ok (.tableswitch dflt lo hi offs, len)) (hz : -2147483648 ≤ z ∧ z < 2147483648) (h : z < lo ∨ hi < z) (ht : (pc : Int) + dflt = (tgt : Int)) (kk : Wx X k n H locs tgt ls st) : Wx X k n H locs pc ls (.int (iI z) :: st) :=
  lv_tableOut hx.1 hx.2.1 hd (by rw [iI_toInt hz]; exact h) ht kk
theorem x_tswIn (hx : Ok X cc own nL rm D) {dflt lo hi : Int} {offs : Array Int} {len : Nat} {i : Nat} {off : Int} {tgt : Nat} (hd : decode cc pc = .ok (.tableswitch dflt lo hi offs, len)) (hi0 : i < 2147483648) (h1 : ¬ (i : Int) < lo) (h2 : ¬ hi < (i : Int)) (ho : offs[((i : Int) - lo).toNat]? = some off) (ht : (pc : Int) + off = (tgt : Int)) (kk : Wx X k n H locs tgt ls st) : Wx X k n H locs pc ls (.int (nI i) :: st) := by
  have e : (nI i).toInt = (i : Int) := nI_toInt hi0
  exact lv_tableIn hx.1 hx.2.1 hd (by rw [e]; exact h1) (by rw [e]; exact h2) (by rw [e]; exact ho) ht kk
theorem x_ldcw (hx : Ok X cc own nL rm D) {ix : Nat} {v u : Int32} (hw : Cond.constant own ix v ∈ lw_tbl) (hv : v = u) (hd : decode cc pc = .ok (.ldc_w ix, 3)) (kk : Wx X k n H locs (pc + 3) ls (.int u :: st)) : Wx X k n H locs pc ls st := lv_ldcw hx.1 hx.2.1 hx.2.2.2.1 (hv ▸ hx.kk.w hw rfl) hd kk
end XL
theorem lN_and31 (a : Nat) : lN a &&& lN 2147483647 = lN (a % 2147483648) := by
  have h : lN a &&& lN 2147483647 = lN (a &&& 2147483647) := by
    apply Int64.toBitVec_inj.mp
    apply BitVec.eq_of_toNat_eq
    simp [lN, BitVec.toNat_ofNat, Nat.and_mod_two_pow (n := 64)]
  rw [h]
  congr 1
  exact Nat.and_two_pow_sub_one_eq_mod a 31
def filN (f g : Nat → Nat) (j : Nat) : Nat → Nat := fun k => if k < j then f k else g k
theorem filN_0 (f g : Nat → Nat) : filN f g 0 = g := by funext k; simp [filN]
theorem filN_up {f g : Nat → Nat} {j v : Nat} (hv : v = f j) (k : Nat) : va_up (filN f g j) j v k = filN f g (j + 1) k := by
  subst hv
  by_cases h : k = j
  · subst h; simp [va_up, filN]
  · have : (k < j + 1) ↔ (k < j) := by omega
    simp [va_up, filN, h, this]
theorem filN_in {f g : Nat → Nat} {j k : Nat} (h : k < j) : filN f g j k = f k := by simp [filN, h]
theorem filN_b {f g : Nat → Nat} {len b j : Nat} (hf : ∀ k, k < len → f k < b) (hg : ∀ k, k < len → g k < b) : ∀ k, k < len → filN f g j k < b := by
  intro k hk
  unfold filN
  split
  · exact hf k hk
  · exact hg k hk
theorem va_up_same {α : Type} (f : Nat → α) (j : Nat) (v : α) : va_up f j v j = v := by simp [va_up]

