/-! numbers and worlds for the walks -/
def lI : Int → Int64
  | .ofNat n => Int64.ofNat n
  | .negSucc n => Int64.ofInt (.negSucc n)
theorem lI_eq (z : Int) : lI z = Int64.ofInt z := by
  cases z with
  | ofNat n => exact (Int64.ofInt_eq_ofNat).symm
  | negSucc n => rfl
theorem lI_of {z : Int} (h : -2147483648 ≤ z ∧ z < 2147483648) : (iI z).toInt64 = lI z := by
  rw [iI_eq, lI_eq]
  apply Int64.toInt_inj.mp
  rw [Int32.toInt_toInt64, Int32.toInt_ofInt, Int64.toInt_ofInt]
  rw [Int.bmod_eq_of_le (by simpa using h.1) (by simpa using h.2)]
  rw [Int.bmod_eq_of_le (by simp; omega) (by simp; omega)]
theorem lI_toInt {z : Int} (h : -9223372036854775808 ≤ z ∧ z < 9223372036854775808) : (lI z).toInt = z := by
  rw [lI_eq, Int64.toInt_ofInt]
  exact Int.bmod_eq_of_le (by simpa using h.1) (by simpa using h.2)
theorem nI_tn {n : Nat} (h : n < 4294967296) : (nI n).toBitVec.toNat = n := pk_tn h
theorem nI_and (a b : Nat) : nI a &&& nI b = nI (a &&& b) := by
  apply Int32.toBitVec_inj.mp
  apply BitVec.eq_of_toNat_eq
  simp [nI, BitVec.toNat_ofNat, Nat.and_mod_two_pow]
theorem nI_or (a b : Nat) : nI a ||| nI b = nI (a ||| b) := by
  apply Int32.toBitVec_inj.mp
  apply BitVec.eq_of_toNat_eq
  simp [nI, BitVec.toNat_ofNat, Nat.or_mod_two_pow]
def bclr (a b : Nat) : Nat := a ^^^ (a &&& b)
theorem bclr_tb (a b i : Nat) : (bclr a b).testBit i = (a.testBit i && !b.testBit i) := by
  simp [bclr, Nat.testBit_xor, Nat.testBit_and]
  cases a.testBit i <;> cases b.testBit i <;> rfl
theorem nI_bclr (a b : Nat) : nI a &&& (nI b ^^^ iI (-1)) = nI (bclr a b) := by
  have e : (nI (bclr a b)) = nI a ^^^ (nI a &&& nI b) := by
    apply Int32.toBitVec_inj.mp
    apply BitVec.eq_of_toNat_eq
    simp [nI, BitVec.toNat_ofNat, bclr, Nat.xor_mod_two_pow, Nat.and_mod_two_pow]
  rw [e]
  apply Int32.toBitVec_inj.mp
  apply BitVec.eq_of_getLsbD_eq
  intro i hi
  have h1 : (iI (-1)).toBitVec.getLsbD i = true := by
    have : (iI (-1)).toBitVec = BitVec.allOnes 32 := by decide
    rw [this, BitVec.getLsbD_allOnes]; exact decide_eq_true hi
  simp only [Int32.toBitVec_and, Int32.toBitVec_xor, BitVec.getLsbD_and, BitVec.getLsbD_xor, h1]
  cases (nI a).toBitVec.getLsbD i <;> cases (nI b).toBitVec.getLsbD i <;> rfl
theorem sh_31 : ∀ n, n < 32 → ((nI n &&& 31).toBitVec.smod 32).toNat = n := by decide
theorem nI_shl {m a : Nat} (ha : a < 32) (h : m * 2 ^ a < 4294967296) : nI m <<< (nI a &&& 31) = nI (m * 2 ^ a) := pk_shlN _ a (sh_31 a ha) h
theorem nI_shl1 {a : Nat} (ha : a < 32) : nI 1 <<< (nI a &&& 31) = nI (2 ^ a) := by
  have h : 1 * 2 ^ a < 4294967296 := by
    have : 2 ^ a ≤ 2 ^ 31 := Nat.pow_le_pow_right (by decide) (by omega)
    omega
  have h2 := nI_shl (m := 1) ha h
  rwa [Nat.one_mul] at h2
theorem nI_shr {m a : Nat} (hm : m < 2147483648) (ha : a < 32) : nI m >>> (nI a &&& 31) = nI (m >>> a) := by
  rw [pk_shrN hm _ a (sh_31 a ha), Nat.shiftRight_eq_div_pow]
theorem nI_tb (m a : Nat) : nI (m >>> a) &&& nI 1 = nI (m.testBit a).toNat := by
  rw [nI_and]
  congr 1
  rw [Nat.testBit, Nat.and_comm]
  have : (1 &&& m >>> a) = 0 ∨ (1 &&& m >>> a) = 1 := by
    rw [Nat.one_and_eq_mod_two]; omega
  rcases this with h | h <;> simp [h]
theorem nI_max {a b : Nat} (ha : a < 2147483648) (hb : b < 2147483648) : (if nI a < nI b then nI b else nI a) = nI (max a b) := by
  by_cases h : a < b
  · rw [if_pos ((nI_ltI ha hb).mpr h)]; congr 1; omega
  · rw [if_neg (mt (nI_ltI ha hb).mp h)]; congr 1; omega
theorem nI_min {a b : Nat} (ha : a < 2147483648) (hb : b < 2147483648) : (if nI b < nI a then nI b else nI a) = nI (min a b) := by
  by_cases h : b < a
  · rw [if_pos ((nI_ltI hb ha).mpr h)]; congr 1; omega
  · rw [if_neg (mt (nI_ltI hb ha).mp h)]; congr 1; omega
theorem nI_i2c {n : Nat} (h : n < 65536) : ((nI n).toUInt32 % 65536).toInt32 = nI n := by
  rw [pk_char, nI_tn (by omega), Nat.mod_eq_of_lt h]
theorem retT {P : Prop} (i : Decidable P) (h : P) : nI 1 = nI (@decide P i).toNat := by simp [h]
theorem retF {P : Prop} (i : Decidable P) (h : ¬ P) : nI 0 = nI (@decide P i).toNat := by simp [h]
theorem bnd_up {g : Nat → Nat} {len b j v : Nat} (h : ∀ k, k < len → g k < b) (hv : v < b) : ∀ k, k < len → va_up g j v k < b := by
  intro k hk
  by_cases e : k = j
  · simp [va_up, e, hv]
  · simp [va_up, e]; exact h k hk
theorem cE {α : Type} {a b : α} {l m : List α} (h : a = b) (t : l = m) : a :: l = b :: m := by rw [h, t]
theorem lv_to {ls : Array Slot} {nL : Nat} {l l2 : List (Nat × Value)} (h : lv_has ls nL l) (e : l = l2) : lv_has ls nL l2 := e ▸ h
theorem Wd.conv {X : CX} {D : KD} {A : Nat → Prop} {ws w1 w2 : va_W} {H : Heap} {locs : List Loc} (hW : Wd X D A ws H locs) (is : List Nat) (hs : is.map (fun i => ws[i]?) = w1.map some) (hn : va_nd is = true) (he : w1 = w2) : Wd X D A w2 H locs := by
  subst he
  exact ⟨hW.1.sub is (sub_of hs), hW.2.1.sub is hn hs, hW.2.2⟩
theorem arrV_congr {c : ClassId} {N : Nat} {f g : Nat → Value} (h : ∀ j, j < N → f j = g j) : arrV c N f = arrV c N g := by
  have e : (fun j : Fin N => f j.val) = fun j : Fin N => g j.val := by
    funext j; exact h j.val j.isLt
  simp only [arrV, e]
/-- only what lies within a row counts -/
theorem Wd.row {X : CX} {D : KD} {A : Nat → Prop} {ws ws' : va_W} {H : Heap} {locs : List Loc} (hW : Wd X D A ws H locs) (q0 : Nat) {a len : Nat} {c : ClassId} {f f' : Nat → Int32} (he : ws[q0]? = some (a, .inl (c, len, .inl f))) (hf : ∀ j, j < len → f j = f' j) (hws : ws.set q0 (a, .inl (c, len, .inl f')) = ws') : Wd X D A ws' H locs := by
  obtain ⟨hP, hD, hS⟩ := hW
  have hlt : q0 < ws.length := (List.getElem?_eq_some_iff.mp he).1
  subst hws
  refine ⟨fun k q hk => ?_, ⟨fun i j p q hi hj hpq => ?_, fun k q hk => ?_⟩, hS⟩
  · by_cases e : k = q0
    · subst e
      rw [List.getElem?_set_self hlt] at hk
      cases hk
      have h1 := hP k _ he
      have h2 : vp_cell c (len, .inl f) = vp_cell c (len, .inl f') := by
        rw [vp_cell_i, vp_cell_i]
        exact arrV_congr (fun j hj => by rw [hf j hj])
      show H[a]? = some (vp_cell c (len, .inl f'))
      rw [← h2]; exact h1
    · rw [List.getElem?_set_ne (Ne.symm e)] at hk
      exact hP k q hk
  · have key : ∀ (i : Nat) (p : Nat × va_E), (ws.set q0 (a, .inl (c, len, .inl f')))[i]? = some p → ∃ p0, ws[i]? = some p0 ∧ p0.1 = p.1 := by
      intro i p hp
      by_cases e : i = q0
      · subst e
        rw [List.getElem?_set_self hlt] at hp
        cases hp
        exact ⟨_, he, rfl⟩
      · rw [List.getElem?_set_ne (Ne.symm e)] at hp
        exact ⟨p, hp, rfl⟩
    obtain ⟨p0, h1, e1⟩ := key i p hi
    obtain ⟨q1, h2, e2⟩ := key j q hj
    exact hD.1 i j p0 q1 h1 h2 (by rw [e1, e2, hpq])
  · by_cases e : k = q0
    · subst e
      rw [List.getElem?_set_self hlt] at hk
      cases hk
      exact hD.2 k (a, .inl (c, len, .inl f)) he
    · rw [List.getElem?_set_ne (Ne.symm e)] at hk
      exact hD.2 k q hk
section XJ
variable {X : CX} {k n : Nat} {H : Heap} {locs : List Loc} {pc : Nat} {ls : Array Slot} {st : List Value} {cc : ByteArray} {own : String} {nL : Nat} {rm : Room} {D : KD} {lv : List (Nat × Value)} {ws : va_W}
theorem x_i2c (hx : Ok X cc own nL rm D) {x v : Int32} (hd : decode cc pc = .ok (.i2c, 1)) (hv : (x.toUInt32 % 65536).toInt32 = v) (kk : Wx X k n H locs (pc + 1) ls (.int v :: st)) : Wx X k n H locs pc ls (.int x :: st) := lv_i2c hx.1 hx.2.1 hd hv kk
theorem x_icmp_eq_B1 (hx : Ok X cc own nL rm D) {b : Bool} {off : Int} {tgt : Nat} (hd : decode cc pc = .ok (.if_icmp .eq off, 3)) (ht : (pc : Int) + off = (tgt : Int)) (kt : b = true → Wx X k n H locs tgt ls st) (kf : b = false → Wx X k n H locs (pc + 3) ls st) : Wx X k n H locs pc ls (.int (nI 1) :: .int (nI b.toNat) :: st) :=
  x_icmp_eq_I hx hd ht (fun h => kt (by cases b <;> first | rfl | exact absurd h (by decide))) (fun h => kf (by cases b <;> first | rfl | exact absurd rfl h))
theorem x_icmp_ne_B1 (hx : Ok X cc own nL rm D) {b : Bool} {off : Int} {tgt : Nat} (hd : decode cc pc = .ok (.if_icmp .ne off, 3)) (ht : (pc : Int) + off = (tgt : Int)) (kt : b = false → Wx X k n H locs tgt ls st) (kf : b = true → Wx X k n H locs (pc + 3) ls st) : Wx X k n H locs pc ls (.int (nI 1) :: .int (nI b.toNat) :: st) :=
  x_icmp_ne_I hx hd ht (fun h => kt (by cases b <;> first | rfl | exact absurd rfl h)) (fun h => kf (by cases b <;> first | rfl | exact absurd h (by decide)))
theorem x_icmp_ne_BB (hx : Ok X cc own nL rm D) {a b : Bool} {off : Int} {tgt : Nat} (hd : decode cc pc = .ok (.if_icmp .ne off, 3)) (ht : (pc : Int) + off = (tgt : Int)) (kt : a ≠ b → Wx X k n H locs tgt ls st) (kf : a = b → Wx X k n H locs (pc + 3) ls st) : Wx X k n H locs pc ls (.int (nI b.toNat) :: .int (nI a.toNat) :: st) :=
  x_icmp_ne_I hx hd ht (fun h => kt (by rintro rfl; exact h rfl)) (fun h => kf (by cases a <;> cases b <;> first | rfl | exact absurd h (by decide)))
theorem x_icmp_eq_BB (hx : Ok X cc own nL rm D) {a b : Bool} {off : Int} {tgt : Nat} (hd : decode cc pc = .ok (.if_icmp .eq off, 3)) (ht : (pc : Int) + off = (tgt : Int)) (kt : a = b → Wx X k n H locs tgt ls st) (kf : a ≠ b → Wx X k n H locs (pc + 3) ls st) : Wx X k n H locs pc ls (.int (nI b.toNat) :: .int (nI a.toNat) :: st) :=
  x_icmp_eq_I hx hd ht (fun h => kt (by cases a <;> cases b <;> first | rfl | exact absurd h (by decide))) (fun h => kf (by rintro rfl; exact h rfl))
theorem wMaxC : Cond.code Lib.Math.max.name Lib.Math.max.code 2 (some .int) ∈ lw_tbl := wC_yJ9_max_7cf53
theorem wMinC : Cond.code Lib.Math.min.name Lib.Math.min.code 2 (some .int) ∈ lw_tbl := wC_yJ9_min_7cf53
theorem wMaxS : Cond.static Lib.Math.max.name ∈ lw_tbl := wS_yJ9_max_7cf53
theorem wMinS : Cond.static Lib.Math.min.name ∈ lw_tbl := wS_yJ9_min_7cf53
theorem x_mmax (hx : Ok X cc own nL rm D) {ix : Nat} {x y v : Int32} (hw : Cond.methodLink own ix Lib.Math.max.name ∈ lw_tbl) (hf : 1 ≤ rm.frames) (hlo : (st.map fun v => v.category).sum + 13 ≤ rm.locals) (hkn : k ≤ rm.cells ∧ n ≤ rm.slots) (hl : lv_has ls nL lv) (hv : (if x < y then y else x) = v) (hd : decode cc pc = .ok (.invokestatic ix, 3)) (kk : Wx X k n H locs (pc + 3) ls (.int v :: st)) : Wx X k n H locs pc ls (.int y :: .int x :: st) := by
  have e : X.2.2.2.1 = rm := hx.2.2.2.2.1
  exact va_mmax hx.1 hx.2.1 (hx.2.2.1.trans hl.1.symm) hx.2.2.2.1 (hx.kk.w hw rfl) (hx.kk.w wMaxS rfl) (hx.kk.w wi_java_lang_Math rfl) (hx.kk.w wMaxC rfl) (by rw [e]; exact hf) (by rw [e]; exact hlo) (by rw [e]; exact hkn.1) (by rw [e]; exact hkn.2) hd (hv ▸ kk)
theorem x_mmin (hx : Ok X cc own nL rm D) {ix : Nat} {x y v : Int32} (hw : Cond.methodLink own ix Lib.Math.min.name ∈ lw_tbl) (hf : 1 ≤ rm.frames) (hlo : (st.map fun v => v.category).sum + 13 ≤ rm.locals) (hkn : k ≤ rm.cells ∧ n ≤ rm.slots) (hl : lv_has ls nL lv) (hv : (if y < x then y else x) = v) (hd : decode cc pc = .ok (.invokestatic ix, 3)) (kk : Wx X k n H locs (pc + 3) ls (.int v :: st)) : Wx X k n H locs pc ls (.int y :: .int x :: st) := by
  have e : X.2.2.2.1 = rm := hx.2.2.2.2.1
  exact va_mmin hx.1 hx.2.1 (hx.2.2.1.trans hl.1.symm) hx.2.2.2.1 (hx.kk.w hw rfl) (hx.kk.w wMinS rfl) (hx.kk.w wi_java_lang_Math rfl) (hx.kk.w wMinC rfl) (by rw [e]; exact hf) (by rw [e]; exact hlo) (by rw [e]; exact hkn.1) (by rw [e]; exact hkn.2) hd (hv ▸ kk)
/-- System.arraycopy of a whole row of ints into one of the same length -/
theorem x_copy (hx : Ok X cc own nL rm D) {ix : Nat} (hw : Cond.methodLink own ix arraycopyName ∈ lw_tbl) {A : Nat → Prop} (hW : Wd X D A ws H locs) {a0 a1 len : Nat} {f g : Nat → Int32} (q0 q1 : Nat) (h0 : ws[q0]? = some (a0, .inl (D.2.1, len, .inl f))) (h1 : ws[q1]? = some (a1, .inl (D.2.1, len, .inl g))) (hf : 1 ≤ rm.frames) (hlo : (st.map fun v => v.category).sum + (nativeFrameWords "java/lang/System" "arraycopy" 5 + 11) ≤ rm.locals) (hl : lv_has ls nL lv) (hlen : len < 2147483648) (hd : decode cc pc = .ok (.invokestatic ix, 3)) (ws' : va_W) (hws : ws.set q1 (a1, .inl (D.2.1, len, .inl f)) = ws') (kk : ∀ (H : Heap) (locs : List Loc), Wd X D A ws' H locs → Wx X k n H locs (pc + 3) ls st) : Wx X k n H locs pc ls (.int (nI len) :: .int (nI 0) :: .ref a1 :: .int (nI 0) :: .ref a0 :: st) := by
  have e : X.2.2.2.1 = rm := hx.2.2.2.2.1
  have z : (nI 0).toNatClampNeg = 0 := rfl
  have zl : (nI len).toNatClampNeg = len := nI_clamp hlen
  have hlt : q1 < ws.length := (List.getElem?_eq_some_iff.mp h1).1
  refine va_copyi (ty := .int) hx.1 hx.2.1 (hx.2.2.1.trans hl.1.symm) hx.2.2.2.1 (hx.kk.w hw rfl) (hx.kk.w wN_java_lang_System_arraycopy rfl) (hx.kk.w wS_java_lang_System_arraycopy rfl) (hx.kk.w wi_java_lang_System rfl) hx.kk.1 hW.1 hW.2.1 hW.2.2 q0 q1 0 0 h0 h1 rfl rfl rfl (by decide) (by decide) (nI_pos hlen) (by rw [z, zl]; omega) (by rw [z, zl]; omega) (fun i _ => rfl) (by rw [e]; exact hf) (by rw [e]; exact hlo) hd (fun H1 l1 g1 g2 g3 => kk H1 l1 ?_)
  refine Wd.row (ws := ws.set q1 (a1, .inl (D.2.1, len, .inl (va_cpy f g (nI 0).toNatClampNeg (nI 0).toNatClampNeg (nI len).toNatClampNeg)))) ⟨g1, g2, g3⟩ q1 (List.getElem?_set_self hlt) (f' := f) (fun j hj => ?_) (by rw [List.set_set]; exact hws)
  rw [z, zl, pk_cpy_in (Nat.zero_le _) (by omega)]
  simp
end XJ
