/-! the law's cases, one by one -/
abbrev lw_lv (bS a0 b0 i : Nat) : List (Nat × Value) := [(3, .int (nI i)), (2, .ref b0), (1, .ref a0), (0, .ref bS)]
def SF (X : CX) (A : Nat → Prop) (bS L : Nat) (xs : Nat → Int32) : Prop := va_X bS L xs (cxS X) (cxS X).heap ∧ bS < (cxS X).heap.size ∧ ¬ A bS ∧ L ≤ 256
theorem Inv2.hc {D : KD} {a b : Nat → Nat} {jj : Nat} {wc wm : va_W} (h : Inv2 D a b jj wc wm) : ∃ fs, wc[0]? = some (a 0, .inr (7, fs)) := by
  refine h _ (fun _ _ _ _ _ _ _ _ _ _ _ _ _ _ _ _ _ _ _ _ _ _ _ _ _ _ _ _ _ _ _ _ _ _ _ _ _ _ _ _ _ _ _ _ _ _ _ _ _ _ _ _ _ _ _ _ _ _ _ _ _ _ _ _ _ _ _ _ _ _ _ _ _ _ _ _ _ _ _ _ _ _ _ _ _ _ _ _ _ _ _ _ hwc _ _ _ _ _ _ _ _ => ?_)
  rw [hwc]; exact ⟨_, rfl⟩
theorem Inv2.hm {D : KD} {a b : Nat → Nat} {jj : Nat} {wc wm : va_W} (h : Inv2 D a b jj wc wm) : ∃ fs, wm[0]? = some (b 0, .inr (8, fs)) := by
  refine h _ (fun _ _ _ _ _ _ _ _ _ _ _ _ _ _ _ _ _ _ _ _ _ _ _ _ _ _ _ _ _ _ _ _ _ _ _ _ _ _ _ _ _ _ _ _ _ _ _ _ _ _ _ _ _ _ _ _ _ _ _ _ _ _ _ _ _ _ _ _ _ _ _ _ _ _ _ _ _ _ _ _ _ _ _ _ _ _ _ _ _ _ _ _ _ hwm _ _ _ _ _ _ _ => ?_)
  rw [hwm]; exact ⟨_, rfl⟩
section LW
variable {X : CX} {k n : Nat} {H : Heap} {locs : List Loc} {pc : Nat} {ls : Array Slot} {st : List Value} {cc : ByteArray} {own : String} {nL : Nat} {rm : Room} {D : KD} {A : Nat → Prop} {bS L : Nat} {xs : Nat → Int32} {ws : va_W}
theorem x_sld (hx : Ok X cc own nL rm D) (hF : SF X A bS L xs) (hW : Wd X D A ws H locs) {i : Nat} (hi : i < L) (hd : decode cc pc = .ok (.iaload, 1)) (kk : Wx X k n H locs (pc + 1) ls (.int (iI (xs i).toInt) :: st)) : Wx X k n H locs pc ls (.int (nI i) :: .ref bS :: st) := by
  have h6 := hF.2.2.2
  have e : (nI i).toNatClampNeg = i := nI_clamp (by omega)
  refine va_sld hx.1 hx.2.1 hF.1 hF.2.1 hF.2.2.1 hW.2.2 (vp_in_nI hi (by omega)) hd ?_
  rw [e, iI_of (xs i)]; exact kk
theorem x_slen (hx : Ok X cc own nL rm D) (hF : SF X A bS L xs) (hW : Wd X D A ws H locs) (hd : decode cc pc = .ok (.arraylength, 1)) (kk : Wx X k n H locs (pc + 1) ls (.int (nI L) :: st)) : Wx X k n H locs pc ls (.ref bS :: st) :=
  va_slen hx.1 hx.2.1 hF.1 hF.2.1 hF.2.2.1 hW.2.2 hd kk
theorem lw_arg (hx : Ok X cc own nL rm D) (hF : SF X A bS L xs) (hW : Wd X D A ws H locs) {a0 b0 i c : Nat} (hl : lv_has ls nL (lw_lv bS a0 b0 i)) (hi : i + c < L) (d0 : decode cc pc = .ok (.aload_n 0, 1)) (d1 : decode cc (pc + 1) = .ok (.iload_n 3, 1)) (d2 : decode cc (pc + 2) = .ok (.iconst (c : Int), 1)) (d3 : decode cc (pc + 3) = .ok (.iadd, 1)) (d4 : decode cc (pc + 4) = .ok (.iaload, 1)) (kk : Wx X k n H locs (pc + 5) ls (.int (iI (xs (i + c)).toInt) :: st)) : Wx X k n H locs pc ls st := by
  refine x_aload_n hx d0 hl 3 rfl ?_
  refine x_iload_n hx d1 hl 0 rfl ?_
  refine x_iconst (v := nI c) hx d2 (by rw [nI_iI, iI_eq]) ?_
  refine x_iadd (v := nI (i + c)) hx d3 (nI_add i c) ?_
  exact x_sld hx hF hW hi d4 kk
theorem lw_bool (hx : Ok X cc own nL rm D) {z : Int} (hz : -2147483648 ≤ z ∧ z < 2147483648) (d0 : decode cc pc = .ok (.ifCond .eq 7, 3)) (d1 : decode cc (pc + 3) = .ok (.iconst 1, 1)) (d2 : decode cc (pc + 4) = .ok (.goto 4, 3)) (d3 : decode cc (pc + 7) = .ok (.iconst 0, 1)) (kk : Wx X k n H locs (pc + 8) ls (.int (nI (decide (z ≠ 0)).toNat) :: st)) : Wx X k n H locs pc ls (.int (iI z) :: st) := by
  refine x_if_eq_Z (tgt := pc + 7) hx d0 (by omega) hz (fun h => ?_) (fun h => ?_)
  · refine x_iconst (v := nI 0) hx d3 rfl ?_
    have e : (decide (z ≠ 0)).toNat = 0 := by rw [h]; rfl
    rw [e] at kk; exact kk
  · refine x_iconst (v := nI 1) hx d1 rfl ?_
    refine x_goto (tgt := pc + 8) hx d2 (by omega) ?_
    have e : (decide (z ≠ 0)).toNat = 1 := by rw [decide_eq_true h]; rfl
    rw [e] at kk; exact kk
end LW
theorem lw_k_feed {X : CX} {k n : Nat} {H : Heap} {locs : List Loc} {ls : Array Slot} {D : KD} {A : Nat → Prop} {bS L : Nat} {xs : Nat → Int32} {a b : Nat → Nat} {wc wm : va_W} {jj : Nat} (hx : Ok X cL_law "CubeDaysLaw" 4 room_1 D) (hF : SF X A bS L xs) (hA : ∀ q : Nat, (cxS X).heap.size ≤ q → A q) (hj : jj < 64) (hi : 4 * jj + 3 < L) (hI2 : Inv2 D a b jj wc wm) (hW : Wd X D A (wc ++ wm) H locs) (hl : lv_has ls 4 (lw_lv bS (a 0) (b 0) (4 * jj))) (hkn : k ≤ room_1.cells ∧ n ≤ room_1.slots) (kk : ∀ (wc wm : va_W) (H : Heap) (locs : List Loc), Inv2 D a b (jj + 1) wc wm → Wd X D A (wc ++ wm) H locs → Wx X k n H locs 981 ls []) : Wx X k n H locs 180 ls [] := by
  obtain ⟨r, P, Q, hP, hQ, hN⟩ := st_feed (cxL X) hj hI2 _ (iI_rng (xs (4 * jj + 1)))
  obtain ⟨fs, hc⟩ := hI2.hc
  obtain ⟨fs2, hm⟩ := hI2.hm
  refine x_aload_n hx dL_law_180 hl 2 rfl ?_
  refine lw_arg (c := 1) hx hF hW hl (by omega) dL_law_181 dL_law_182 dL_law_183 dL_law_184 dL_law_185 ?_
  refine x_callU (rest := []) (w1 := wc) (w2 := wm) hx yv_X7_feed hP wm_RL_13 hA hW hc rfl ⟨rfl, rfl⟩ ⟨by decide, by decide⟩ hkn hl rfl rfl (by decide) dL_law_186 (fun w H locs hP9 hW => ?_)
  refine x_aload_n hx dL_law_189 hl 1 rfl ?_
  refine lw_arg (c := 1) hx hF hW hl (by omega) dL_law_190 dL_law_191 dL_law_192 dL_law_193 dL_law_194 ?_
  refine x_callU (rest := [.int r]) (w1 := wm) (w2 := w) hx yv_X8_feed hQ wm_RL_17 hA hW hm rfl ⟨rfl, rfl⟩ ⟨by decide, by decide⟩ hkn hl rfl rfl (Nat.le_of_ble_eq_true rfl) dL_law_195 (fun w2 H locs hQ9 hW => ?_)
  exact x_icmp_eq_I (tgt := 981) hx dL_law_198 rfl (fun _ => kk w w2 H locs (hN w w2 hP9 hQ9) hW) (fun h => absurd rfl h)
theorem lw_k_desk {X : CX} {k n : Nat} {H : Heap} {locs : List Loc} {ls : Array Slot} {D : KD} {A : Nat → Prop} {bS L : Nat} {xs : Nat → Int32} {a b : Nat → Nat} {wc wm : va_W} {jj : Nat} (hx : Ok X cL_law "CubeDaysLaw" 4 room_1 D) (hF : SF X A bS L xs) (hA : ∀ q : Nat, (cxS X).heap.size ≤ q → A q) (hj : jj < 64) (hi : 4 * jj + 3 < L) (hI2 : Inv2 D a b jj wc wm) (hW : Wd X D A (wc ++ wm) H locs) (hl : lv_has ls 4 (lw_lv bS (a 0) (b 0) (4 * jj))) (hkn : k ≤ room_1.cells ∧ n ≤ room_1.slots) (kk : ∀ (wc wm : va_W) (H : Heap) (locs : List Loc), Inv2 D a b (jj + 1) wc wm → Wd X D A (wc ++ wm) H locs → Wx X k n H locs 981 ls []) : Wx X k n H locs 203 ls [] := by
  obtain ⟨r, P, Q, hP, hQ, hN⟩ := st_desk (cxL X) hj hI2  
  obtain ⟨fs, hc⟩ := hI2.hc
  obtain ⟨fs2, hm⟩ := hI2.hm
  refine x_aload_n hx dL_law_203 hl 2 rfl ?_
  refine x_callU (rest := []) (w1 := wc) (w2 := wm) hx yv_X7_desk hP wm_RL_18 hA hW hc rfl ⟨rfl, rfl⟩ ⟨by decide, by decide⟩ hkn hl rfl rfl (by decide) dL_law_204 (fun w H locs hP9 hW => ?_)
  refine x_aload_n hx dL_law_207 hl 1 rfl ?_
  refine x_callU (rest := [.int r]) (w1 := wm) (w2 := w) hx yv_X8_desk hQ wm_RL_22 hA hW hm rfl ⟨rfl, rfl⟩ ⟨by decide, by decide⟩ hkn hl rfl rfl (Nat.le_of_ble_eq_true rfl) dL_law_208 (fun w2 H locs hQ9 hW => ?_)
  exact x_icmp_eq_I (tgt := 981) hx dL_law_211 rfl (fun _ => kk w w2 H locs (hN w w2 hP9 hQ9) hW) (fun h => absurd rfl h)
theorem lw_k_fault {X : CX} {k n : Nat} {H : Heap} {locs : List Loc} {ls : Array Slot} {D : KD} {A : Nat → Prop} {bS L : Nat} {xs : Nat → Int32} {a b : Nat → Nat} {wc wm : va_W} {jj : Nat} (hx : Ok X cL_law "CubeDaysLaw" 4 room_1 D) (hF : SF X A bS L xs) (hA : ∀ q : Nat, (cxS X).heap.size ≤ q → A q) (hj : jj < 64) (hi : 4 * jj + 3 < L) (hI2 : Inv2 D a b jj wc wm) (hW : Wd X D A (wc ++ wm) H locs) (hl : lv_has ls 4 (lw_lv bS (a 0) (b 0) (4 * jj))) (hkn : k ≤ room_1.cells ∧ n ≤ room_1.slots) (kk : ∀ (wc wm : va_W) (H : Heap) (locs : List Loc), Inv2 D a b (jj + 1) wc wm → Wd X D A (wc ++ wm) H locs → Wx X k n H locs 981 ls []) : Wx X k n H locs 216 ls [] := by
  obtain ⟨r, P, Q, hP, hQ, hN⟩ := st_fault (cxL X) hj hI2  
  obtain ⟨fs, hc⟩ := hI2.hc
  obtain ⟨fs2, hm⟩ := hI2.hm
  refine x_aload_n hx dL_law_216 hl 2 rfl ?_
  refine x_callU (rest := []) (w1 := wc) (w2 := wm) hx yv_X7_fault hP wm_RL_23 hA hW hc rfl ⟨rfl, rfl⟩ ⟨by decide, by decide⟩ hkn hl rfl rfl (by decide) dL_law_217 (fun w H locs hP9 hW => ?_)
  refine x_aload_n hx dL_law_220 hl 1 rfl ?_
  refine x_callU (rest := [.int r]) (w1 := wm) (w2 := w) hx yv_X8_fault hQ wm_RL_26 hA hW hm rfl ⟨rfl, rfl⟩ ⟨by decide, by decide⟩ hkn hl rfl rfl (Nat.le_of_ble_eq_true rfl) dL_law_221 (fun w2 H locs hQ9 hW => ?_)
  exact x_icmp_eq_I (tgt := 981) hx dL_law_224 rfl (fun _ => kk w w2 H locs (hN w w2 hP9 hQ9) hW) (fun h => absurd rfl h)
theorem lw_k_told {X : CX} {k n : Nat} {H : Heap} {locs : List Loc} {ls : Array Slot} {D : KD} {A : Nat → Prop} {bS L : Nat} {xs : Nat → Int32} {a b : Nat → Nat} {wc wm : va_W} {jj : Nat} (hx : Ok X cL_law "CubeDaysLaw" 4 room_1 D) (hF : SF X A bS L xs) (hA : ∀ q : Nat, (cxS X).heap.size ≤ q → A q) (hj : jj < 64) (hi : 4 * jj + 3 < L) (hI2 : Inv2 D a b jj wc wm) (hW : Wd X D A (wc ++ wm) H locs) (hl : lv_has ls 4 (lw_lv bS (a 0) (b 0) (4 * jj))) (hkn : k ≤ room_1.cells ∧ n ≤ room_1.slots) (kk : ∀ (wc wm : va_W) (H : Heap) (locs : List Loc), Inv2 D a b (jj + 1) wc wm → Wd X D A (wc ++ wm) H locs → Wx X k n H locs 981 ls []) : Wx X k n H locs 229 ls [] := by
  obtain ⟨r, P, Q, hP, hQ, hN⟩ := st_told (cxL X) hj hI2 _ (iI_rng (xs (4 * jj + 1)))
  obtain ⟨fs, hc⟩ := hI2.hc
  obtain ⟨fs2, hm⟩ := hI2.hm
  refine x_aload_n hx dL_law_229 hl 2 rfl ?_
  refine lw_arg (c := 1) hx hF hW hl (by omega) dL_law_230 dL_law_231 dL_law_232 dL_law_233 dL_law_234 ?_
  refine x_callU (rest := []) (w1 := wc) (w2 := wm) hx yv_X7_told hP wm_RL_27 hA hW hc rfl ⟨rfl, rfl⟩ ⟨by decide, by decide⟩ hkn hl rfl rfl (by decide) dL_law_235 (fun w H locs hP9 hW => ?_)
  refine x_aload_n hx dL_law_238 hl 1 rfl ?_
  refine lw_arg (c := 1) hx hF hW hl (by omega) dL_law_239 dL_law_240 dL_law_241 dL_law_242 dL_law_243 ?_
  refine x_callU (rest := [.int r]) (w1 := wm) (w2 := w) hx yv_X8_told hQ wm_RL_30 hA hW hm rfl ⟨rfl, rfl⟩ ⟨by decide, by decide⟩ hkn hl rfl rfl (Nat.le_of_ble_eq_true rfl) dL_law_244 (fun w2 H locs hQ9 hW => ?_)
  exact x_icmp_eq_I (tgt := 981) hx dL_law_247 rfl (fun _ => kk w w2 H locs (hN w w2 hP9 hQ9) hW) (fun h => absurd rfl h)
theorem lw_k_side {X : CX} {k n : Nat} {H : Heap} {locs : List Loc} {ls : Array Slot} {D : KD} {A : Nat → Prop} {bS L : Nat} {xs : Nat → Int32} {a b : Nat → Nat} {wc wm : va_W} {jj : Nat} (hx : Ok X cL_law "CubeDaysLaw" 4 room_1 D) (hF : SF X A bS L xs) (hA : ∀ q : Nat, (cxS X).heap.size ≤ q → A q) (hj : jj < 64) (hi : 4 * jj + 3 < L) (hI2 : Inv2 D a b jj wc wm) (hW : Wd X D A (wc ++ wm) H locs) (hl : lv_has ls 4 (lw_lv bS (a 0) (b 0) (4 * jj))) (hkn : k ≤ room_1.cells ∧ n ≤ room_1.slots) (kk : ∀ (wc wm : va_W) (H : Heap) (locs : List Loc), Inv2 D a b (jj + 1) wc wm → Wd X D A (wc ++ wm) H locs → Wx X k n H locs 981 ls []) : Wx X k n H locs 252 ls [] := by
  obtain ⟨r, P, Q, hP, hQ, hN⟩ := st_side (cxL X) hj hI2 _ _ (iI_rng (xs (4 * jj + 1))) (iI_rng (xs (4 * jj + 2)))
  obtain ⟨fs, hc⟩ := hI2.hc
  obtain ⟨fs2, hm⟩ := hI2.hm
  refine x_aload_n hx dL_law_252 hl 2 rfl ?_
  refine lw_arg (c := 1) hx hF hW hl (by omega) dL_law_253 dL_law_254 dL_law_255 dL_law_256 dL_law_257 ?_
  refine lw_arg (c := 2) hx hF hW hl (by omega) dL_law_258 dL_law_259 dL_law_260 dL_law_261 dL_law_262 ?_
  refine x_callU (rest := []) (w1 := wc) (w2 := wm) hx yv_X7_side hP wm_RL_31 hA hW hc rfl ⟨rfl, rfl⟩ ⟨by decide, by decide⟩ hkn hl rfl rfl (by decide) dL_law_263 (fun w H locs hP9 hW => ?_)
  refine x_aload_n hx dL_law_266 hl 1 rfl ?_
  refine lw_arg (c := 1) hx hF hW hl (by omega) dL_law_267 dL_law_268 dL_law_269 dL_law_270 dL_law_271 ?_
  refine lw_arg (c := 2) hx hF hW hl (by omega) dL_law_272 dL_law_273 dL_law_274 dL_law_275 dL_law_276 ?_
  refine x_callU (rest := [.int r]) (w1 := wm) (w2 := w) hx yv_X8_side hQ wm_RL_35 hA hW hm rfl ⟨rfl, rfl⟩ ⟨by decide, by decide⟩ hkn hl rfl rfl (Nat.le_of_ble_eq_true rfl) dL_law_277 (fun w2 H locs hQ9 hW => ?_)
  exact x_icmp_eq_I (tgt := 981) hx dL_law_280 rfl (fun _ => kk w w2 H locs (hN w w2 hP9 hQ9) hW) (fun h => absurd rfl h)
theorem lw_k_turned {X : CX} {k n : Nat} {H : Heap} {locs : List Loc} {ls : Array Slot} {D : KD} {A : Nat → Prop} {bS L : Nat} {xs : Nat → Int32} {a b : Nat → Nat} {wc wm : va_W} {jj : Nat} (hx : Ok X cL_law "CubeDaysLaw" 4 room_1 D) (hF : SF X A bS L xs) (hA : ∀ q : Nat, (cxS X).heap.size ≤ q → A q) (hj : jj < 64) (hi : 4 * jj + 3 < L) (hI2 : Inv2 D a b jj wc wm) (hW : Wd X D A (wc ++ wm) H locs) (hl : lv_has ls 4 (lw_lv bS (a 0) (b 0) (4 * jj))) (hkn : k ≤ room_1.cells ∧ n ≤ room_1.slots) (kk : ∀ (wc wm : va_W) (H : Heap) (locs : List Loc), Inv2 D a b (jj + 1) wc wm → Wd X D A (wc ++ wm) H locs → Wx X k n H locs 981 ls []) : Wx X k n H locs 285 ls [] := by
  obtain ⟨r, P, Q, hP, hQ, hN⟩ := st_turned (cxL X) hj hI2 _ (iI_rng (xs (4 * jj + 1)))
  obtain ⟨fs, hc⟩ := hI2.hc
  obtain ⟨fs2, hm⟩ := hI2.hm
  refine x_aload_n hx dL_law_285 hl 2 rfl ?_
  refine lw_arg (c := 1) hx hF hW hl (by omega) dL_law_286 dL_law_287 dL_law_288 dL_law_289 dL_law_290 ?_
  refine x_callU (rest := []) (w1 := wc) (w2 := wm) hx yv_X7_turned hP wm_RL_36 hA hW hc rfl ⟨rfl, rfl⟩ ⟨by decide, by decide⟩ hkn hl rfl rfl (by decide) dL_law_291 (fun w H locs hP9 hW => ?_)
  refine x_aload_n hx dL_law_294 hl 1 rfl ?_
  refine lw_arg (c := 1) hx hF hW hl (by omega) dL_law_295 dL_law_296 dL_law_297 dL_law_298 dL_law_299 ?_
  refine x_callU (rest := [.int r]) (w1 := wm) (w2 := w) hx yv_X8_turned hQ wm_RL_39 hA hW hm rfl ⟨rfl, rfl⟩ ⟨by decide, by decide⟩ hkn hl rfl rfl (Nat.le_of_ble_eq_true rfl) dL_law_300 (fun w2 H locs hQ9 hW => ?_)
  exact x_icmp_eq_I (tgt := 981) hx dL_law_303 rfl (fun _ => kk w w2 H locs (hN w w2 hP9 hQ9) hW) (fun h => absurd rfl h)
theorem lw_k_shows {X : CX} {k n : Nat} {H : Heap} {locs : List Loc} {ls : Array Slot} {D : KD} {A : Nat → Prop} {bS L : Nat} {xs : Nat → Int32} {a b : Nat → Nat} {wc wm : va_W} {jj : Nat} (hx : Ok X cL_law "CubeDaysLaw" 4 room_1 D) (hF : SF X A bS L xs) (hA : ∀ q : Nat, (cxS X).heap.size ≤ q → A q) (hj : jj < 64) (hi : 4 * jj + 3 < L) (hI2 : Inv2 D a b jj wc wm) (hW : Wd X D A (wc ++ wm) H locs) (hl : lv_has ls 4 (lw_lv bS (a 0) (b 0) (4 * jj))) (hkn : k ≤ room_1.cells ∧ n ≤ room_1.slots) (kk : ∀ (wc wm : va_W) (H : Heap) (locs : List Loc), Inv2 D a b (jj + 1) wc wm → Wd X D A (wc ++ wm) H locs → Wx X k n H locs 981 ls []) : Wx X k n H locs 308 ls [] := by
  obtain ⟨r, P, Q, hP, hQ, hN⟩ := st_shows (cxL X) hj hI2 _ (iI_rng (xs (4 * jj + 1)))
  obtain ⟨fs, hc⟩ := hI2.hc
  obtain ⟨fs2, hm⟩ := hI2.hm
  refine x_aload_n hx dL_law_308 hl 2 rfl ?_
  refine lw_arg (c := 1) hx hF hW hl (by omega) dL_law_309 dL_law_310 dL_law_311 dL_law_312 dL_law_313 ?_
  refine x_callU (rest := []) (w1 := wc) (w2 := wm) hx yv_X7_shows hP wm_RL_40 hA hW hc rfl ⟨rfl, rfl⟩ ⟨by decide, by decide⟩ hkn hl rfl rfl (by decide) dL_law_314 (fun w H locs hP9 hW => ?_)
  refine x_aload_n hx dL_law_317 hl 1 rfl ?_
  refine lw_arg (c := 1) hx hF hW hl (by omega) dL_law_318 dL_law_319 dL_law_320 dL_law_321 dL_law_322 ?_
  refine x_callU (rest := [.int r]) (w1 := wm) (w2 := w) hx yv_X8_shows hQ wm_RL_43 hA hW hm rfl ⟨rfl, rfl⟩ ⟨by decide, by decide⟩ hkn hl rfl rfl (Nat.le_of_ble_eq_true rfl) dL_law_323 (fun w2 H locs hQ9 hW => ?_)
  exact x_icmp_eq_I (tgt := 981) hx dL_law_326 rfl (fun _ => kk w w2 H locs (hN w w2 hP9 hQ9) hW) (fun h => absurd rfl h)
theorem lw_k_paint {X : CX} {k n : Nat} {H : Heap} {locs : List Loc} {ls : Array Slot} {D : KD} {A : Nat → Prop} {bS L : Nat} {xs : Nat → Int32} {a b : Nat → Nat} {wc wm : va_W} {jj : Nat} (hx : Ok X cL_law "CubeDaysLaw" 4 room_1 D) (hF : SF X A bS L xs) (hA : ∀ q : Nat, (cxS X).heap.size ≤ q → A q) (hj : jj < 64) (hi : 4 * jj + 3 < L) (hI2 : Inv2 D a b jj wc wm) (hW : Wd X D A (wc ++ wm) H locs) (hl : lv_has ls 4 (lw_lv bS (a 0) (b 0) (4 * jj))) (hkn : k ≤ room_1.cells ∧ n ≤ room_1.slots) (kk : ∀ (wc wm : va_W) (H : Heap) (locs : List Loc), Inv2 D a b (jj + 1) wc wm → Wd X D A (wc ++ wm) H locs → Wx X k n H locs 981 ls []) : Wx X k n H locs 331 ls [] := by
  obtain ⟨r, P, Q, hP, hQ, hN⟩ := st_paint (cxL X) hj hI2 _ _ _ (iI_rng (xs (4 * jj + 1))) (iI_rng (xs (4 * jj + 2))) (iI_rng (xs (4 * jj + 3)))
  obtain ⟨fs, hc⟩ := hI2.hc
  obtain ⟨fs2, hm⟩ := hI2.hm
  refine x_aload_n hx dL_law_331 hl 2 rfl ?_
  refine lw_arg (c := 1) hx hF hW hl (by omega) dL_law_332 dL_law_333 dL_law_334 dL_law_335 dL_law_336 ?_
  refine lw_arg (c := 2) hx hF hW hl (by omega) dL_law_337 dL_law_338 dL_law_339 dL_law_340 dL_law_341 ?_
  refine lw_arg (c := 3) hx hF hW hl (by omega) dL_law_342 dL_law_343 dL_law_344 dL_law_345 dL_law_346 ?_
  refine x_callU (rest := []) (w1 := wc) (w2 := wm) hx yv_X7_paint hP wm_RL_44 hA hW hc rfl ⟨rfl, rfl⟩ ⟨by decide, by decide⟩ hkn hl rfl rfl (by decide) dL_law_347 (fun w H locs hP9 hW => ?_)
  refine x_aload_n hx dL_law_350 hl 1 rfl ?_
  refine lw_arg (c := 1) hx hF hW hl (by omega) dL_law_351 dL_law_352 dL_law_353 dL_law_354 dL_law_355 ?_
  refine lw_arg (c := 2) hx hF hW hl (by omega) dL_law_356 dL_law_357 dL_law_358 dL_law_359 dL_law_360 ?_
  refine lw_arg (c := 3) hx hF hW hl (by omega) dL_law_361 dL_law_362 dL_law_363 dL_law_364 dL_law_365 ?_
  refine x_callU (rest := [.int r]) (w1 := wm) (w2 := w) hx yv_X8_paint hQ wm_RL_48 hA hW hm rfl ⟨rfl, rfl⟩ ⟨by decide, by decide⟩ hkn hl rfl rfl (Nat.le_of_ble_eq_true rfl) dL_law_366 (fun w2 H locs hQ9 hW => ?_)
  exact x_icmp_eq_I (tgt := 981) hx dL_law_369 rfl (fun _ => kk w w2 H locs (hN w w2 hP9 hQ9) hW) (fun h => absurd rfl h)
theorem lw_k_lose {X : CX} {k n : Nat} {H : Heap} {locs : List Loc} {ls : Array Slot} {D : KD} {A : Nat → Prop} {bS L : Nat} {xs : Nat → Int32} {a b : Nat → Nat} {wc wm : va_W} {jj : Nat} (hx : Ok X cL_law "CubeDaysLaw" 4 room_1 D) (hF : SF X A bS L xs) (hA : ∀ q : Nat, (cxS X).heap.size ≤ q → A q) (hj : jj < 64) (hi : 4 * jj + 3 < L) (hI2 : Inv2 D a b jj wc wm) (hW : Wd X D A (wc ++ wm) H locs) (hl : lv_has ls 4 (lw_lv bS (a 0) (b 0) (4 * jj))) (hkn : k ≤ room_1.cells ∧ n ≤ room_1.slots) (kk : ∀ (wc wm : va_W) (H : Heap) (locs : List Loc), Inv2 D a b (jj + 1) wc wm → Wd X D A (wc ++ wm) H locs → Wx X k n H locs 981 ls []) : Wx X k n H locs 374 ls [] := by
  obtain ⟨r, P, Q, hP, hQ, hN⟩ := st_lose (cxL X) hj hI2 _ (decide ((xs (4 * jj + 2)).toInt ≠ 0)) (iI_rng (xs (4 * jj + 1)))
  obtain ⟨fs, hc⟩ := hI2.hc
  obtain ⟨fs2, hm⟩ := hI2.hm
  refine x_aload_n hx dL_law_374 hl 2 rfl ?_
  refine lw_arg (c := 1) hx hF hW hl (by omega) dL_law_375 dL_law_376 dL_law_377 dL_law_378 dL_law_379 ?_
  refine lw_arg (c := 2) hx hF hW hl (by omega) dL_law_380 dL_law_381 dL_law_382 dL_law_383 dL_law_384 ?_
  refine lw_bool hx (iI_rng _) dL_law_385 dL_law_388 dL_law_389 dL_law_392 ?_
  refine x_callU (rest := []) (w1 := wc) (w2 := wm) hx yv_X7_lose hP wm_RL_49 hA hW hc rfl ⟨rfl, rfl⟩ ⟨by decide, by decide⟩ hkn hl rfl rfl (by decide) dL_law_393 (fun w H locs hP9 hW => ?_)
  refine x_aload_n hx dL_law_396 hl 1 rfl ?_
  refine lw_arg (c := 1) hx hF hW hl (by omega) dL_law_397 dL_law_398 dL_law_399 dL_law_400 dL_law_401 ?_
  refine lw_arg (c := 2) hx hF hW hl (by omega) dL_law_402 dL_law_403 dL_law_404 dL_law_405 dL_law_406 ?_
  refine lw_bool hx (iI_rng _) dL_law_407 dL_law_410 dL_law_411 dL_law_414 ?_
  refine x_callU (rest := [.int r]) (w1 := wm) (w2 := w) hx yv_X8_lose hQ wm_RL_53 hA hW hm rfl ⟨rfl, rfl⟩ ⟨by decide, by decide⟩ hkn hl rfl rfl (Nat.le_of_ble_eq_true rfl) dL_law_415 (fun w2 H locs hQ9 hW => ?_)
  exact x_icmp_eq_I (tgt := 981) hx dL_law_418 rfl (fun _ => kk w w2 H locs (hN w w2 hP9 hQ9) hW) (fun h => absurd rfl h)
theorem lw_k_drift {X : CX} {k n : Nat} {H : Heap} {locs : List Loc} {ls : Array Slot} {D : KD} {A : Nat → Prop} {bS L : Nat} {xs : Nat → Int32} {a b : Nat → Nat} {wc wm : va_W} {jj : Nat} (hx : Ok X cL_law "CubeDaysLaw" 4 room_1 D) (hF : SF X A bS L xs) (hA : ∀ q : Nat, (cxS X).heap.size ≤ q → A q) (hj : jj < 64) (hi : 4 * jj + 3 < L) (hI2 : Inv2 D a b jj wc wm) (hW : Wd X D A (wc ++ wm) H locs) (hl : lv_has ls 4 (lw_lv bS (a 0) (b 0) (4 * jj))) (hkn : k ≤ room_1.cells ∧ n ≤ room_1.slots) (kk : ∀ (wc wm : va_W) (H : Heap) (locs : List Loc), Inv2 D a b (jj + 1) wc wm → Wd X D A (wc ++ wm) H locs → Wx X k n H locs 981 ls []) : Wx X k n H locs 423 ls [] := by
  obtain ⟨r, P, Q, hP, hQ, hN⟩ := st_drift (cxL X) hj hI2 _ (iI_rng (xs (4 * jj + 1)))
  obtain ⟨fs, hc⟩ := hI2.hc
  obtain ⟨fs2, hm⟩ := hI2.hm
  refine x_aload_n hx dL_law_423 hl 2 rfl ?_
  refine lw_arg (c := 1) hx hF hW hl (by omega) dL_law_424 dL_law_425 dL_law_426 dL_law_427 dL_law_428 ?_
  refine x_callU (rest := []) (w1 := wc) (w2 := wm) hx yv_X7_drift hP wm_RL_54 hA hW hc rfl ⟨rfl, rfl⟩ ⟨by decide, by decide⟩ hkn hl rfl rfl (by decide) dL_law_429 (fun w H locs hP9 hW => ?_)
  refine x_aload_n hx dL_law_432 hl 1 rfl ?_
  refine lw_arg (c := 1) hx hF hW hl (by omega) dL_law_433 dL_law_434 dL_law_435 dL_law_436 dL_law_437 ?_
  refine x_callU (rest := [.int r]) (w1 := wm) (w2 := w) hx yv_X8_drift hQ wm_RL_57 hA hW hm rfl ⟨rfl, rfl⟩ ⟨by decide, by decide⟩ hkn hl rfl rfl (Nat.le_of_ble_eq_true rfl) dL_law_438 (fun w2 H locs hQ9 hW => ?_)
  exact x_icmp_eq_I (tgt := 981) hx dL_law_441 rfl (fun _ => kk w w2 H locs (hN w w2 hP9 hQ9) hW) (fun h => absurd rfl h)
theorem lw_k_undo {X : CX} {k n : Nat} {H : Heap} {locs : List Loc} {ls : Array Slot} {D : KD} {A : Nat → Prop} {bS L : Nat} {xs : Nat → Int32} {a b : Nat → Nat} {wc wm : va_W} {jj : Nat} (hx : Ok X cL_law "CubeDaysLaw" 4 room_1 D) (hF : SF X A bS L xs) (hA : ∀ q : Nat, (cxS X).heap.size ≤ q → A q) (hj : jj < 64) (hi : 4 * jj + 3 < L) (hI2 : Inv2 D a b jj wc wm) (hW : Wd X D A (wc ++ wm) H locs) (hl : lv_has ls 4 (lw_lv bS (a 0) (b 0) (4 * jj))) (hkn : k ≤ room_1.cells ∧ n ≤ room_1.slots) (kk : ∀ (wc wm : va_W) (H : Heap) (locs : List Loc), Inv2 D a b (jj + 1) wc wm → Wd X D A (wc ++ wm) H locs → Wx X k n H locs 981 ls []) : Wx X k n H locs 446 ls [] := by
  obtain ⟨r, P, Q, hP, hQ, hN⟩ := st_undo (cxL X) hj hI2  
  obtain ⟨fs, hc⟩ := hI2.hc
  obtain ⟨fs2, hm⟩ := hI2.hm
  refine x_aload_n hx dL_law_446 hl 2 rfl ?_
  refine x_callU (rest := []) (w1 := wc) (w2 := wm) hx yv_X7_undo hP wm_RL_58 hA hW hc rfl ⟨rfl, rfl⟩ ⟨by decide, by decide⟩ hkn hl rfl rfl (by decide) dL_law_447 (fun w H locs hP9 hW => ?_)
  refine x_aload_n hx dL_law_450 hl 1 rfl ?_
  refine x_callU (rest := [.int r]) (w1 := wm) (w2 := w) hx yv_X8_undo hQ wm_RL_61 hA hW hm rfl ⟨rfl, rfl⟩ ⟨by decide, by decide⟩ hkn hl rfl rfl (Nat.le_of_ble_eq_true rfl) dL_law_451 (fun w2 H locs hQ9 hW => ?_)
  exact x_icmp_eq_I (tgt := 981) hx dL_law_454 rfl (fun _ => kk w w2 H locs (hN w w2 hP9 hQ9) hW) (fun h => absurd rfl h)
theorem lw_k_shown {X : CX} {k n : Nat} {H : Heap} {locs : List Loc} {ls : Array Slot} {D : KD} {A : Nat → Prop} {bS L : Nat} {xs : Nat → Int32} {a b : Nat → Nat} {wc wm : va_W} {jj : Nat} (hx : Ok X cL_law "CubeDaysLaw" 4 room_1 D) (hF : SF X A bS L xs) (hA : ∀ q : Nat, (cxS X).heap.size ≤ q → A q) (hj : jj < 64) (hi : 4 * jj + 3 < L) (hI2 : Inv2 D a b jj wc wm) (hW : Wd X D A (wc ++ wm) H locs) (hl : lv_has ls 4 (lw_lv bS (a 0) (b 0) (4 * jj))) (hkn : k ≤ room_1.cells ∧ n ≤ room_1.slots) (kk : ∀ (wc wm : va_W) (H : Heap) (locs : List Loc), Inv2 D a b (jj + 1) wc wm → Wd X D A (wc ++ wm) H locs → Wx X k n H locs 981 ls []) : Wx X k n H locs 459 ls [] := by
  obtain ⟨r, P, Q, hP, hQ, hN⟩ := st_shown (cxL X) hj hI2 _ _ (iI_rng (xs (4 * jj + 1))) (iI_rng (xs (4 * jj + 2)))
  obtain ⟨fs, hc⟩ := hI2.hc
  obtain ⟨fs2, hm⟩ := hI2.hm
  refine x_aload_n hx dL_law_459 hl 2 rfl ?_
  refine lw_arg (c := 1) hx hF hW hl (by omega) dL_law_460 dL_law_461 dL_law_462 dL_law_463 dL_law_464 ?_
  refine lw_arg (c := 2) hx hF hW hl (by omega) dL_law_465 dL_law_466 dL_law_467 dL_law_468 dL_law_469 ?_
  refine x_callU (rest := []) (w1 := wc) (w2 := wm) hx yv_X7_shown hP wm_RL_62 hA hW hc rfl ⟨rfl, rfl⟩ ⟨by decide, by decide⟩ hkn hl rfl rfl (by decide) dL_law_470 (fun w H locs hP9 hW => ?_)
  refine x_aload_n hx dL_law_473 hl 1 rfl ?_
  refine lw_arg (c := 1) hx hF hW hl (by omega) dL_law_474 dL_law_475 dL_law_476 dL_law_477 dL_law_478 ?_
  refine lw_arg (c := 2) hx hF hW hl (by omega) dL_law_479 dL_law_480 dL_law_481 dL_law_482 dL_law_483 ?_
  refine x_callU (rest := [.int r]) (w1 := wm) (w2 := w) hx yv_X8_shown hQ wm_RL_65 hA hW hm rfl ⟨rfl, rfl⟩ ⟨by decide, by decide⟩ hkn hl rfl rfl (Nat.le_of_ble_eq_true rfl) dL_law_484 (fun w2 H locs hQ9 hW => ?_)
  exact x_icmp_eq_I (tgt := 981) hx dL_law_487 rfl (fun _ => kk w w2 H locs (hN w w2 hP9 hQ9) hW) (fun h => absurd rfl h)
theorem lw_k_days {X : CX} {k n : Nat} {H : Heap} {locs : List Loc} {ls : Array Slot} {D : KD} {A : Nat → Prop} {bS L : Nat} {xs : Nat → Int32} {a b : Nat → Nat} {wc wm : va_W} {jj : Nat} (hx : Ok X cL_law "CubeDaysLaw" 4 room_1 D) (hF : SF X A bS L xs) (hA : ∀ q : Nat, (cxS X).heap.size ≤ q → A q) (hj : jj < 64) (hi : 4 * jj + 3 < L) (hI2 : Inv2 D a b jj wc wm) (hW : Wd X D A (wc ++ wm) H locs) (hl : lv_has ls 4 (lw_lv bS (a 0) (b 0) (4 * jj))) (hkn : k ≤ room_1.cells ∧ n ≤ room_1.slots) (kk : ∀ (wc wm : va_W) (H : Heap) (locs : List Loc), Inv2 D a b (jj + 1) wc wm → Wd X D A (wc ++ wm) H locs → Wx X k n H locs 981 ls []) : Wx X k n H locs 492 ls [] := by
  obtain ⟨r, P, Q, hP, hQ, hN⟩ := st_days (cxL X) hj hI2  
  obtain ⟨fs, hc⟩ := hI2.hc
  obtain ⟨fs2, hm⟩ := hI2.hm
  refine x_aload_n hx dL_law_492 hl 2 rfl ?_
  refine x_callU (rest := []) (w1 := wc) (w2 := wm) hx yv_X7_days hP wm_RL_66 hA hW hc rfl ⟨rfl, rfl⟩ ⟨by decide, by decide⟩ hkn hl rfl rfl (by decide) dL_law_493 (fun w H locs hP9 hW => ?_)
  refine x_aload_n hx dL_law_496 hl 1 rfl ?_
  refine x_callU (rest := [.int r]) (w1 := wm) (w2 := w) hx yv_X8_days hQ wm_RL_69 hA hW hm rfl ⟨rfl, rfl⟩ ⟨by decide, by decide⟩ hkn hl rfl rfl (Nat.le_of_ble_eq_true rfl) dL_law_497 (fun w2 H locs hQ9 hW => ?_)
  exact x_icmp_eq_I (tgt := 981) hx dL_law_500 rfl (fun _ => kk w w2 H locs (hN w w2 hP9 hQ9) hW) (fun h => absurd rfl h)
theorem lw_k_gap {X : CX} {k n : Nat} {H : Heap} {locs : List Loc} {ls : Array Slot} {D : KD} {A : Nat → Prop} {bS L : Nat} {xs : Nat → Int32} {a b : Nat → Nat} {wc wm : va_W} {jj : Nat} (hx : Ok X cL_law "CubeDaysLaw" 4 room_1 D) (hF : SF X A bS L xs) (hA : ∀ q : Nat, (cxS X).heap.size ≤ q → A q) (hj : jj < 64) (hi : 4 * jj + 3 < L) (hI2 : Inv2 D a b jj wc wm) (hW : Wd X D A (wc ++ wm) H locs) (hl : lv_has ls 4 (lw_lv bS (a 0) (b 0) (4 * jj))) (hkn : k ≤ room_1.cells ∧ n ≤ room_1.slots) (kk : ∀ (wc wm : va_W) (H : Heap) (locs : List Loc), Inv2 D a b (jj + 1) wc wm → Wd X D A (wc ++ wm) H locs → Wx X k n H locs 981 ls []) : Wx X k n H locs 505 ls [] := by
  obtain ⟨r, P, Q, hP, hQ, hN⟩ := st_gap (cxL X) hj hI2  
  obtain ⟨fs, hc⟩ := hI2.hc
  obtain ⟨fs2, hm⟩ := hI2.hm
  refine x_aload_n hx dL_law_505 hl 2 rfl ?_
  refine x_callU (rest := []) (w1 := wc) (w2 := wm) hx yv_X7_gap hP wm_RL_70 hA hW hc rfl ⟨rfl, rfl⟩ ⟨by decide, by decide⟩ hkn hl rfl rfl (by decide) dL_law_506 (fun w H locs hP9 hW => ?_)
  refine x_aload_n hx dL_law_509 hl 1 rfl ?_
  refine x_callU (rest := [.int r]) (w1 := wm) (w2 := w) hx yv_X8_gap hQ wm_RL_73 hA hW hm rfl ⟨rfl, rfl⟩ ⟨by decide, by decide⟩ hkn hl rfl rfl (Nat.le_of_ble_eq_true rfl) dL_law_510 (fun w2 H locs hQ9 hW => ?_)
  exact x_icmp_eq_I (tgt := 981) hx dL_law_513 rfl (fun _ => kk w w2 H locs (hN w w2 hP9 hQ9) hW) (fun h => absurd rfl h)
theorem lw_k_must {X : CX} {k n : Nat} {H : Heap} {locs : List Loc} {ls : Array Slot} {D : KD} {A : Nat → Prop} {bS L : Nat} {xs : Nat → Int32} {a b : Nat → Nat} {wc wm : va_W} {jj : Nat} (hx : Ok X cL_law "CubeDaysLaw" 4 room_1 D) (hF : SF X A bS L xs) (hA : ∀ q : Nat, (cxS X).heap.size ≤ q → A q) (hj : jj < 64) (hi : 4 * jj + 3 < L) (hI2 : Inv2 D a b jj wc wm) (hW : Wd X D A (wc ++ wm) H locs) (hl : lv_has ls 4 (lw_lv bS (a 0) (b 0) (4 * jj))) (hkn : k ≤ room_1.cells ∧ n ≤ room_1.slots) (kk : ∀ (wc wm : va_W) (H : Heap) (locs : List Loc), Inv2 D a b (jj + 1) wc wm → Wd X D A (wc ++ wm) H locs → Wx X k n H locs 981 ls []) : Wx X k n H locs 518 ls [] := by
  obtain ⟨r, P, Q, hP, hQ, hN⟩ := st_must (cxL X) hj hI2 _ (iI_rng (xs (4 * jj + 1)))
  obtain ⟨fs, hc⟩ := hI2.hc
  obtain ⟨fs2, hm⟩ := hI2.hm
  refine x_aload_n hx dL_law_518 hl 2 rfl ?_
  refine lw_arg (c := 1) hx hF hW hl (by omega) dL_law_519 dL_law_520 dL_law_521 dL_law_522 dL_law_523 ?_
  refine x_callU (rest := []) (w1 := wc) (w2 := wm) hx yv_X7_must hP wm_RL_74 hA hW hc rfl ⟨rfl, rfl⟩ ⟨by decide, by decide⟩ hkn hl rfl rfl (by decide) dL_law_524 (fun w H locs hP9 hW => ?_)
  refine x_aload_n hx dL_law_527 hl 1 rfl ?_
  refine lw_arg (c := 1) hx hF hW hl (by omega) dL_law_528 dL_law_529 dL_law_530 dL_law_531 dL_law_532 ?_
  refine x_callU (rest := [.int r]) (w1 := wm) (w2 := w) hx yv_X8_must hQ wm_RL_77 hA hW hm rfl ⟨rfl, rfl⟩ ⟨by decide, by decide⟩ hkn hl rfl rfl (Nat.le_of_ble_eq_true rfl) dL_law_533 (fun w2 H locs hQ9 hW => ?_)
  exact x_icmp_eq_I (tgt := 981) hx dL_law_536 rfl (fun _ => kk w w2 H locs (hN w w2 hP9 hQ9) hW) (fun h => absurd rfl h)
theorem lw_k_search {X : CX} {k n : Nat} {H : Heap} {locs : List Loc} {ls : Array Slot} {D : KD} {A : Nat → Prop} {bS L : Nat} {xs : Nat → Int32} {a b : Nat → Nat} {wc wm : va_W} {jj : Nat} (hx : Ok X cL_law "CubeDaysLaw" 4 room_1 D) (hF : SF X A bS L xs) (hA : ∀ q : Nat, (cxS X).heap.size ≤ q → A q) (hj : jj < 64) (hi : 4 * jj + 3 < L) (hI2 : Inv2 D a b jj wc wm) (hW : Wd X D A (wc ++ wm) H locs) (hl : lv_has ls 4 (lw_lv bS (a 0) (b 0) (4 * jj))) (hkn : k ≤ room_1.cells ∧ n ≤ room_1.slots) (kk : ∀ (wc wm : va_W) (H : Heap) (locs : List Loc), Inv2 D a b (jj + 1) wc wm → Wd X D A (wc ++ wm) H locs → Wx X k n H locs 981 ls []) : Wx X k n H locs 541 ls [] := by
  obtain ⟨r, P, Q, hP, hQ, hN⟩ := st_search (cxL X) hj hI2 _ _ (iI_rng (xs (4 * jj + 1))) (iI_rng (xs (4 * jj + 2)))
  obtain ⟨fs, hc⟩ := hI2.hc
  obtain ⟨fs2, hm⟩ := hI2.hm
  refine x_aload_n hx dL_law_541 hl 2 rfl ?_
  refine lw_arg (c := 1) hx hF hW hl (by omega) dL_law_542 dL_law_543 dL_law_544 dL_law_545 dL_law_546 ?_
  refine lw_arg (c := 2) hx hF hW hl (by omega) dL_law_547 dL_law_548 dL_law_549 dL_law_550 dL_law_551 ?_
  refine x_callU (rest := []) (w1 := wc) (w2 := wm) hx yv_X7_search hP wm_RL_78 hA hW hc rfl ⟨rfl, rfl⟩ ⟨by decide, by decide⟩ hkn hl rfl rfl (by decide) dL_law_552 (fun w H locs hP9 hW => ?_)
  refine x_aload_n hx dL_law_555 hl 1 rfl ?_
  refine lw_arg (c := 1) hx hF hW hl (by omega) dL_law_556 dL_law_557 dL_law_558 dL_law_559 dL_law_560 ?_
  refine lw_arg (c := 2) hx hF hW hl (by omega) dL_law_561 dL_law_562 dL_law_563 dL_law_564 dL_law_565 ?_
  refine x_callU (rest := [.int r]) (w1 := wm) (w2 := w) hx yv_X8_search hQ wm_RL_81 hA hW hm rfl ⟨rfl, rfl⟩ ⟨by decide, by decide⟩ hkn hl rfl rfl (Nat.le_of_ble_eq_true rfl) dL_law_566 (fun w2 H locs hQ9 hW => ?_)
  exact x_icmp_eq_I (tgt := 981) hx dL_law_569 rfl (fun _ => kk w w2 H locs (hN w w2 hP9 hQ9) hW) (fun h => absurd rfl h)
theorem lw_k_most {X : CX} {k n : Nat} {H : Heap} {locs : List Loc} {ls : Array Slot} {D : KD} {A : Nat → Prop} {bS L : Nat} {xs : Nat → Int32} {a b : Nat → Nat} {wc wm : va_W} {jj : Nat} (hx : Ok X cL_law "CubeDaysLaw" 4 room_1 D) (hF : SF X A bS L xs) (hA : ∀ q : Nat, (cxS X).heap.size ≤ q → A q) (hj : jj < 64) (hi : 4 * jj + 3 < L) (hI2 : Inv2 D a b jj wc wm) (hW : Wd X D A (wc ++ wm) H locs) (hl : lv_has ls 4 (lw_lv bS (a 0) (b 0) (4 * jj))) (hkn : k ≤ room_1.cells ∧ n ≤ room_1.slots) (kk : ∀ (wc wm : va_W) (H : Heap) (locs : List Loc), Inv2 D a b (jj + 1) wc wm → Wd X D A (wc ++ wm) H locs → Wx X k n H locs 981 ls []) : Wx X k n H locs 574 ls [] := by
  obtain ⟨r, P, Q, hP, hQ, hN⟩ := st_most (cxL X) hj hI2 _ (iI_rng (xs (4 * jj + 1)))
  obtain ⟨fs, hc⟩ := hI2.hc
  obtain ⟨fs2, hm⟩ := hI2.hm
  refine x_aload_n hx dL_law_574 hl 2 rfl ?_
  refine lw_arg (c := 1) hx hF hW hl (by omega) dL_law_575 dL_law_576 dL_law_577 dL_law_578 dL_law_579 ?_
  refine x_callU (rest := []) (w1 := wc) (w2 := wm) hx yv_X7_most hP wm_RL_82 hA hW hc rfl ⟨rfl, rfl⟩ ⟨by decide, by decide⟩ hkn hl rfl rfl (by decide) dL_law_580 (fun w H locs hP9 hW => ?_)
  refine x_aload_n hx dL_law_583 hl 1 rfl ?_
  refine lw_arg (c := 1) hx hF hW hl (by omega) dL_law_584 dL_law_585 dL_law_586 dL_law_587 dL_law_588 ?_
  refine x_callU (rest := [.int r]) (w1 := wm) (w2 := w) hx yv_X8_most hQ wm_RL_85 hA hW hm rfl ⟨rfl, rfl⟩ ⟨by decide, by decide⟩ hkn hl rfl rfl (Nat.le_of_ble_eq_true rfl) dL_law_589 (fun w2 H locs hQ9 hW => ?_)
  exact x_icmp_eq_I (tgt := 981) hx dL_law_592 rfl (fun _ => kk w w2 H locs (hN w w2 hP9 hQ9) hW) (fun h => absurd rfl h)
theorem lw_k_gone {X : CX} {k n : Nat} {H : Heap} {locs : List Loc} {ls : Array Slot} {D : KD} {A : Nat → Prop} {bS L : Nat} {xs : Nat → Int32} {a b : Nat → Nat} {wc wm : va_W} {jj : Nat} (hx : Ok X cL_law "CubeDaysLaw" 4 room_1 D) (hF : SF X A bS L xs) (hA : ∀ q : Nat, (cxS X).heap.size ≤ q → A q) (hj : jj < 64) (hi : 4 * jj + 3 < L) (hI2 : Inv2 D a b jj wc wm) (hW : Wd X D A (wc ++ wm) H locs) (hl : lv_has ls 4 (lw_lv bS (a 0) (b 0) (4 * jj))) (hkn : k ≤ room_1.cells ∧ n ≤ room_1.slots) (kk : ∀ (wc wm : va_W) (H : Heap) (locs : List Loc), Inv2 D a b (jj + 1) wc wm → Wd X D A (wc ++ wm) H locs → Wx X k n H locs 981 ls []) : Wx X k n H locs 597 ls [] := by
  obtain ⟨r, P, Q, hP, hQ, hN⟩ := st_gone (cxL X) hj hI2 _ _ (iI_rng (xs (4 * jj + 1))) (iI_rng (xs (4 * jj + 2)))
  obtain ⟨fs, hc⟩ := hI2.hc
  obtain ⟨fs2, hm⟩ := hI2.hm
  refine x_aload_n hx dL_law_597 hl 2 rfl ?_
  refine lw_arg (c := 1) hx hF hW hl (by omega) dL_law_598 dL_law_599 dL_law_600 dL_law_601 dL_law_602 ?_
  refine lw_arg (c := 2) hx hF hW hl (by omega) dL_law_603 dL_law_604 dL_law_605 dL_law_606 dL_law_607 ?_
  refine x_callU (rest := []) (w1 := wc) (w2 := wm) hx yv_X7_gone hP wm_RL_86 hA hW hc rfl ⟨rfl, rfl⟩ ⟨by decide, by decide⟩ hkn hl rfl rfl (by decide) dL_law_608 (fun w H locs hP9 hW => ?_)
  refine x_aload_n hx dL_law_611 hl 1 rfl ?_
  refine lw_arg (c := 1) hx hF hW hl (by omega) dL_law_612 dL_law_613 dL_law_614 dL_law_615 dL_law_616 ?_
  refine lw_arg (c := 2) hx hF hW hl (by omega) dL_law_617 dL_law_618 dL_law_619 dL_law_620 dL_law_621 ?_
  refine x_callU (rest := [.int r]) (w1 := wm) (w2 := w) hx yv_X8_gone hQ wm_RL_89 hA hW hm rfl ⟨rfl, rfl⟩ ⟨by decide, by decide⟩ hkn hl rfl rfl (Nat.le_of_ble_eq_true rfl) dL_law_622 (fun w2 H locs hQ9 hW => ?_)
  exact x_icmp_eq_I (tgt := 981) hx dL_law_625 rfl (fun _ => kk w w2 H locs (hN w w2 hP9 hQ9) hW) (fun h => absurd rfl h)
theorem lw_k_worst {X : CX} {k n : Nat} {H : Heap} {locs : List Loc} {ls : Array Slot} {D : KD} {A : Nat → Prop} {bS L : Nat} {xs : Nat → Int32} {a b : Nat → Nat} {wc wm : va_W} {jj : Nat} (hx : Ok X cL_law "CubeDaysLaw" 4 room_1 D) (hF : SF X A bS L xs) (hA : ∀ q : Nat, (cxS X).heap.size ≤ q → A q) (hj : jj < 64) (hi : 4 * jj + 3 < L) (hI2 : Inv2 D a b jj wc wm) (hW : Wd X D A (wc ++ wm) H locs) (hl : lv_has ls 4 (lw_lv bS (a 0) (b 0) (4 * jj))) (hkn : k ≤ room_1.cells ∧ n ≤ room_1.slots) (kk : ∀ (wc wm : va_W) (H : Heap) (locs : List Loc), Inv2 D a b (jj + 1) wc wm → Wd X D A (wc ++ wm) H locs → Wx X k n H locs 981 ls []) : Wx X k n H locs 630 ls [] := by
  obtain ⟨r, P, Q, hP, hQ, hN⟩ := st_worst (cxL X) hj hI2  
  obtain ⟨fs, hc⟩ := hI2.hc
  obtain ⟨fs2, hm⟩ := hI2.hm
  refine x_aload_n hx dL_law_630 hl 2 rfl ?_
  refine x_callU (rest := []) (w1 := wc) (w2 := wm) hx yv_X7_worst hP wm_RL_90 hA hW hc rfl ⟨rfl, rfl⟩ ⟨by decide, by decide⟩ hkn hl rfl rfl (by decide) dL_law_631 (fun w H locs hP9 hW => ?_)
  refine x_aload_n hx dL_law_634 hl 1 rfl ?_
  refine x_callU (rest := [.int r]) (w1 := wm) (w2 := w) hx yv_X8_worst hQ wm_RL_93 hA hW hm rfl ⟨rfl, rfl⟩ ⟨by decide, by decide⟩ hkn hl rfl rfl (Nat.le_of_ble_eq_true rfl) dL_law_635 (fun w2 H locs hQ9 hW => ?_)
  exact x_icmp_eq_I (tgt := 981) hx dL_law_638 rfl (fun _ => kk w w2 H locs (hN w w2 hP9 hQ9) hW) (fun h => absurd rfl h)
theorem lw_k_instead {X : CX} {k n : Nat} {H : Heap} {locs : List Loc} {ls : Array Slot} {D : KD} {A : Nat → Prop} {bS L : Nat} {xs : Nat → Int32} {a b : Nat → Nat} {wc wm : va_W} {jj : Nat} (hx : Ok X cL_law "CubeDaysLaw" 4 room_1 D) (hF : SF X A bS L xs) (hA : ∀ q : Nat, (cxS X).heap.size ≤ q → A q) (hj : jj < 64) (hi : 4 * jj + 3 < L) (hI2 : Inv2 D a b jj wc wm) (hW : Wd X D A (wc ++ wm) H locs) (hl : lv_has ls 4 (lw_lv bS (a 0) (b 0) (4 * jj))) (hkn : k ≤ room_1.cells ∧ n ≤ room_1.slots) (kk : ∀ (wc wm : va_W) (H : Heap) (locs : List Loc), Inv2 D a b (jj + 1) wc wm → Wd X D A (wc ++ wm) H locs → Wx X k n H locs 981 ls []) : Wx X k n H locs 643 ls [] := by
  obtain ⟨r, P, Q, hP, hQ, hN⟩ := st_instead (cxL X) hj hI2 _ _ (iI_rng (xs (4 * jj + 1))) (iI_rng (xs (4 * jj + 2)))
  obtain ⟨fs, hc⟩ := hI2.hc
  obtain ⟨fs2, hm⟩ := hI2.hm
  refine x_aload_n hx dL_law_643 hl 2 rfl ?_
  refine lw_arg (c := 1) hx hF hW hl (by omega) dL_law_644 dL_law_645 dL_law_646 dL_law_647 dL_law_648 ?_
  refine lw_arg (c := 2) hx hF hW hl (by omega) dL_law_649 dL_law_650 dL_law_651 dL_law_652 dL_law_653 ?_
  refine x_callU (rest := []) (w1 := wc) (w2 := wm) hx yv_X7_instead hP wm_RL_94 hA hW hc rfl ⟨rfl, rfl⟩ ⟨by decide, by decide⟩ hkn hl rfl rfl (by decide) dL_law_654 (fun w H locs hP9 hW => ?_)
  refine x_aload_n hx dL_law_657 hl 1 rfl ?_
  refine lw_arg (c := 1) hx hF hW hl (by omega) dL_law_658 dL_law_659 dL_law_660 dL_law_661 dL_law_662 ?_
  refine lw_arg (c := 2) hx hF hW hl (by omega) dL_law_663 dL_law_664 dL_law_665 dL_law_666 dL_law_667 ?_
  refine x_callU (rest := [.int r]) (w1 := wm) (w2 := w) hx yv_X8_instead hQ wm_RL_97 hA hW hm rfl ⟨rfl, rfl⟩ ⟨by decide, by decide⟩ hkn hl rfl rfl (Nat.le_of_ble_eq_true rfl) dL_law_668 (fun w2 H locs hQ9 hW => ?_)
  exact x_icmp_eq_I (tgt := 981) hx dL_law_671 rfl (fun _ => kk w w2 H locs (hN w w2 hP9 hQ9) hW) (fun h => absurd rfl h)
theorem lw_k_board {X : CX} {k n : Nat} {H : Heap} {locs : List Loc} {ls : Array Slot} {D : KD} {A : Nat → Prop} {bS L : Nat} {xs : Nat → Int32} {a b : Nat → Nat} {wc wm : va_W} {jj : Nat} (hx : Ok X cL_law "CubeDaysLaw" 4 room_1 D) (hF : SF X A bS L xs) (hA : ∀ q : Nat, (cxS X).heap.size ≤ q → A q) (hj : jj < 64) (hi : 4 * jj + 3 < L) (hI2 : Inv2 D a b jj wc wm) (hW : Wd X D A (wc ++ wm) H locs) (hl : lv_has ls 4 (lw_lv bS (a 0) (b 0) (4 * jj))) (hkn : k ≤ room_1.cells ∧ n ≤ room_1.slots) (kk : ∀ (wc wm : va_W) (H : Heap) (locs : List Loc), Inv2 D a b (jj + 1) wc wm → Wd X D A (wc ++ wm) H locs → Wx X k n H locs 981 ls []) : Wx X k n H locs 676 ls [] := by
  obtain ⟨r, P, Q, hP, hQ, hN⟩ := st_board (cxL X) hj hI2 _ _ (iI_rng (xs (4 * jj + 1))) (iI_rng (xs (4 * jj + 2)))
  obtain ⟨fs, hc⟩ := hI2.hc
  obtain ⟨fs2, hm⟩ := hI2.hm
  refine x_aload_n hx dL_law_676 hl 2 rfl ?_
  refine lw_arg (c := 1) hx hF hW hl (by omega) dL_law_677 dL_law_678 dL_law_679 dL_law_680 dL_law_681 ?_
  refine lw_arg (c := 2) hx hF hW hl (by omega) dL_law_682 dL_law_683 dL_law_684 dL_law_685 dL_law_686 ?_
  refine x_callU (rest := []) (w1 := wc) (w2 := wm) hx yv_X7_board hP wm_RL_98 hA hW hc rfl ⟨rfl, rfl⟩ ⟨by decide, by decide⟩ hkn hl rfl rfl (by decide) dL_law_687 (fun w H locs hP9 hW => ?_)
  refine x_aload_n hx dL_law_690 hl 1 rfl ?_
  refine lw_arg (c := 1) hx hF hW hl (by omega) dL_law_691 dL_law_692 dL_law_693 dL_law_694 dL_law_695 ?_
  refine lw_arg (c := 2) hx hF hW hl (by omega) dL_law_696 dL_law_697 dL_law_698 dL_law_699 dL_law_700 ?_
  refine x_callU (rest := [.int r]) (w1 := wm) (w2 := w) hx yv_X8_board hQ wm_RL_101 hA hW hm rfl ⟨rfl, rfl⟩ ⟨by decide, by decide⟩ hkn hl rfl rfl (Nat.le_of_ble_eq_true rfl) dL_law_701 (fun w2 H locs hQ9 hW => ?_)
  exact x_icmp_eq_I (tgt := 981) hx dL_law_704 rfl (fun _ => kk w w2 H locs (hN w w2 hP9 hQ9) hW) (fun h => absurd rfl h)
theorem lw_k_sums {X : CX} {k n : Nat} {H : Heap} {locs : List Loc} {ls : Array Slot} {D : KD} {A : Nat → Prop} {bS L : Nat} {xs : Nat → Int32} {a b : Nat → Nat} {wc wm : va_W} {jj : Nat} (hx : Ok X cL_law "CubeDaysLaw" 4 room_1 D) (hF : SF X A bS L xs) (hA : ∀ q : Nat, (cxS X).heap.size ≤ q → A q) (hj : jj < 64) (hi : 4 * jj + 3 < L) (hI2 : Inv2 D a b jj wc wm) (hW : Wd X D A (wc ++ wm) H locs) (hl : lv_has ls 4 (lw_lv bS (a 0) (b 0) (4 * jj))) (hkn : k ≤ room_1.cells ∧ n ≤ room_1.slots) (kk : ∀ (wc wm : va_W) (H : Heap) (locs : List Loc), Inv2 D a b (jj + 1) wc wm → Wd X D A (wc ++ wm) H locs → Wx X k n H locs 981 ls []) : Wx X k n H locs 709 ls [] := by
  obtain ⟨r, P, Q, hP, hQ, hN⟩ := st_sums (cxL X) hj hI2 _ (iI_rng (xs (4 * jj + 1)))
  obtain ⟨fs, hc⟩ := hI2.hc
  obtain ⟨fs2, hm⟩ := hI2.hm
  refine x_aload_n hx dL_law_709 hl 2 rfl ?_
  refine lw_arg (c := 1) hx hF hW hl (by omega) dL_law_710 dL_law_711 dL_law_712 dL_law_713 dL_law_714 ?_
  refine x_callU (rest := []) (w1 := wc) (w2 := wm) hx yv_X7_sums hP wm_RL_102 hA hW hc rfl ⟨rfl, rfl⟩ ⟨by decide, by decide⟩ hkn hl rfl rfl (by decide) dL_law_715 (fun w H locs hP9 hW => ?_)
  refine x_aload_n hx dL_law_718 hl 1 rfl ?_
  refine lw_arg (c := 1) hx hF hW hl (by omega) dL_law_719 dL_law_720 dL_law_721 dL_law_722 dL_law_723 ?_
  refine x_callU (rest := [.int r]) (w1 := wm) (w2 := w) hx yv_X8_sums hQ wm_RL_105 hA hW hm rfl ⟨rfl, rfl⟩ ⟨by decide, by decide⟩ hkn hl rfl rfl (Nat.le_of_ble_eq_true rfl) dL_law_724 (fun w2 H locs hQ9 hW => ?_)
  exact x_icmp_eq_I (tgt := 981) hx dL_law_727 rfl (fun _ => kk w w2 H locs (hN w w2 hP9 hQ9) hW) (fun h => absurd rfl h)
theorem lw_k_price {X : CX} {k n : Nat} {H : Heap} {locs : List Loc} {ls : Array Slot} {D : KD} {A : Nat → Prop} {bS L : Nat} {xs : Nat → Int32} {a b : Nat → Nat} {wc wm : va_W} {jj : Nat} (hx : Ok X cL_law "CubeDaysLaw" 4 room_1 D) (hF : SF X A bS L xs) (hA : ∀ q : Nat, (cxS X).heap.size ≤ q → A q) (hj : jj < 64) (hi : 4 * jj + 3 < L) (hI2 : Inv2 D a b jj wc wm) (hW : Wd X D A (wc ++ wm) H locs) (hl : lv_has ls 4 (lw_lv bS (a 0) (b 0) (4 * jj))) (hkn : k ≤ room_1.cells ∧ n ≤ room_1.slots) (kk : ∀ (wc wm : va_W) (H : Heap) (locs : List Loc), Inv2 D a b (jj + 1) wc wm → Wd X D A (wc ++ wm) H locs → Wx X k n H locs 981 ls []) : Wx X k n H locs 732 ls [] := by
  obtain ⟨r, P, Q, hP, hQ, hN⟩ := st_price (cxL X) hj hI2 _ (iI_rng (xs (4 * jj + 1)))
  obtain ⟨fs, hc⟩ := hI2.hc
  obtain ⟨fs2, hm⟩ := hI2.hm
  refine x_aload_n hx dL_law_732 hl 2 rfl ?_
  refine lw_arg (c := 1) hx hF hW hl (by omega) dL_law_733 dL_law_734 dL_law_735 dL_law_736 dL_law_737 ?_
  refine x_callU (rest := []) (w1 := wc) (w2 := wm) hx yv_X7_price hP wm_RL_106 hA hW hc rfl ⟨rfl, rfl⟩ ⟨by decide, by decide⟩ hkn hl rfl rfl (by decide) dL_law_738 (fun w H locs hP9 hW => ?_)
  refine x_aload_n hx dL_law_741 hl 1 rfl ?_
  refine lw_arg (c := 1) hx hF hW hl (by omega) dL_law_742 dL_law_743 dL_law_744 dL_law_745 dL_law_746 ?_
  refine x_callU (rest := [.int r]) (w1 := wm) (w2 := w) hx yv_X8_price hQ wm_RL_109 hA hW hm rfl ⟨rfl, rfl⟩ ⟨by decide, by decide⟩ hkn hl rfl rfl (Nat.le_of_ble_eq_true rfl) dL_law_747 (fun w2 H locs hQ9 hW => ?_)
  exact x_icmp_eq_I (tgt := 981) hx dL_law_750 rfl (fun _ => kk w w2 H locs (hN w w2 hP9 hQ9) hW) (fun h => absurd rfl h)
theorem lw_k_cheapest {X : CX} {k n : Nat} {H : Heap} {locs : List Loc} {ls : Array Slot} {D : KD} {A : Nat → Prop} {bS L : Nat} {xs : Nat → Int32} {a b : Nat → Nat} {wc wm : va_W} {jj : Nat} (hx : Ok X cL_law "CubeDaysLaw" 4 room_1 D) (hF : SF X A bS L xs) (hA : ∀ q : Nat, (cxS X).heap.size ≤ q → A q) (hj : jj < 64) (hi : 4 * jj + 3 < L) (hI2 : Inv2 D a b jj wc wm) (hW : Wd X D A (wc ++ wm) H locs) (hl : lv_has ls 4 (lw_lv bS (a 0) (b 0) (4 * jj))) (hkn : k ≤ room_1.cells ∧ n ≤ room_1.slots) (kk : ∀ (wc wm : va_W) (H : Heap) (locs : List Loc), Inv2 D a b (jj + 1) wc wm → Wd X D A (wc ++ wm) H locs → Wx X k n H locs 981 ls []) : Wx X k n H locs 755 ls [] := by
  obtain ⟨r, P, Q, hP, hQ, hN⟩ := st_cheapest (cxL X) hj hI2 _ (iI_rng (xs (4 * jj + 1)))
  obtain ⟨fs, hc⟩ := hI2.hc
  obtain ⟨fs2, hm⟩ := hI2.hm
  refine x_aload_n hx dL_law_755 hl 2 rfl ?_
  refine lw_arg (c := 1) hx hF hW hl (by omega) dL_law_756 dL_law_757 dL_law_758 dL_law_759 dL_law_760 ?_
  refine x_callU (rest := []) (w1 := wc) (w2 := wm) hx yv_X7_cheapest hP wm_RL_110 hA hW hc rfl ⟨rfl, rfl⟩ ⟨by decide, by decide⟩ hkn hl rfl rfl (by decide) dL_law_761 (fun w H locs hP9 hW => ?_)
  refine x_aload_n hx dL_law_764 hl 1 rfl ?_
  refine lw_arg (c := 1) hx hF hW hl (by omega) dL_law_765 dL_law_766 dL_law_767 dL_law_768 dL_law_769 ?_
  refine x_callU (rest := [.int r]) (w1 := wm) (w2 := w) hx yv_X8_cheapest hQ wm_RL_113 hA hW hm rfl ⟨rfl, rfl⟩ ⟨by decide, by decide⟩ hkn hl rfl rfl (Nat.le_of_ble_eq_true rfl) dL_law_770 (fun w2 H locs hQ9 hW => ?_)
  exact x_icmp_eq_I (tgt := 981) hx dL_law_773 rfl (fun _ => kk w w2 H locs (hN w w2 hP9 hQ9) hW) (fun h => absurd rfl h)
theorem lw_k_wrong {X : CX} {k n : Nat} {H : Heap} {locs : List Loc} {ls : Array Slot} {D : KD} {A : Nat → Prop} {bS L : Nat} {xs : Nat → Int32} {a b : Nat → Nat} {wc wm : va_W} {jj : Nat} (hx : Ok X cL_law "CubeDaysLaw" 4 room_1 D) (hF : SF X A bS L xs) (hA : ∀ q : Nat, (cxS X).heap.size ≤ q → A q) (hj : jj < 64) (hi : 4 * jj + 3 < L) (hI2 : Inv2 D a b jj wc wm) (hW : Wd X D A (wc ++ wm) H locs) (hl : lv_has ls 4 (lw_lv bS (a 0) (b 0) (4 * jj))) (hkn : k ≤ room_1.cells ∧ n ≤ room_1.slots) (kk : ∀ (wc wm : va_W) (H : Heap) (locs : List Loc), Inv2 D a b (jj + 1) wc wm → Wd X D A (wc ++ wm) H locs → Wx X k n H locs 981 ls []) : Wx X k n H locs 778 ls [] := by
  obtain ⟨r, P, Q, hP, hQ, hN⟩ := st_wrong (cxL X) hj hI2 _ (decide ((xs (4 * jj + 2)).toInt ≠ 0)) (iI_rng (xs (4 * jj + 1)))
  obtain ⟨fs, hc⟩ := hI2.hc
  obtain ⟨fs2, hm⟩ := hI2.hm
  refine x_aload_n hx dL_law_778 hl 2 rfl ?_
  refine lw_arg (c := 1) hx hF hW hl (by omega) dL_law_779 dL_law_780 dL_law_781 dL_law_782 dL_law_783 ?_
  refine lw_arg (c := 2) hx hF hW hl (by omega) dL_law_784 dL_law_785 dL_law_786 dL_law_787 dL_law_788 ?_
  refine lw_bool hx (iI_rng _) dL_law_789 dL_law_792 dL_law_793 dL_law_796 ?_
  refine x_callU (rest := []) (w1 := wc) (w2 := wm) hx yv_X7_wrong hP wm_RL_114 hA hW hc rfl ⟨rfl, rfl⟩ ⟨by decide, by decide⟩ hkn hl rfl rfl (by decide) dL_law_797 (fun w H locs hP9 hW => ?_)
  refine x_aload_n hx dL_law_800 hl 1 rfl ?_
  refine lw_arg (c := 1) hx hF hW hl (by omega) dL_law_801 dL_law_802 dL_law_803 dL_law_804 dL_law_805 ?_
  refine lw_arg (c := 2) hx hF hW hl (by omega) dL_law_806 dL_law_807 dL_law_808 dL_law_809 dL_law_810 ?_
  refine lw_bool hx (iI_rng _) dL_law_811 dL_law_814 dL_law_815 dL_law_818 ?_
  refine x_callU (rest := [.int r]) (w1 := wm) (w2 := w) hx yv_X8_wrong hQ wm_RL_117 hA hW hm rfl ⟨rfl, rfl⟩ ⟨by decide, by decide⟩ hkn hl rfl rfl (Nat.le_of_ble_eq_true rfl) dL_law_819 (fun w2 H locs hQ9 hW => ?_)
  exact x_icmp_eq_I (tgt := 981) hx dL_law_822 rfl (fun _ => kk w w2 H locs (hN w w2 hP9 hQ9) hW) (fun h => absurd rfl h)
theorem lw_k_paintedOver {X : CX} {k n : Nat} {H : Heap} {locs : List Loc} {ls : Array Slot} {D : KD} {A : Nat → Prop} {bS L : Nat} {xs : Nat → Int32} {a b : Nat → Nat} {wc wm : va_W} {jj : Nat} (hx : Ok X cL_law "CubeDaysLaw" 4 room_1 D) (hF : SF X A bS L xs) (hA : ∀ q : Nat, (cxS X).heap.size ≤ q → A q) (hj : jj < 64) (hi : 4 * jj + 3 < L) (hI2 : Inv2 D a b jj wc wm) (hW : Wd X D A (wc ++ wm) H locs) (hl : lv_has ls 4 (lw_lv bS (a 0) (b 0) (4 * jj))) (hkn : k ≤ room_1.cells ∧ n ≤ room_1.slots) (kk : ∀ (wc wm : va_W) (H : Heap) (locs : List Loc), Inv2 D a b (jj + 1) wc wm → Wd X D A (wc ++ wm) H locs → Wx X k n H locs 981 ls []) : Wx X k n H locs 827 ls [] := by
  obtain ⟨r, P, Q, hP, hQ, hN⟩ := st_paintedOver (cxL X) hj hI2 _ (iI_rng (xs (4 * jj + 1)))
  obtain ⟨fs, hc⟩ := hI2.hc
  obtain ⟨fs2, hm⟩ := hI2.hm
  refine x_aload_n hx dL_law_827 hl 2 rfl ?_
  refine lw_arg (c := 1) hx hF hW hl (by omega) dL_law_828 dL_law_829 dL_law_830 dL_law_831 dL_law_832 ?_
  refine x_callU (rest := []) (w1 := wc) (w2 := wm) hx yv_X7_paintedOver hP wm_RL_118 hA hW hc rfl ⟨rfl, rfl⟩ ⟨by decide, by decide⟩ hkn hl rfl rfl (by decide) dL_law_833 (fun w H locs hP9 hW => ?_)
  refine x_aload_n hx dL_law_836 hl 1 rfl ?_
  refine lw_arg (c := 1) hx hF hW hl (by omega) dL_law_837 dL_law_838 dL_law_839 dL_law_840 dL_law_841 ?_
  refine x_callU (rest := [.int r]) (w1 := wm) (w2 := w) hx yv_X8_paintedOver hQ wm_RL_121 hA hW hm rfl ⟨rfl, rfl⟩ ⟨by decide, by decide⟩ hkn hl rfl rfl (Nat.le_of_ble_eq_true rfl) dL_law_842 (fun w2 H locs hQ9 hW => ?_)
  exact x_icmp_eq_I (tgt := 981) hx dL_law_845 rfl (fun _ => kk w w2 H locs (hN w w2 hP9 hQ9) hW) (fun h => absurd rfl h)
theorem lw_k_lookOn {X : CX} {k n : Nat} {H : Heap} {locs : List Loc} {ls : Array Slot} {D : KD} {A : Nat → Prop} {bS L : Nat} {xs : Nat → Int32} {a b : Nat → Nat} {wc wm : va_W} {jj : Nat} (hx : Ok X cL_law "CubeDaysLaw" 4 room_1 D) (hF : SF X A bS L xs) (hA : ∀ q : Nat, (cxS X).heap.size ≤ q → A q) (hj : jj < 64) (hi : 4 * jj + 3 < L) (hI2 : Inv2 D a b jj wc wm) (hW : Wd X D A (wc ++ wm) H locs) (hl : lv_has ls 4 (lw_lv bS (a 0) (b 0) (4 * jj))) (hkn : k ≤ room_1.cells ∧ n ≤ room_1.slots) (kk : ∀ (wc wm : va_W) (H : Heap) (locs : List Loc), Inv2 D a b (jj + 1) wc wm → Wd X D A (wc ++ wm) H locs → Wx X k n H locs 981 ls []) : Wx X k n H locs 850 ls [] := by
  obtain ⟨r, P, Q, hP, hQ, hN⟩ := st_lookOn (cxL X) hj hI2  
  obtain ⟨fs, hc⟩ := hI2.hc
  obtain ⟨fs2, hm⟩ := hI2.hm
  refine x_aload_n hx dL_law_850 hl 2 rfl ?_
  refine x_callU (rest := []) (w1 := wc) (w2 := wm) hx yv_X7_lookOn hP wm_RL_122 hA hW hc rfl ⟨rfl, rfl⟩ ⟨by decide, by decide⟩ hkn hl rfl rfl (by decide) dL_law_851 (fun w H locs hP9 hW => ?_)
  refine x_aload_n hx dL_law_854 hl 1 rfl ?_
  refine x_callU (rest := [.int r]) (w1 := wm) (w2 := w) hx yv_X8_lookOn hQ wm_RL_125 hA hW hm rfl ⟨rfl, rfl⟩ ⟨by decide, by decide⟩ hkn hl rfl rfl (Nat.le_of_ble_eq_true rfl) dL_law_855 (fun w2 H locs hQ9 hW => ?_)
  exact x_icmp_eq_I (tgt := 981) hx dL_law_858 rfl (fun _ => kk w w2 H locs (hN w w2 hP9 hQ9) hW) (fun h => absurd rfl h)
theorem lw_k_write {X : CX} {k n : Nat} {H : Heap} {locs : List Loc} {ls : Array Slot} {D : KD} {A : Nat → Prop} {bS L : Nat} {xs : Nat → Int32} {a b : Nat → Nat} {wc wm : va_W} {jj : Nat} (hx : Ok X cL_law "CubeDaysLaw" 4 room_1 D) (hF : SF X A bS L xs) (hA : ∀ q : Nat, (cxS X).heap.size ≤ q → A q) (hj : jj < 64) (hi : 4 * jj + 3 < L) (hI2 : Inv2 D a b jj wc wm) (hW : Wd X D A (wc ++ wm) H locs) (hl : lv_has ls 4 (lw_lv bS (a 0) (b 0) (4 * jj))) (hkn : k ≤ room_1.cells ∧ n ≤ room_1.slots) (kk : ∀ (wc wm : va_W) (H : Heap) (locs : List Loc), Inv2 D a b (jj + 1) wc wm → Wd X D A (wc ++ wm) H locs → Wx X k n H locs 981 ls []) : Wx X k n H locs 863 ls [] := by
  obtain ⟨r, P, Q, hP, hQ, hN⟩ := st_write (cxL X) hj hI2 _ (iI_rng (xs (4 * jj + 1)))
  obtain ⟨fs, hc⟩ := hI2.hc
  obtain ⟨fs2, hm⟩ := hI2.hm
  refine x_aload_n hx dL_law_863 hl 2 rfl ?_
  refine lw_arg (c := 1) hx hF hW hl (by omega) dL_law_864 dL_law_865 dL_law_866 dL_law_867 dL_law_868 ?_
  refine x_callU (rest := []) (w1 := wc) (w2 := wm) hx yv_X7_write hP wm_RL_126 hA hW hc rfl ⟨rfl, rfl⟩ ⟨by decide, by decide⟩ hkn hl rfl rfl (by decide) dL_law_869 (fun w H locs hP9 hW => ?_)
  refine x_aload_n hx dL_law_872 hl 1 rfl ?_
  refine lw_arg (c := 1) hx hF hW hl (by omega) dL_law_873 dL_law_874 dL_law_875 dL_law_876 dL_law_877 ?_
  refine x_callU (rest := [.int r]) (w1 := wm) (w2 := w) hx yv_X8_write hQ wm_RL_129 hA hW hm rfl ⟨rfl, rfl⟩ ⟨by decide, by decide⟩ hkn hl rfl rfl (Nat.le_of_ble_eq_true rfl) dL_law_878 (fun w2 H locs hQ9 hW => ?_)
  exact x_icmp_eq_I (tgt := 981) hx dL_law_881 rfl (fun _ => kk w w2 H locs (hN w w2 hP9 hQ9) hW) (fun h => absurd rfl h)
theorem lw_k_tear {X : CX} {k n : Nat} {H : Heap} {locs : List Loc} {ls : Array Slot} {D : KD} {A : Nat → Prop} {bS L : Nat} {xs : Nat → Int32} {a b : Nat → Nat} {wc wm : va_W} {jj : Nat} (hx : Ok X cL_law "CubeDaysLaw" 4 room_1 D) (hF : SF X A bS L xs) (hA : ∀ q : Nat, (cxS X).heap.size ≤ q → A q) (hj : jj < 64) (hi : 4 * jj + 3 < L) (hI2 : Inv2 D a b jj wc wm) (hW : Wd X D A (wc ++ wm) H locs) (hl : lv_has ls 4 (lw_lv bS (a 0) (b 0) (4 * jj))) (hkn : k ≤ room_1.cells ∧ n ≤ room_1.slots) (kk : ∀ (wc wm : va_W) (H : Heap) (locs : List Loc), Inv2 D a b (jj + 1) wc wm → Wd X D A (wc ++ wm) H locs → Wx X k n H locs 981 ls []) : Wx X k n H locs 886 ls [] := by
  obtain ⟨r, P, Q, hP, hQ, hN⟩ := st_tear (cxL X) hj hI2  
  obtain ⟨fs, hc⟩ := hI2.hc
  obtain ⟨fs2, hm⟩ := hI2.hm
  refine x_aload_n hx dL_law_886 hl 2 rfl ?_
  refine x_callU (rest := []) (w1 := wc) (w2 := wm) hx yv_X7_tear hP wm_RL_130 hA hW hc rfl ⟨rfl, rfl⟩ ⟨by decide, by decide⟩ hkn hl rfl rfl (by decide) dL_law_887 (fun w H locs hP9 hW => ?_)
  refine x_aload_n hx dL_law_890 hl 1 rfl ?_
  refine x_callU (rest := [.int r]) (w1 := wm) (w2 := w) hx yv_X8_tear hQ wm_RL_133 hA hW hm rfl ⟨rfl, rfl⟩ ⟨by decide, by decide⟩ hkn hl rfl rfl (Nat.le_of_ble_eq_true rfl) dL_law_891 (fun w2 H locs hQ9 hW => ?_)
  exact x_icmp_eq_I (tgt := 981) hx dL_law_894 rfl (fun _ => kk w w2 H locs (hN w w2 hP9 hQ9) hW) (fun h => absurd rfl h)
theorem lw_k_judge {X : CX} {k n : Nat} {H : Heap} {locs : List Loc} {ls : Array Slot} {D : KD} {A : Nat → Prop} {bS L : Nat} {xs : Nat → Int32} {a b : Nat → Nat} {wc wm : va_W} {jj : Nat} (hx : Ok X cL_law "CubeDaysLaw" 4 room_1 D) (hF : SF X A bS L xs) (hA : ∀ q : Nat, (cxS X).heap.size ≤ q → A q) (hj : jj < 64) (hi : 4 * jj + 3 < L) (hI2 : Inv2 D a b jj wc wm) (hW : Wd X D A (wc ++ wm) H locs) (hl : lv_has ls 4 (lw_lv bS (a 0) (b 0) (4 * jj))) (hkn : k ≤ room_1.cells ∧ n ≤ room_1.slots) (kk : ∀ (wc wm : va_W) (H : Heap) (locs : List Loc), Inv2 D a b (jj + 1) wc wm → Wd X D A (wc ++ wm) H locs → Wx X k n H locs 981 ls []) : Wx X k n H locs 899 ls [] := by
  obtain ⟨r, P, Q, hP, hQ, hN⟩ := st_judge (cxL X) hj hI2  
  obtain ⟨fs, hc⟩ := hI2.hc
  obtain ⟨fs2, hm⟩ := hI2.hm
  refine x_aload_n hx dL_law_899 hl 2 rfl ?_
  refine x_callU (rest := []) (w1 := wc) (w2 := wm) hx yv_X7_judge hP wm_RL_134 hA hW hc rfl ⟨rfl, rfl⟩ ⟨by decide, by decide⟩ hkn hl rfl rfl (by decide) dL_law_900 (fun w H locs hP9 hW => ?_)
  refine x_aload_n hx dL_law_903 hl 1 rfl ?_
  refine x_callU (rest := [.int r]) (w1 := wm) (w2 := w) hx yv_X8_judge hQ wm_RL_137 hA hW hm rfl ⟨rfl, rfl⟩ ⟨by decide, by decide⟩ hkn hl rfl rfl (Nat.le_of_ble_eq_true rfl) dL_law_904 (fun w2 H locs hQ9 hW => ?_)
  exact x_icmp_eq_I (tgt := 981) hx dL_law_907 rfl (fun _ => kk w w2 H locs (hN w w2 hP9 hQ9) hW) (fun h => absurd rfl h)
theorem lw_k_seed {X : CX} {k n : Nat} {H : Heap} {locs : List Loc} {ls : Array Slot} {D : KD} {A : Nat → Prop} {bS L : Nat} {xs : Nat → Int32} {a b : Nat → Nat} {wc wm : va_W} {jj : Nat} (hx : Ok X cL_law "CubeDaysLaw" 4 room_1 D) (hF : SF X A bS L xs) (hA : ∀ q : Nat, (cxS X).heap.size ≤ q → A q) (hj : jj < 64) (hi : 4 * jj + 3 < L) (hI2 : Inv2 D a b jj wc wm) (hW : Wd X D A (wc ++ wm) H locs) (hl : lv_has ls 4 (lw_lv bS (a 0) (b 0) (4 * jj))) (hkn : k ≤ room_1.cells ∧ n ≤ room_1.slots) (kk : ∀ (wc wm : va_W) (H : Heap) (locs : List Loc), Inv2 D a b (jj + 1) wc wm → Wd X D A (wc ++ wm) H locs → Wx X k n H locs 981 ls []) : Wx X k n H locs 912 ls [] := by
  obtain ⟨r, P, Q, hP, hQ, hN⟩ := st_seed (cxL X) hj hI2 _ (iI_rng (xs (4 * jj + 1)))
  obtain ⟨fs, hc⟩ := hI2.hc
  obtain ⟨fs2, hm⟩ := hI2.hm
  refine x_aload_n hx dL_law_912 hl 2 rfl ?_
  refine lw_arg (c := 1) hx hF hW hl (by omega) dL_law_913 dL_law_914 dL_law_915 dL_law_916 dL_law_917 ?_
  refine x_callU (rest := []) (w1 := wc) (w2 := wm) hx yv_X7_seed hP wm_RL_138 hA hW hc rfl ⟨rfl, rfl⟩ ⟨by decide, by decide⟩ hkn hl rfl rfl (by decide) dL_law_918 (fun w H locs hP9 hW => ?_)
  refine x_aload_n hx dL_law_921 hl 1 rfl ?_
  refine lw_arg (c := 1) hx hF hW hl (by omega) dL_law_922 dL_law_923 dL_law_924 dL_law_925 dL_law_926 ?_
  refine x_callU (rest := [.int r]) (w1 := wm) (w2 := w) hx yv_X8_seed hQ wm_RL_141 hA hW hm rfl ⟨rfl, rfl⟩ ⟨by decide, by decide⟩ hkn hl rfl rfl (Nat.le_of_ble_eq_true rfl) dL_law_927 (fun w2 H locs hQ9 hW => ?_)
  exact x_icmp_eq_I (tgt := 981) hx dL_law_930 rfl (fun _ => kk w w2 H locs (hN w w2 hP9 hQ9) hW) (fun h => absurd rfl h)
theorem lw_k_keep {X : CX} {k n : Nat} {H : Heap} {locs : List Loc} {ls : Array Slot} {D : KD} {A : Nat → Prop} {bS L : Nat} {xs : Nat → Int32} {a b : Nat → Nat} {wc wm : va_W} {jj : Nat} (hx : Ok X cL_law "CubeDaysLaw" 4 room_1 D) (hF : SF X A bS L xs) (hA : ∀ q : Nat, (cxS X).heap.size ≤ q → A q) (hj : jj < 64) (hi : 4 * jj + 3 < L) (hI2 : Inv2 D a b jj wc wm) (hW : Wd X D A (wc ++ wm) H locs) (hl : lv_has ls 4 (lw_lv bS (a 0) (b 0) (4 * jj))) (hkn : k ≤ room_1.cells ∧ n ≤ room_1.slots) (kk : ∀ (wc wm : va_W) (H : Heap) (locs : List Loc), Inv2 D a b (jj + 1) wc wm → Wd X D A (wc ++ wm) H locs → Wx X k n H locs 981 ls []) : Wx X k n H locs 935 ls [] := by
  obtain ⟨r, P, Q, hP, hQ, hN⟩ := st_keep (cxL X) hj hI2 _ (iI_rng (xs (4 * jj + 1)))
  obtain ⟨fs, hc⟩ := hI2.hc
  obtain ⟨fs2, hm⟩ := hI2.hm
  refine x_aload_n hx dL_law_935 hl 2 rfl ?_
  refine lw_arg (c := 1) hx hF hW hl (by omega) dL_law_936 dL_law_937 dL_law_938 dL_law_939 dL_law_940 ?_
  refine x_callU (rest := []) (w1 := wc) (w2 := wm) hx yv_X7_keep hP wm_RL_142 hA hW hc rfl ⟨rfl, rfl⟩ ⟨by decide, by decide⟩ hkn hl rfl rfl (by decide) dL_law_941 (fun w H locs hP9 hW => ?_)
  refine x_aload_n hx dL_law_944 hl 1 rfl ?_
  refine lw_arg (c := 1) hx hF hW hl (by omega) dL_law_945 dL_law_946 dL_law_947 dL_law_948 dL_law_949 ?_
  refine x_callU (rest := [.int r]) (w1 := wm) (w2 := w) hx yv_X8_keep hQ wm_RL_145 hA hW hm rfl ⟨rfl, rfl⟩ ⟨by decide, by decide⟩ hkn hl rfl rfl (Nat.le_of_ble_eq_true rfl) dL_law_950 (fun w2 H locs hQ9 hW => ?_)
  exact x_icmp_eq_I (tgt := 981) hx dL_law_953 rfl (fun _ => kk w w2 H locs (hN w w2 hP9 hQ9) hW) (fun h => absurd rfl h)
theorem lw_k_goBack {X : CX} {k n : Nat} {H : Heap} {locs : List Loc} {ls : Array Slot} {D : KD} {A : Nat → Prop} {bS L : Nat} {xs : Nat → Int32} {a b : Nat → Nat} {wc wm : va_W} {jj : Nat} (hx : Ok X cL_law "CubeDaysLaw" 4 room_1 D) (hF : SF X A bS L xs) (hA : ∀ q : Nat, (cxS X).heap.size ≤ q → A q) (hj : jj < 64) (hi : 4 * jj + 3 < L) (hI2 : Inv2 D a b jj wc wm) (hW : Wd X D A (wc ++ wm) H locs) (hl : lv_has ls 4 (lw_lv bS (a 0) (b 0) (4 * jj))) (hkn : k ≤ room_1.cells ∧ n ≤ room_1.slots) (kk : ∀ (wc wm : va_W) (H : Heap) (locs : List Loc), Inv2 D a b (jj + 1) wc wm → Wd X D A (wc ++ wm) H locs → Wx X k n H locs 981 ls []) : Wx X k n H locs 958 ls [] := by
  obtain ⟨r, P, Q, hP, hQ, hN⟩ := st_goBack (cxL X) hj hI2 _ (iI_rng (xs (4 * jj + 1)))
  obtain ⟨fs, hc⟩ := hI2.hc
  obtain ⟨fs2, hm⟩ := hI2.hm
  refine x_aload_n hx dL_law_958 hl 2 rfl ?_
  refine lw_arg (c := 1) hx hF hW hl (by omega) dL_law_959 dL_law_960 dL_law_961 dL_law_962 dL_law_963 ?_
  refine x_callU (rest := []) (w1 := wc) (w2 := wm) hx yv_X7_goBack hP wm_RL_146 hA hW hc rfl ⟨rfl, rfl⟩ ⟨by decide, by decide⟩ hkn hl rfl rfl (by decide) dL_law_964 (fun w H locs hP9 hW => ?_)
  refine x_aload_n hx dL_law_967 hl 1 rfl ?_
  refine lw_arg (c := 1) hx hF hW hl (by omega) dL_law_968 dL_law_969 dL_law_970 dL_law_971 dL_law_972 ?_
  refine x_callU (rest := [.int r]) (w1 := wm) (w2 := w) hx yv_X8_goBack hQ wm_RL_149 hA hW hm rfl ⟨rfl, rfl⟩ ⟨by decide, by decide⟩ hkn hl rfl rfl (Nat.le_of_ble_eq_true rfl) dL_law_973 (fun w2 H locs hQ9 hW => ?_)
  exact x_icmp_eq_I (tgt := 981) hx dL_law_976 rfl (fun _ => kk w w2 H locs (hN w w2 hP9 hQ9) hW) (fun h => absurd rfl h)
