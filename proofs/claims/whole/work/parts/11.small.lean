/-! bits of a set, the least one -/
def ush (x : Int32) (k : Nat) : Int32 := ((x).toUInt32 >>> ((nI k).toUInt32 &&& Int32.toUInt32 31)).toInt32
def bit1 (x : Int32) : Int32 := x - (ush x 1 &&& nI 1431655765)
def bit2 (x : Int32) : Int32 := (x &&& nI 858993459) + (ush x 2 &&& nI 858993459)
def bit3 (x : Int32) : Int32 := (x + ush x 4) &&& nI 252645135
def bit4 (x : Int32) : Int32 := x + ush x 8
def bit5 (x : Int32) : Int32 := x + ush x 16
def bitC (x : Int32) : Int32 := bit5 (bit4 (bit3 (bit2 (bit1 x)))) &&& nI 63
def popc (m : Nat) : Nat := cntN (fun k => m.testBit k) 10
def lowB (m : Nat) : Nat := if m.testBit 0 then 0 else if m.testBit 1 then 1 else if m.testBit 2 then 2 else if m.testBit 3 then 3 else if m.testBit 4 then 4 else if m.testBit 5 then 5 else if m.testBit 6 then 6 else if m.testBit 7 then 7 else if m.testBit 8 then 8 else 9
theorem bitC_p : ∀ m, m < 1024 → bitC (nI m) = nI (popc m) := by decide +kernel
theorem bitC_l : ∀ m, m < 1024 → 0 < m → bitC ((nI m &&& (-(nI m))) - nI 1) = nI (lowB m) := by decide +kernel
theorem popc_le (m : Nat) : popc m ≤ 10 := cntN_le _ 10
theorem lowB_lt (m : Nat) : lowB m < 10 := by
  unfold lowB
  repeat' split
  all_goals omega
set_option maxHeartbeats 4000000 in
set_option maxRecDepth 100000 in
theorem c_J6_bitCount_0f7a4 (l : Launch) (D : KD) (x : Int32)  : cR l yJ6_bitCount_0f7a4 cJ6_bitCount_0f7a4 1 (some .int) rm_J6_bitCount_0f7a4 D [] [.int x] (bitC x) := by
  refine cR.mkF (by decide +kernel) (retI _) (Nat.le_of_ble_eq_true rfl) ?_
  intro X hx hL hP hret ls hl
  subst hL
  have hl : lv_has ls 1 [(0, .int x)] := hl
  refine x_iload_n hx dJ6_bitCount_0f7a4_0 hl 0 rfl ?_
  refine x_iload_n hx dJ6_bitCount_0f7a4_1 hl 0 rfl ?_
  refine x_iconst (v := nI 1) hx dJ6_bitCount_0f7a4_2 (by decide) ?_
  refine x_iushr hx dJ6_bitCount_0f7a4_3 rfl ?_
  refine x_ldcw (u := nI 1431655765) hx wk_RJ6_265 (by decide) dJ6_bitCount_0f7a4_4 ?_
  refine x_iand (v := (((x).toUInt32 >>> ((nI 1).toUInt32 &&& Int32.toUInt32 31)).toInt32 &&& nI 1431655765)) hx dJ6_bitCount_0f7a4_7 (rfl) ?_
  refine x_isub (v := (x - (((x).toUInt32 >>> ((nI 1).toUInt32 &&& Int32.toUInt32 31)).toInt32 &&& nI 1431655765))) hx dJ6_bitCount_0f7a4_8 (rfl) ?_
  refine x_istore_n (lv' := [(0, .int (x - (((x).toUInt32 >>> ((nI 1).toUInt32 &&& Int32.toUInt32 31)).toInt32 &&& nI 1431655765)))]) hx dJ6_bitCount_0f7a4_9 hl (Nat.le_of_ble_eq_true rfl) rfl (fun ls hl => ?_)
  refine x_iload_n hx dJ6_bitCount_0f7a4_10 hl 0 rfl ?_
  refine x_ldcw (u := nI 858993459) hx wk_RJ6_266 (by decide) dJ6_bitCount_0f7a4_11 ?_
  refine x_iand (v := ((x - (((x).toUInt32 >>> ((nI 1).toUInt32 &&& Int32.toUInt32 31)).toInt32 &&& nI 1431655765)) &&& nI 858993459)) hx dJ6_bitCount_0f7a4_14 (rfl) ?_
  refine x_iload_n hx dJ6_bitCount_0f7a4_15 hl 0 rfl ?_
  refine x_iconst (v := nI 2) hx dJ6_bitCount_0f7a4_16 (by decide) ?_
  refine x_iushr hx dJ6_bitCount_0f7a4_17 rfl ?_
  refine x_ldcw (u := nI 858993459) hx wk_RJ6_266 (by decide) dJ6_bitCount_0f7a4_18 ?_
  refine x_iand (v := ((((x - (((x).toUInt32 >>> ((nI 1).toUInt32 &&& Int32.toUInt32 31)).toInt32 &&& nI 1431655765))).toUInt32 >>> ((nI 2).toUInt32 &&& Int32.toUInt32 31)).toInt32 &&& nI 858993459)) hx dJ6_bitCount_0f7a4_21 (rfl) ?_
  refine x_iadd (v := (((x - (((x).toUInt32 >>> ((nI 1).toUInt32 &&& Int32.toUInt32 31)).toInt32 &&& nI 1431655765)) &&& nI 858993459) + ((((x - (((x).toUInt32 >>> ((nI 1).toUInt32 &&& Int32.toUInt32 31)).toInt32 &&& nI 1431655765))).toUInt32 >>> ((nI 2).toUInt32 &&& Int32.toUInt32 31)).toInt32 &&& nI 858993459))) hx dJ6_bitCount_0f7a4_22 (rfl) ?_
  refine x_istore_n (lv' := [(0, .int (((x - (((x).toUInt32 >>> ((nI 1).toUInt32 &&& Int32.toUInt32 31)).toInt32 &&& nI 1431655765)) &&& nI 858993459) + ((((x - (((x).toUInt32 >>> ((nI 1).toUInt32 &&& Int32.toUInt32 31)).toInt32 &&& nI 1431655765))).toUInt32 >>> ((nI 2).toUInt32 &&& Int32.toUInt32 31)).toInt32 &&& nI 858993459)))]) hx dJ6_bitCount_0f7a4_23 hl (Nat.le_of_ble_eq_true rfl) rfl (fun ls hl => ?_)
  refine x_iload_n hx dJ6_bitCount_0f7a4_24 hl 0 rfl ?_
  refine x_iload_n hx dJ6_bitCount_0f7a4_25 hl 0 rfl ?_
  refine x_iconst (v := nI 4) hx dJ6_bitCount_0f7a4_26 (by decide) ?_
  refine x_iushr hx dJ6_bitCount_0f7a4_27 rfl ?_
  refine x_iadd (v := ((((x - (((x).toUInt32 >>> ((nI 1).toUInt32 &&& Int32.toUInt32 31)).toInt32 &&& nI 1431655765)) &&& nI 858993459) + ((((x - (((x).toUInt32 >>> ((nI 1).toUInt32 &&& Int32.toUInt32 31)).toInt32 &&& nI 1431655765))).toUInt32 >>> ((nI 2).toUInt32 &&& Int32.toUInt32 31)).toInt32 &&& nI 858993459)) + (((((x - (((x).toUInt32 >>> ((nI 1).toUInt32 &&& Int32.toUInt32 31)).toInt32 &&& nI 1431655765)) &&& nI 858993459) + ((((x - (((x).toUInt32 >>> ((nI 1).toUInt32 &&& Int32.toUInt32 31)).toInt32 &&& nI 1431655765))).toUInt32 >>> ((nI 2).toUInt32 &&& Int32.toUInt32 31)).toInt32 &&& nI 858993459))).toUInt32 >>> ((nI 4).toUInt32 &&& Int32.toUInt32 31)).toInt32)) hx dJ6_bitCount_0f7a4_28 (rfl) ?_
  refine x_ldcw (u := nI 252645135) hx wk_RJ6_267 (by decide) dJ6_bitCount_0f7a4_29 ?_
  refine x_iand (v := (((((x - (((x).toUInt32 >>> ((nI 1).toUInt32 &&& Int32.toUInt32 31)).toInt32 &&& nI 1431655765)) &&& nI 858993459) + ((((x - (((x).toUInt32 >>> ((nI 1).toUInt32 &&& Int32.toUInt32 31)).toInt32 &&& nI 1431655765))).toUInt32 >>> ((nI 2).toUInt32 &&& Int32.toUInt32 31)).toInt32 &&& nI 858993459)) + (((((x - (((x).toUInt32 >>> ((nI 1).toUInt32 &&& Int32.toUInt32 31)).toInt32 &&& nI 1431655765)) &&& nI 858993459) + ((((x - (((x).toUInt32 >>> ((nI 1).toUInt32 &&& Int32.toUInt32 31)).toInt32 &&& nI 1431655765))).toUInt32 >>> ((nI 2).toUInt32 &&& Int32.toUInt32 31)).toInt32 &&& nI 858993459))).toUInt32 >>> ((nI 4).toUInt32 &&& Int32.toUInt32 31)).toInt32) &&& nI 252645135)) hx dJ6_bitCount_0f7a4_32 (rfl) ?_
  refine x_istore_n (lv' := [(0, .int (((((x - (((x).toUInt32 >>> ((nI 1).toUInt32 &&& Int32.toUInt32 31)).toInt32 &&& nI 1431655765)) &&& nI 858993459) + ((((x - (((x).toUInt32 >>> ((nI 1).toUInt32 &&& Int32.toUInt32 31)).toInt32 &&& nI 1431655765))).toUInt32 >>> ((nI 2).toUInt32 &&& Int32.toUInt32 31)).toInt32 &&& nI 858993459)) + (((((x - (((x).toUInt32 >>> ((nI 1).toUInt32 &&& Int32.toUInt32 31)).toInt32 &&& nI 1431655765)) &&& nI 858993459) + ((((x - (((x).toUInt32 >>> ((nI 1).toUInt32 &&& Int32.toUInt32 31)).toInt32 &&& nI 1431655765))).toUInt32 >>> ((nI 2).toUInt32 &&& Int32.toUInt32 31)).toInt32 &&& nI 858993459))).toUInt32 >>> ((nI 4).toUInt32 &&& Int32.toUInt32 31)).toInt32) &&& nI 252645135))]) hx dJ6_bitCount_0f7a4_33 hl (Nat.le_of_ble_eq_true rfl) rfl (fun ls hl => ?_)
  refine x_iload_n hx dJ6_bitCount_0f7a4_34 hl 0 rfl ?_
  refine x_iload_n hx dJ6_bitCount_0f7a4_35 hl 0 rfl ?_
  refine x_bipush (v := nI 8) hx dJ6_bitCount_0f7a4_36 (by decide) ?_
  refine x_iushr hx dJ6_bitCount_0f7a4_38 rfl ?_
  refine x_iadd (v := ((((((x - (((x).toUInt32 >>> ((nI 1).toUInt32 &&& Int32.toUInt32 31)).toInt32 &&& nI 1431655765)) &&& nI 858993459) + ((((x - (((x).toUInt32 >>> ((nI 1).toUInt32 &&& Int32.toUInt32 31)).toInt32 &&& nI 1431655765))).toUInt32 >>> ((nI 2).toUInt32 &&& Int32.toUInt32 31)).toInt32 &&& nI 858993459)) + (((((x - (((x).toUInt32 >>> ((nI 1).toUInt32 &&& Int32.toUInt32 31)).toInt32 &&& nI 1431655765)) &&& nI 858993459) + ((((x - (((x).toUInt32 >>> ((nI 1).toUInt32 &&& Int32.toUInt32 31)).toInt32 &&& nI 1431655765))).toUInt32 >>> ((nI 2).toUInt32 &&& Int32.toUInt32 31)).toInt32 &&& nI 858993459))).toUInt32 >>> ((nI 4).toUInt32 &&& Int32.toUInt32 31)).toInt32) &&& nI 252645135) + (((((((x - (((x).toUInt32 >>> ((nI 1).toUInt32 &&& Int32.toUInt32 31)).toInt32 &&& nI 1431655765)) &&& nI 858993459) + ((((x - (((x).toUInt32 >>> ((nI 1).toUInt32 &&& Int32.toUInt32 31)).toInt32 &&& nI 1431655765))).toUInt32 >>> ((nI 2).toUInt32 &&& Int32.toUInt32 31)).toInt32 &&& nI 858993459)) + (((((x - (((x).toUInt32 >>> ((nI 1).toUInt32 &&& Int32.toUInt32 31)).toInt32 &&& nI 1431655765)) &&& nI 858993459) + ((((x - (((x).toUInt32 >>> ((nI 1).toUInt32 &&& Int32.toUInt32 31)).toInt32 &&& nI 1431655765))).toUInt32 >>> ((nI 2).toUInt32 &&& Int32.toUInt32 31)).toInt32 &&& nI 858993459))).toUInt32 >>> ((nI 4).toUInt32 &&& Int32.toUInt32 31)).toInt32) &&& nI 252645135)).toUInt32 >>> ((nI 8).toUInt32 &&& Int32.toUInt32 31)).toInt32)) hx dJ6_bitCount_0f7a4_39 (rfl) ?_
  refine x_istore_n (lv' := [(0, .int ((((((x - (((x).toUInt32 >>> ((nI 1).toUInt32 &&& Int32.toUInt32 31)).toInt32 &&& nI 1431655765)) &&& nI 858993459) + ((((x - (((x).toUInt32 >>> ((nI 1).toUInt32 &&& Int32.toUInt32 31)).toInt32 &&& nI 1431655765))).toUInt32 >>> ((nI 2).toUInt32 &&& Int32.toUInt32 31)).toInt32 &&& nI 858993459)) + (((((x - (((x).toUInt32 >>> ((nI 1).toUInt32 &&& Int32.toUInt32 31)).toInt32 &&& nI 1431655765)) &&& nI 858993459) + ((((x - (((x).toUInt32 >>> ((nI 1).toUInt32 &&& Int32.toUInt32 31)).toInt32 &&& nI 1431655765))).toUInt32 >>> ((nI 2).toUInt32 &&& Int32.toUInt32 31)).toInt32 &&& nI 858993459))).toUInt32 >>> ((nI 4).toUInt32 &&& Int32.toUInt32 31)).toInt32) &&& nI 252645135) + (((((((x - (((x).toUInt32 >>> ((nI 1).toUInt32 &&& Int32.toUInt32 31)).toInt32 &&& nI 1431655765)) &&& nI 858993459) + ((((x - (((x).toUInt32 >>> ((nI 1).toUInt32 &&& Int32.toUInt32 31)).toInt32 &&& nI 1431655765))).toUInt32 >>> ((nI 2).toUInt32 &&& Int32.toUInt32 31)).toInt32 &&& nI 858993459)) + (((((x - (((x).toUInt32 >>> ((nI 1).toUInt32 &&& Int32.toUInt32 31)).toInt32 &&& nI 1431655765)) &&& nI 858993459) + ((((x - (((x).toUInt32 >>> ((nI 1).toUInt32 &&& Int32.toUInt32 31)).toInt32 &&& nI 1431655765))).toUInt32 >>> ((nI 2).toUInt32 &&& Int32.toUInt32 31)).toInt32 &&& nI 858993459))).toUInt32 >>> ((nI 4).toUInt32 &&& Int32.toUInt32 31)).toInt32) &&& nI 252645135)).toUInt32 >>> ((nI 8).toUInt32 &&& Int32.toUInt32 31)).toInt32))]) hx dJ6_bitCount_0f7a4_40 hl (Nat.le_of_ble_eq_true rfl) rfl (fun ls hl => ?_)
  refine x_iload_n hx dJ6_bitCount_0f7a4_41 hl 0 rfl ?_
  refine x_iload_n hx dJ6_bitCount_0f7a4_42 hl 0 rfl ?_
  refine x_bipush (v := nI 16) hx dJ6_bitCount_0f7a4_43 (by decide) ?_
  refine x_iushr hx dJ6_bitCount_0f7a4_45 rfl ?_
  refine x_iadd (v := (((((((x - (((x).toUInt32 >>> ((nI 1).toUInt32 &&& Int32.toUInt32 31)).toInt32 &&& nI 1431655765)) &&& nI 858993459) + ((((x - (((x).toUInt32 >>> ((nI 1).toUInt32 &&& Int32.toUInt32 31)).toInt32 &&& nI 1431655765))).toUInt32 >>> ((nI 2).toUInt32 &&& Int32.toUInt32 31)).toInt32 &&& nI 858993459)) + (((((x - (((x).toUInt32 >>> ((nI 1).toUInt32 &&& Int32.toUInt32 31)).toInt32 &&& nI 1431655765)) &&& nI 858993459) + ((((x - (((x).toUInt32 >>> ((nI 1).toUInt32 &&& Int32.toUInt32 31)).toInt32 &&& nI 1431655765))).toUInt32 >>> ((nI 2).toUInt32 &&& Int32.toUInt32 31)).toInt32 &&& nI 858993459))).toUInt32 >>> ((nI 4).toUInt32 &&& Int32.toUInt32 31)).toInt32) &&& nI 252645135) + (((((((x - (((x).toUInt32 >>> ((nI 1).toUInt32 &&& Int32.toUInt32 31)).toInt32 &&& nI 1431655765)) &&& nI 858993459) + ((((x - (((x).toUInt32 >>> ((nI 1).toUInt32 &&& Int32.toUInt32 31)).toInt32 &&& nI 1431655765))).toUInt32 >>> ((nI 2).toUInt32 &&& Int32.toUInt32 31)).toInt32 &&& nI 858993459)) + (((((x - (((x).toUInt32 >>> ((nI 1).toUInt32 &&& Int32.toUInt32 31)).toInt32 &&& nI 1431655765)) &&& nI 858993459) + ((((x - (((x).toUInt32 >>> ((nI 1).toUInt32 &&& Int32.toUInt32 31)).toInt32 &&& nI 1431655765))).toUInt32 >>> ((nI 2).toUInt32 &&& Int32.toUInt32 31)).toInt32 &&& nI 858993459))).toUInt32 >>> ((nI 4).toUInt32 &&& Int32.toUInt32 31)).toInt32) &&& nI 252645135)).toUInt32 >>> ((nI 8).toUInt32 &&& Int32.toUInt32 31)).toInt32) + ((((((((x - (((x).toUInt32 >>> ((nI 1).toUInt32 &&& Int32.toUInt32 31)).toInt32 &&& nI 1431655765)) &&& nI 858993459) + ((((x - (((x).toUInt32 >>> ((nI 1).toUInt32 &&& Int32.toUInt32 31)).toInt32 &&& nI 1431655765))).toUInt32 >>> ((nI 2).toUInt32 &&& Int32.toUInt32 31)).toInt32 &&& nI 858993459)) + (((((x - (((x).toUInt32 >>> ((nI 1).toUInt32 &&& Int32.toUInt32 31)).toInt32 &&& nI 1431655765)) &&& nI 858993459) + ((((x - (((x).toUInt32 >>> ((nI 1).toUInt32 &&& Int32.toUInt32 31)).toInt32 &&& nI 1431655765))).toUInt32 >>> ((nI 2).toUInt32 &&& Int32.toUInt32 31)).toInt32 &&& nI 858993459))).toUInt32 >>> ((nI 4).toUInt32 &&& Int32.toUInt32 31)).toInt32) &&& nI 252645135) + (((((((x - (((x).toUInt32 >>> ((nI 1).toUInt32 &&& Int32.toUInt32 31)).toInt32 &&& nI 1431655765)) &&& nI 858993459) + ((((x - (((x).toUInt32 >>> ((nI 1).toUInt32 &&& Int32.toUInt32 31)).toInt32 &&& nI 1431655765))).toUInt32 >>> ((nI 2).toUInt32 &&& Int32.toUInt32 31)).toInt32 &&& nI 858993459)) + (((((x - (((x).toUInt32 >>> ((nI 1).toUInt32 &&& Int32.toUInt32 31)).toInt32 &&& nI 1431655765)) &&& nI 858993459) + ((((x - (((x).toUInt32 >>> ((nI 1).toUInt32 &&& Int32.toUInt32 31)).toInt32 &&& nI 1431655765))).toUInt32 >>> ((nI 2).toUInt32 &&& Int32.toUInt32 31)).toInt32 &&& nI 858993459))).toUInt32 >>> ((nI 4).toUInt32 &&& Int32.toUInt32 31)).toInt32) &&& nI 252645135)).toUInt32 >>> ((nI 8).toUInt32 &&& Int32.toUInt32 31)).toInt32)).toUInt32 >>> ((nI 16).toUInt32 &&& Int32.toUInt32 31)).toInt32)) hx dJ6_bitCount_0f7a4_46 (rfl) ?_
  refine x_istore_n (lv' := [(0, .int (((((((x - (((x).toUInt32 >>> ((nI 1).toUInt32 &&& Int32.toUInt32 31)).toInt32 &&& nI 1431655765)) &&& nI 858993459) + ((((x - (((x).toUInt32 >>> ((nI 1).toUInt32 &&& Int32.toUInt32 31)).toInt32 &&& nI 1431655765))).toUInt32 >>> ((nI 2).toUInt32 &&& Int32.toUInt32 31)).toInt32 &&& nI 858993459)) + (((((x - (((x).toUInt32 >>> ((nI 1).toUInt32 &&& Int32.toUInt32 31)).toInt32 &&& nI 1431655765)) &&& nI 858993459) + ((((x - (((x).toUInt32 >>> ((nI 1).toUInt32 &&& Int32.toUInt32 31)).toInt32 &&& nI 1431655765))).toUInt32 >>> ((nI 2).toUInt32 &&& Int32.toUInt32 31)).toInt32 &&& nI 858993459))).toUInt32 >>> ((nI 4).toUInt32 &&& Int32.toUInt32 31)).toInt32) &&& nI 252645135) + (((((((x - (((x).toUInt32 >>> ((nI 1).toUInt32 &&& Int32.toUInt32 31)).toInt32 &&& nI 1431655765)) &&& nI 858993459) + ((((x - (((x).toUInt32 >>> ((nI 1).toUInt32 &&& Int32.toUInt32 31)).toInt32 &&& nI 1431655765))).toUInt32 >>> ((nI 2).toUInt32 &&& Int32.toUInt32 31)).toInt32 &&& nI 858993459)) + (((((x - (((x).toUInt32 >>> ((nI 1).toUInt32 &&& Int32.toUInt32 31)).toInt32 &&& nI 1431655765)) &&& nI 858993459) + ((((x - (((x).toUInt32 >>> ((nI 1).toUInt32 &&& Int32.toUInt32 31)).toInt32 &&& nI 1431655765))).toUInt32 >>> ((nI 2).toUInt32 &&& Int32.toUInt32 31)).toInt32 &&& nI 858993459))).toUInt32 >>> ((nI 4).toUInt32 &&& Int32.toUInt32 31)).toInt32) &&& nI 252645135)).toUInt32 >>> ((nI 8).toUInt32 &&& Int32.toUInt32 31)).toInt32) + ((((((((x - (((x).toUInt32 >>> ((nI 1).toUInt32 &&& Int32.toUInt32 31)).toInt32 &&& nI 1431655765)) &&& nI 858993459) + ((((x - (((x).toUInt32 >>> ((nI 1).toUInt32 &&& Int32.toUInt32 31)).toInt32 &&& nI 1431655765))).toUInt32 >>> ((nI 2).toUInt32 &&& Int32.toUInt32 31)).toInt32 &&& nI 858993459)) + (((((x - (((x).toUInt32 >>> ((nI 1).toUInt32 &&& Int32.toUInt32 31)).toInt32 &&& nI 1431655765)) &&& nI 858993459) + ((((x - (((x).toUInt32 >>> ((nI 1).toUInt32 &&& Int32.toUInt32 31)).toInt32 &&& nI 1431655765))).toUInt32 >>> ((nI 2).toUInt32 &&& Int32.toUInt32 31)).toInt32 &&& nI 858993459))).toUInt32 >>> ((nI 4).toUInt32 &&& Int32.toUInt32 31)).toInt32) &&& nI 252645135) + (((((((x - (((x).toUInt32 >>> ((nI 1).toUInt32 &&& Int32.toUInt32 31)).toInt32 &&& nI 1431655765)) &&& nI 858993459) + ((((x - (((x).toUInt32 >>> ((nI 1).toUInt32 &&& Int32.toUInt32 31)).toInt32 &&& nI 1431655765))).toUInt32 >>> ((nI 2).toUInt32 &&& Int32.toUInt32 31)).toInt32 &&& nI 858993459)) + (((((x - (((x).toUInt32 >>> ((nI 1).toUInt32 &&& Int32.toUInt32 31)).toInt32 &&& nI 1431655765)) &&& nI 858993459) + ((((x - (((x).toUInt32 >>> ((nI 1).toUInt32 &&& Int32.toUInt32 31)).toInt32 &&& nI 1431655765))).toUInt32 >>> ((nI 2).toUInt32 &&& Int32.toUInt32 31)).toInt32 &&& nI 858993459))).toUInt32 >>> ((nI 4).toUInt32 &&& Int32.toUInt32 31)).toInt32) &&& nI 252645135)).toUInt32 >>> ((nI 8).toUInt32 &&& Int32.toUInt32 31)).toInt32)).toUInt32 >>> ((nI 16).toUInt32 &&& Int32.toUInt32 31)).toInt32))]) hx dJ6_bitCount_0f7a4_47 hl (Nat.le_of_ble_eq_true rfl) rfl (fun ls hl => ?_)
  refine x_iload_n hx dJ6_bitCount_0f7a4_48 hl 0 rfl ?_
  refine x_bipush (v := nI 63) hx dJ6_bitCount_0f7a4_49 (by decide) ?_
  refine x_iand (v := ((((((((x - (((x).toUInt32 >>> ((nI 1).toUInt32 &&& Int32.toUInt32 31)).toInt32 &&& nI 1431655765)) &&& nI 858993459) + ((((x - (((x).toUInt32 >>> ((nI 1).toUInt32 &&& Int32.toUInt32 31)).toInt32 &&& nI 1431655765))).toUInt32 >>> ((nI 2).toUInt32 &&& Int32.toUInt32 31)).toInt32 &&& nI 858993459)) + (((((x - (((x).toUInt32 >>> ((nI 1).toUInt32 &&& Int32.toUInt32 31)).toInt32 &&& nI 1431655765)) &&& nI 858993459) + ((((x - (((x).toUInt32 >>> ((nI 1).toUInt32 &&& Int32.toUInt32 31)).toInt32 &&& nI 1431655765))).toUInt32 >>> ((nI 2).toUInt32 &&& Int32.toUInt32 31)).toInt32 &&& nI 858993459))).toUInt32 >>> ((nI 4).toUInt32 &&& Int32.toUInt32 31)).toInt32) &&& nI 252645135) + (((((((x - (((x).toUInt32 >>> ((nI 1).toUInt32 &&& Int32.toUInt32 31)).toInt32 &&& nI 1431655765)) &&& nI 858993459) + ((((x - (((x).toUInt32 >>> ((nI 1).toUInt32 &&& Int32.toUInt32 31)).toInt32 &&& nI 1431655765))).toUInt32 >>> ((nI 2).toUInt32 &&& Int32.toUInt32 31)).toInt32 &&& nI 858993459)) + (((((x - (((x).toUInt32 >>> ((nI 1).toUInt32 &&& Int32.toUInt32 31)).toInt32 &&& nI 1431655765)) &&& nI 858993459) + ((((x - (((x).toUInt32 >>> ((nI 1).toUInt32 &&& Int32.toUInt32 31)).toInt32 &&& nI 1431655765))).toUInt32 >>> ((nI 2).toUInt32 &&& Int32.toUInt32 31)).toInt32 &&& nI 858993459))).toUInt32 >>> ((nI 4).toUInt32 &&& Int32.toUInt32 31)).toInt32) &&& nI 252645135)).toUInt32 >>> ((nI 8).toUInt32 &&& Int32.toUInt32 31)).toInt32) + ((((((((x - (((x).toUInt32 >>> ((nI 1).toUInt32 &&& Int32.toUInt32 31)).toInt32 &&& nI 1431655765)) &&& nI 858993459) + ((((x - (((x).toUInt32 >>> ((nI 1).toUInt32 &&& Int32.toUInt32 31)).toInt32 &&& nI 1431655765))).toUInt32 >>> ((nI 2).toUInt32 &&& Int32.toUInt32 31)).toInt32 &&& nI 858993459)) + (((((x - (((x).toUInt32 >>> ((nI 1).toUInt32 &&& Int32.toUInt32 31)).toInt32 &&& nI 1431655765)) &&& nI 858993459) + ((((x - (((x).toUInt32 >>> ((nI 1).toUInt32 &&& Int32.toUInt32 31)).toInt32 &&& nI 1431655765))).toUInt32 >>> ((nI 2).toUInt32 &&& Int32.toUInt32 31)).toInt32 &&& nI 858993459))).toUInt32 >>> ((nI 4).toUInt32 &&& Int32.toUInt32 31)).toInt32) &&& nI 252645135) + (((((((x - (((x).toUInt32 >>> ((nI 1).toUInt32 &&& Int32.toUInt32 31)).toInt32 &&& nI 1431655765)) &&& nI 858993459) + ((((x - (((x).toUInt32 >>> ((nI 1).toUInt32 &&& Int32.toUInt32 31)).toInt32 &&& nI 1431655765))).toUInt32 >>> ((nI 2).toUInt32 &&& Int32.toUInt32 31)).toInt32 &&& nI 858993459)) + (((((x - (((x).toUInt32 >>> ((nI 1).toUInt32 &&& Int32.toUInt32 31)).toInt32 &&& nI 1431655765)) &&& nI 858993459) + ((((x - (((x).toUInt32 >>> ((nI 1).toUInt32 &&& Int32.toUInt32 31)).toInt32 &&& nI 1431655765))).toUInt32 >>> ((nI 2).toUInt32 &&& Int32.toUInt32 31)).toInt32 &&& nI 858993459))).toUInt32 >>> ((nI 4).toUInt32 &&& Int32.toUInt32 31)).toInt32) &&& nI 252645135)).toUInt32 >>> ((nI 8).toUInt32 &&& Int32.toUInt32 31)).toInt32)).toUInt32 >>> ((nI 16).toUInt32 &&& Int32.toUInt32 31)).toInt32) &&& nI 63)) hx dJ6_bitCount_0f7a4_51 (rfl) ?_
  exact hret _ _ _ dJ6_bitCount_0f7a4_52 (by rfl)
set_option maxHeartbeats 4000000 in
set_option maxRecDepth 100000 in
theorem c_J7_fill_53178 (l : Launch) (D : KD) (a : Nat) (len : Nat) (g : Nat → Nat) (v : Nat) (hlen : len < 2147483648) : cV l yJ7_fill_53178 cJ7_fill_53178 4 rm_J7_fill_53178 D [(a, .inl (D.2.1, len, .inl (nA g)))] [.ref a, .int (nI v)] [(a, .inl (D.2.1, len, .inl (nA (fun _ => v))))] := by
  refine cV.mkF (by decide +kernel) (Nat.le_of_ble_eq_true rfl) ?_
  intro X A hx hL hA hW hret ls hl
  subst hL
  have hl : lv_has ls 4 [(0, .ref a), (1, .int (nI v))] := hl
  refine x_iconst (v := nI 0) hx dJ7_fill_53178_0 (by decide) ?_
  refine x_istore_n (lv' := [(2, .int (nI 0)), (0, .ref a), (1, .int (nI v))]) hx dJ7_fill_53178_1 hl (Nat.le_of_ble_eq_true rfl) rfl (fun ls hl => ?_)
  refine x_aload_n hx dJ7_fill_53178_2 hl 1 rfl ?_
  refine x_alen hx hW.1 0 rfl dJ7_fill_53178_3 ?_
  refine x_istore_n (lv' := [(3, .int (nI len)), (2, .int (nI 0)), (0, .ref a), (1, .int (nI v))]) hx dJ7_fill_53178_4 hl (Nat.le_of_ble_eq_true rfl) rfl (fun ls hl => ?_)
  have L5_1 : ∀ (L5_1n : Nat) (j : Nat), (j ≤ len) → len - j < L5_1n → ∀ (H : Heap) (locs : List Loc), Wd X D A [(a, .inl (D.2.1, len, .inl (nA (filN (fun _ => v) g j))))] H locs → ∀ ls : Array Slot, lv_has ls 4 [(0, .ref a), (1, .int (nI v)), (2, .int (nI j)), (3, .int (nI len))] → Wx X 0 0 H locs 5 ls [] := by
    intro L5_1n
    induction L5_1n with
    | zero =>
      intro j h1 hm
      exact absurd hm (Nat.not_lt_zero _)
    | succ L5_1n ihL5_1 =>
      intro j h1 hm H locs hW ls hl
      refine x_iload_n hx dJ7_fill_53178_5 hl 2 rfl ?_
      refine x_iload_n hx dJ7_fill_53178_6 hl 3 rfl ?_
      refine x_icmp_ge_N (a := j) (b := len) (tgt := 20) hx dJ7_fill_53178_7 (by decide) (by omega) (by omega) (fun h_2 => ?_) (fun h_2 => ?_)
      · have e_3 : ∀ k, k < len → (filN (fun _ => v) g j) k = (fun _ => v) k := by
          intro k hk
          exact filN_in (by omega)
        have hW : Wd X D A [(a, .inl (D.2.1, len, .inl (nA (fun _ => v))))] _ _ := hW.row 0 rfl (fun j hj => congrArg (nI) (e_3 j hj)) rfl
        exact hret _ _ _ _ dJ7_fill_53178_20 hW
      · refine x_aload_n hx dJ7_fill_53178_10 hl 0 rfl ?_
        refine x_iload_n hx dJ7_fill_53178_11 hl 2 rfl ?_
        refine x_iload_n hx dJ7_fill_53178_12 hl 1 rfl ?_
        have hj_13 : j < len := by omega
        refine x_iast hx hW 0 rfl hj_13 (by omega) (upd_nA _ _ _) dJ7_fill_53178_13 [(a, .inl (D.2.1, len, .inl (nA (va_up (filN (fun _ => v) g j) j v))))] rfl (fun H locs hW => ?_)
        refine x_iinc (v := nI (j + 1)) (lv' := [(2, .int (nI (j + 1))), (0, .ref a), (1, .int (nI v)), (3, .int (nI len))]) hx dJ7_fill_53178_14 hl 2 rfl (nI_addc j 1) (Nat.le_of_ble_eq_true rfl) rfl (fun ls hl => ?_)
        refine x_goto (tgt := 5) hx dJ7_fill_53178_17 (by decide) ?_
        have e_4 : (j + 1 : Nat) = (j + 1) := by
          first | rfl | omega | (simp [*]; done) | (simp [*]; omega)
        have e_5 : ∀ k, k < len → (va_up (filN (fun _ => v) g j) j v) k = (filN (fun _ => v) g (j + 1)) k := by
          intro k hk
          first | (rw [filN_0]; done) | exact filN_up rfl k
        have hW : Wd X D A [(a, .inl (D.2.1, len, .inl (nA (filN (fun _ => v) g (j + 1)))))] _ _ := hW.row 0 rfl (fun j hj => congrArg (nI) (e_5 j hj)) rfl
        exact ihL5_1 (j + 1) (by first | assumption | omega | (simp [*]; done)) (by omega) _ _ hW _ (lv_to (l := [(0, .ref a), (1, .int (nI v)), (2, .int (nI (j + 1))), (3, .int (nI len))]) (l2 := [(0, .ref a), (1, .int (nI v)), (2, .int (nI (j + 1))), (3, .int (nI len))]) (lv_sub hl [1, 2, 0, 3] rfl) (cE rfl (cE rfl (cE (congrArg (fun z => ((2, Value.int z) : Nat × Value)) (congrArg (fun z : Nat => nI z) e_4)) (cE rfl rfl)))))
  have e_6 : ∀ k, k < len → (g) k = (filN (fun _ => v) g 0) k := by
    intro k hk
    first | (rw [filN_0]; done) | exact filN_up rfl k
  have hW : Wd X D A [(a, .inl (D.2.1, len, .inl (nA (filN (fun _ => v) g 0))))] _ _ := hW.row 0 rfl (fun j hj => congrArg (nI) (e_6 j hj)) rfl
  exact L5_1 (len - 0 + 1) 0 (by first | assumption | omega | (simp [*]; done)) (Nat.lt_succ_self _) _ _ hW _ (lv_sub hl [2, 3, 1, 0] rfl)
set_option maxHeartbeats 4000000 in
set_option maxRecDepth 100000 in
theorem c_X7_place (l : Launch) (D : KD) (c : Nat) (f : Nat) (hc : c < 1000) (hf : f < 1000) : cR l yX7_place cX7_place 2 (some .int) rm_X7_place D [] [.int (nI c), .int (nI f)] (nI (c * 6 + f)) := by
  refine cR.mk (by decide) (retI _) (Nat.le_of_ble_eq_true rfl) ?_
  intro X hx hL hP hret ls hl
  subst hL
  have hl : lv_has ls 2 [(0, .int (nI c)), (1, .int (nI f))] := hl
  refine x_iload_n hx dX7_place_0 hl 0 rfl ?_
  refine x_bipush (v := nI 6) hx dX7_place_1 (by decide) ?_
  refine x_imul (v := nI (c * 6)) hx dX7_place_3 (pk_mul _ _) ?_
  refine x_iload_n hx dX7_place_4 hl 1 rfl ?_
  refine x_iadd (v := nI (c * 6 + f)) hx dX7_place_5 (nI_add _ _) ?_
  exact hret _ _ _ dX7_place_6 (rfl)
set_option maxHeartbeats 4000000 in
set_option maxRecDepth 100000 in
theorem c_X7_isFigure (l : Launch) (D : KD) (z : Int) (hz : -2147483648 ≤ z ∧ z < 2147483648) : cR l yX7_isFigure cX7_isFigure 1 (some .boolean) rm_X7_isFigure D [] [.int (iI z)] (nI (decide (0 ≤ z ∧ z < 10)).toNat) := by
  refine cR.mk (by decide) (retZ _) (Nat.le_of_ble_eq_true rfl) ?_
  intro X hx hL hP hret ls hl
  subst hL
  have hl : lv_has ls 1 [(0, .int (iI z))] := hl
  refine x_iload_n hx dX7_isFigure_0 hl 0 rfl ?_
  refine x_if_lt_Z (a := z) (tgt := 14) hx dX7_isFigure_1 (by decide) (by omega) (fun h_1 => ?_) (fun h_1 => ?_)
  · refine x_iconst (v := nI 0) hx dX7_isFigure_14 (by decide) ?_
    exact hret _ _ _ dX7_isFigure_15 (by first | exact retF _ (by first | omega | (simp [*]; done)) | (simp [*]; done))
  · refine x_iload_n hx dX7_isFigure_4 hl 0 rfl ?_
    refine x_bipush (v := nI 10) hx dX7_isFigure_5 (by decide) ?_
    refine x_icmp_ge_Z (a := z) (b := 10) (tgt := 14) hx dX7_isFigure_7 (by decide) (by omega) (by omega) (fun h_2 => ?_) (fun h_2 => ?_)
    · refine x_iconst (v := nI 0) hx dX7_isFigure_14 (by decide) ?_
      exact hret _ _ _ dX7_isFigure_15 (by first | exact retF _ (by first | omega | (simp [*]; done)) | (simp [*]; done))
    · refine x_iconst (v := nI 1) hx dX7_isFigure_10 (by decide) ?_
      refine x_goto (tgt := 15) hx dX7_isFigure_11 (by decide) ?_
      exact hret _ _ _ dX7_isFigure_15 (by first | exact retT _ (by first | omega | (simp [*]; done)) | (simp [*]; done))
set_option maxHeartbeats 4000000 in
set_option maxRecDepth 100000 in
theorem c_X7_leastOf (l : Launch) (D : KD) (m : Nat) (hm : m < 1024) (hm0 : 0 < m) : cR l yX7_leastOf cX7_leastOf 1 (some .int) rm_X7_leastOf D [] [.int (nI m)] (nI (lowB m)) := by
  refine cR.mk (by decide) (retI _) (Nat.le_of_ble_eq_true rfl) ?_
  intro X hx hL hP hret ls hl
  subst hL
  have hl : lv_has ls 1 [(0, .int (nI m))] := hl
  refine x_iload_n hx dX7_leastOf_0 hl 0 rfl ?_
  refine x_iload_n hx dX7_leastOf_1 hl 0 rfl ?_
  refine x_ineg hx dX7_leastOf_2 rfl ?_
  refine x_iand (v := (nI m &&& (-(nI m)))) hx dX7_leastOf_3 (rfl) ?_
  refine x_iconst (v := nI 1) hx dX7_leastOf_4 (by decide) ?_
  refine x_isub (v := ((nI m &&& (-(nI m))) - nI 1)) hx dX7_leastOf_5 (rfl) ?_
  refine x_callRS (As := [.int ((nI m &&& (-(nI m))) - nI 1)]) (rest := []) hx yv_J6_bitCount_0f7a4 (c_J6_bitCount_0f7a4 _ D ((nI m &&& (-(nI m))) - nI 1) ) wm_RX7_293 hP [] rfl ⟨rfl, rfl⟩ ⟨Nat.le_of_ble_eq_true rfl, Nat.le_of_ble_eq_true rfl⟩ ⟨Nat.zero_le _, Nat.zero_le _⟩ hl rfl rfl (Nat.le_of_ble_eq_true rfl) dX7_leastOf_6 ?_
  exact hret _ _ _ dX7_leastOf_9 (by exact bitC_l m hm hm0)
set_option maxHeartbeats 4000000 in
set_option maxRecDepth 100000 in
theorem c_X7_cubeOf (l : Launch) (D : KD) (m : Nat) (hm : m < 240) : cR l yX7_cubeOf cX7_cubeOf 1 (some .int) rm_X7_cubeOf D [] [.int (nI m)] (nI (m / 60)) := by
  refine cR.mk (by decide) (retI _) (Nat.le_of_ble_eq_true rfl) ?_
  intro X hx hL hP hret ls hl
  subst hL
  have hl : lv_has ls 1 [(0, .int (nI m))] := hl
  refine x_iload_n hx dX7_cubeOf_0 hl 0 rfl ?_
  refine x_bipush (v := nI 60) hx dX7_cubeOf_1 (by decide) ?_
  refine x_idiv (v := nI (m / 60)) hx dX7_cubeOf_3 (by decide) (pk_div (by omega) (by omega) (by omega)) ?_
  exact hret _ _ _ dX7_cubeOf_4 (rfl)
set_option maxHeartbeats 4000000 in
set_option maxRecDepth 100000 in
theorem c_X7_sideOf (l : Launch) (D : KD) (m : Nat) (hm : m < 240) : cR l yX7_sideOf cX7_sideOf 1 (some .int) rm_X7_sideOf D [] [.int (nI m)] (nI (m / 10 % 6)) := by
  refine cR.mk (by decide) (retI _) (Nat.le_of_ble_eq_true rfl) ?_
  intro X hx hL hP hret ls hl
  subst hL
  have hl : lv_has ls 1 [(0, .int (nI m))] := hl
  refine x_iload_n hx dX7_sideOf_0 hl 0 rfl ?_
  refine x_bipush (v := nI 10) hx dX7_sideOf_1 (by decide) ?_
  refine x_idiv (v := nI (m / 10)) hx dX7_sideOf_3 (by decide) (pk_div (by omega) (by omega) (by omega)) ?_
  refine x_bipush (v := nI 6) hx dX7_sideOf_4 (by decide) ?_
  refine x_irem (v := nI ((m / 10) % 6)) hx dX7_sideOf_6 (by decide) (pk_rem (by omega) (by omega) (by omega)) ?_
  exact hret _ _ _ dX7_sideOf_7 (congrArg nI (by first | rfl | omega | (simp [*]; done) | (simp [*]; omega)))
set_option maxHeartbeats 4000000 in
set_option maxRecDepth 100000 in
theorem c_X7_figureOf (l : Launch) (D : KD) (m : Nat) (hm : m < 240) : cR l yX7_figureOf cX7_figureOf 1 (some .int) rm_X7_figureOf D [] [.int (nI m)] (nI (m % 10)) := by
  refine cR.mk (by decide) (retI _) (Nat.le_of_ble_eq_true rfl) ?_
  intro X hx hL hP hret ls hl
  subst hL
  have hl : lv_has ls 1 [(0, .int (nI m))] := hl
  refine x_iload_n hx dX7_figureOf_0 hl 0 rfl ?_
  refine x_bipush (v := nI 10) hx dX7_figureOf_1 (by decide) ?_
  refine x_irem (v := nI (m % 10)) hx dX7_figureOf_3 (by decide) (pk_rem (by omega) (by omega) (by omega)) ?_
  exact hret _ _ _ dX7_figureOf_4 (rfl)
set_option maxHeartbeats 4000000 in
set_option maxRecDepth 100000 in
theorem c_X0_clear (l : Launch) (D : KD) (tb : Nat) (thd : Bool) (tlo : Nat) (te : Nat) (thn : Bool) (tcu : Nat) (tsc : Nat) (tfg : Nat) (ttv : Nat) (tpr : Nat) (tTV : Nat → Nat) (tPR : Nat → Nat)  : cV l yX0_clear cX0_clear 2 rm_X0_clear D [(tb, .inr (0, [.int (nI thd.toNat), .int (nI tlo), .int (iI ((te : Int) - 1)), .int (nI thn.toNat), .int (nI tcu), .ref tsc, .ref tfg, .ref ttv, .ref tpr])), (ttv, .inl (D.2.1, 10, .inl (nA tTV))), (tpr, .inl (D.2.1, 10, .inl (nA tPR)))] [.ref tb] [(tb, .inr (0, [.int (nI false.toNat), .int (nI 0), .int (iI ((0 : Int) - 1)), .int (nI false.toNat), .int (nI 0), .ref tsc, .ref tfg, .ref ttv, .ref tpr])), (ttv, .inl (D.2.1, 10, .inl (nA (fun k => k)))), (tpr, .inl (D.2.1, 10, .inl (nA (fun _ => 1))))] := by
  refine cV.mk (by decide) (Nat.le_of_ble_eq_true rfl) ?_
  intro X A hx hL hA hW hret ls hl
  subst hL
  have hl : lv_has ls 2 [(0, .ref tb)] := hl
  refine x_aload_n hx dX0_clear_0 hl 0 rfl ?_
  refine x_iconst (v := nI 0) hx dX0_clear_1 (by decide) ?_
  refine x_put0 hx hW 0 rfl 0 (Nat.le_of_ble_eq_true rfl) wf_RX0_27 rfl (narZ false) (fitZ false) (Nat.le_of_ble_eq_true rfl) dX0_clear_2 [(tb, .inr (0, [.int (nI false.toNat), .int (nI tlo), .int (iI ((te : Int) - 1)), .int (nI thn.toNat), .int (nI tcu), .ref tsc, .ref tfg, .ref ttv, .ref tpr])), (ttv, .inl (D.2.1, 10, .inl (nA tTV))), (tpr, .inl (D.2.1, 10, .inl (nA tPR)))] rfl (fun H locs hW => ?_)
  refine x_aload_n hx dX0_clear_5 hl 0 rfl ?_
  refine x_iconst (v := nI 0) hx dX0_clear_6 (by decide) ?_
  refine x_put0 hx hW 0 rfl 1 (Nat.le_of_ble_eq_true rfl) wf_RX0_31 rfl rfl rfl (Nat.le_of_ble_eq_true rfl) dX0_clear_7 [(tb, .inr (0, [.int (nI false.toNat), .int (nI 0), .int (iI ((te : Int) - 1)), .int (nI thn.toNat), .int (nI tcu), .ref tsc, .ref tfg, .ref ttv, .ref tpr])), (ttv, .inl (D.2.1, 10, .inl (nA tTV))), (tpr, .inl (D.2.1, 10, .inl (nA tPR)))] rfl (fun H locs hW => ?_)
  refine x_aload_n hx dX0_clear_10 hl 0 rfl ?_
  refine x_iconst (v := iI (-1)) hx dX0_clear_11 (by decide) ?_
  refine x_put0 hx hW 0 rfl 2 (Nat.le_of_ble_eq_true rfl) wf_RX0_35 rfl rfl rfl (Nat.le_of_ble_eq_true rfl) dX0_clear_12 [(tb, .inr (0, [.int (nI false.toNat), .int (nI 0), .int (iI (-1)), .int (nI thn.toNat), .int (nI tcu), .ref tsc, .ref tfg, .ref ttv, .ref tpr])), (ttv, .inl (D.2.1, 10, .inl (nA tTV))), (tpr, .inl (D.2.1, 10, .inl (nA tPR)))] rfl (fun H locs hW => ?_)
  refine x_aload_n hx dX0_clear_15 hl 0 rfl ?_
  refine x_iconst (v := nI 0) hx dX0_clear_16 (by decide) ?_
  refine x_put0 hx hW 0 rfl 3 (Nat.le_of_ble_eq_true rfl) wf_RX0_38 rfl (narZ false) (fitZ false) (Nat.le_of_ble_eq_true rfl) dX0_clear_17 [(tb, .inr (0, [.int (nI false.toNat), .int (nI 0), .int (iI (-1)), .int (nI false.toNat), .int (nI tcu), .ref tsc, .ref tfg, .ref ttv, .ref tpr])), (ttv, .inl (D.2.1, 10, .inl (nA tTV))), (tpr, .inl (D.2.1, 10, .inl (nA tPR)))] rfl (fun H locs hW => ?_)
  refine x_aload_n hx dX0_clear_20 hl 0 rfl ?_
  refine x_iconst (v := nI 0) hx dX0_clear_21 (by decide) ?_
  refine x_put0 hx hW 0 rfl 4 (Nat.le_of_ble_eq_true rfl) wf_RX0_41 rfl rfl rfl (Nat.le_of_ble_eq_true rfl) dX0_clear_22 [(tb, .inr (0, [.int (nI false.toNat), .int (nI 0), .int (iI (-1)), .int (nI false.toNat), .int (nI 0), .ref tsc, .ref tfg, .ref ttv, .ref tpr])), (ttv, .inl (D.2.1, 10, .inl (nA tTV))), (tpr, .inl (D.2.1, 10, .inl (nA tPR)))] rfl (fun H locs hW => ?_)
  refine x_iconst (v := nI 0) hx dX0_clear_25 (by decide) ?_
  refine x_istore_n (lv' := [(1, .int (nI 0)), (0, .ref tb)]) hx dX0_clear_26 hl (Nat.le_of_ble_eq_true rfl) rfl (fun ls hl => ?_)
  have L27_1 : ∀ (L27_1n : Nat) (j : Nat), (j ≤ 10) → 10 - j < L27_1n → ∀ (H : Heap) (locs : List Loc), Wd X D A [(tb, .inr (0, [.int (nI false.toNat), .int (nI 0), .int (iI (-1)), .int (nI false.toNat), .int (nI 0), .ref tsc, .ref tfg, .ref ttv, .ref tpr])), (ttv, .inl (D.2.1, 10, .inl (nA (filN (fun k => k) tTV j)))), (tpr, .inl (D.2.1, 10, .inl (nA (filN (fun _ => 1) tPR j))))] H locs → ∀ ls : Array Slot, lv_has ls 2 [(0, .ref tb), (1, .int (nI j))] → Wx X 0 0 H locs 27 ls [] := by
    intro L27_1n
    induction L27_1n with
    | zero =>
      intro j h1 hm
      exact absurd hm (Nat.not_lt_zero _)
    | succ L27_1n ihL27_1 =>
      intro j h1 hm H locs hW ls hl
      refine x_iload_n hx dX0_clear_27 hl 1 rfl ?_
      refine x_bipush (v := nI 10) hx dX0_clear_28 (by decide) ?_
      refine x_icmp_ge_N (a := j) (b := 10) (tgt := 53) hx dX0_clear_30 (by decide) (by omega) (by omega) (fun h_2 => ?_) (fun h_2 => ?_)
      · have e_3 : ∀ k, k < 10 → (filN (fun k => k) tTV j) k = (fun k => k) k := by
          intro k hk
          exact filN_in (by omega)
        have hW : Wd X D A [(tb, .inr (0, [.int (nI false.toNat), .int (nI 0), .int (iI (-1)), .int (nI false.toNat), .int (nI 0), .ref tsc, .ref tfg, .ref ttv, .ref tpr])), (ttv, .inl (D.2.1, 10, .inl (nA (fun k => k)))), (tpr, .inl (D.2.1, 10, .inl (nA (filN (fun _ => 1) tPR j))))] _ _ := hW.row 1 rfl (fun j hj => congrArg (nI) (e_3 j hj)) rfl
        have e_4 : ∀ k, k < 10 → (filN (fun _ => 1) tPR j) k = (fun _ => 1) k := by
          intro k hk
          exact filN_in (by omega)
        have hW : Wd X D A [(tb, .inr (0, [.int (nI false.toNat), .int (nI 0), .int (iI (-1)), .int (nI false.toNat), .int (nI 0), .ref tsc, .ref tfg, .ref ttv, .ref tpr])), (ttv, .inl (D.2.1, 10, .inl (nA (fun k => k)))), (tpr, .inl (D.2.1, 10, .inl (nA (fun _ => 1))))] _ _ := hW.row 2 rfl (fun j hj => congrArg (nI) (e_4 j hj)) rfl
        have e_5 : iI (-1) = iI ((0 : Int) - 1) := by
          first | rfl | omega | (simp [*]; done) | (simp [*]; omega)
        exact hret _ _ _ _ dX0_clear_53 (hW.conv [0, 1, 2] (w1 := [(tb, .inr (0, [.int (nI false.toNat), .int (nI 0), .int (iI (-1)), .int (nI false.toNat), .int (nI 0), .ref tsc, .ref tfg, .ref ttv, .ref tpr])), (ttv, .inl (D.2.1, 10, .inl (nA (fun k => k)))), (tpr, .inl (D.2.1, 10, .inl (nA (fun _ => 1))))]) (w2 := [(tb, .inr (0, [.int (nI false.toNat), .int (nI 0), .int (iI ((0 : Int) - 1)), .int (nI false.toNat), .int (nI 0), .ref tsc, .ref tfg, .ref ttv, .ref tpr])), (ttv, .inl (D.2.1, 10, .inl (nA (fun k => k)))), (tpr, .inl (D.2.1, 10, .inl (nA (fun _ => 1))))]) rfl rfl (cE (congrArg (fun z => ((tb, .inr (0, z)) : Nat × va_E)) (cE rfl (cE rfl (cE (congrArg Value.int (e_5)) (cE rfl (cE rfl (cE rfl (cE rfl (cE rfl (cE rfl rfl)))))))))) (cE rfl (cE rfl rfl))))
      · refine x_aload_n hx dX0_clear_33 hl 0 rfl ?_
        refine x_get0 hx hW.1 0 rfl 7 (Nat.le_of_ble_eq_true rfl) wf_RX0_18 rfl dX0_clear_34 ?_
        refine x_iload_n hx dX0_clear_37 hl 1 rfl ?_
        refine x_iload_n hx dX0_clear_38 hl 1 rfl ?_
        have hj_39 : j < 10 := by omega
        refine x_iast hx hW 1 rfl hj_39 (by decide) (upd_nA _ _ _) dX0_clear_39 [(tb, .inr (0, [.int (nI false.toNat), .int (nI 0), .int (iI (-1)), .int (nI false.toNat), .int (nI 0), .ref tsc, .ref tfg, .ref ttv, .ref tpr])), (ttv, .inl (D.2.1, 10, .inl (nA (va_up (filN (fun k => k) tTV j) j j)))), (tpr, .inl (D.2.1, 10, .inl (nA (filN (fun _ => 1) tPR j))))] rfl (fun H locs hW => ?_)
        refine x_aload_n hx dX0_clear_40 hl 0 rfl ?_
        refine x_get0 hx hW.1 0 rfl 8 (Nat.le_of_ble_eq_true rfl) wf_RX0_21 rfl dX0_clear_41 ?_
        refine x_iload_n hx dX0_clear_44 hl 1 rfl ?_
        refine x_iconst (v := nI 1) hx dX0_clear_45 (by decide) ?_
        have hj_46 : j < 10 := by omega
        refine x_iast hx hW 2 rfl hj_46 (by decide) (upd_nA _ _ _) dX0_clear_46 [(tb, .inr (0, [.int (nI false.toNat), .int (nI 0), .int (iI (-1)), .int (nI false.toNat), .int (nI 0), .ref tsc, .ref tfg, .ref ttv, .ref tpr])), (ttv, .inl (D.2.1, 10, .inl (nA (va_up (filN (fun k => k) tTV j) j j)))), (tpr, .inl (D.2.1, 10, .inl (nA (va_up (filN (fun _ => 1) tPR j) j 1))))] rfl (fun H locs hW => ?_)
        refine x_iinc (v := nI (j + 1)) (lv' := [(1, .int (nI (j + 1))), (0, .ref tb)]) hx dX0_clear_47 hl 1 rfl (nI_addc j 1) (Nat.le_of_ble_eq_true rfl) rfl (fun ls hl => ?_)
        refine x_goto (tgt := 27) hx dX0_clear_50 (by decide) ?_
        have e_6 : (j + 1 : Nat) = (j + 1) := by
          first | rfl | omega | (simp [*]; done) | (simp [*]; omega)
        have e_7 : ∀ k, k < 10 → (va_up (filN (fun k => k) tTV j) j j) k = (filN (fun k => k) tTV (j + 1)) k := by
          intro k hk
          first | (rw [filN_0]; done) | exact filN_up rfl k
        have hW : Wd X D A [(tb, .inr (0, [.int (nI false.toNat), .int (nI 0), .int (iI (-1)), .int (nI false.toNat), .int (nI 0), .ref tsc, .ref tfg, .ref ttv, .ref tpr])), (ttv, .inl (D.2.1, 10, .inl (nA (filN (fun k => k) tTV (j + 1))))), (tpr, .inl (D.2.1, 10, .inl (nA (va_up (filN (fun _ => 1) tPR j) j 1))))] _ _ := hW.row 1 rfl (fun j hj => congrArg (nI) (e_7 j hj)) rfl
        have e_8 : ∀ k, k < 10 → (va_up (filN (fun _ => 1) tPR j) j 1) k = (filN (fun _ => 1) tPR (j + 1)) k := by
          intro k hk
          first | (rw [filN_0]; done) | exact filN_up rfl k
        have hW : Wd X D A [(tb, .inr (0, [.int (nI false.toNat), .int (nI 0), .int (iI (-1)), .int (nI false.toNat), .int (nI 0), .ref tsc, .ref tfg, .ref ttv, .ref tpr])), (ttv, .inl (D.2.1, 10, .inl (nA (filN (fun k => k) tTV (j + 1))))), (tpr, .inl (D.2.1, 10, .inl (nA (filN (fun _ => 1) tPR (j + 1)))))] _ _ := hW.row 2 rfl (fun j hj => congrArg (nI) (e_8 j hj)) rfl
        exact ihL27_1 (j + 1) (by first | assumption | omega | (simp [*]; done)) (by omega) _ _ hW _ (lv_to (l := [(0, .ref tb), (1, .int (nI (j + 1)))]) (l2 := [(0, .ref tb), (1, .int (nI (j + 1)))]) (lv_sub hl [1, 0] rfl) (cE rfl (cE (congrArg (fun z => ((1, Value.int z) : Nat × Value)) (congrArg (fun z : Nat => nI z) e_6)) rfl)))
  have e_9 : ∀ k, k < 10 → (tTV) k = (filN (fun k => k) tTV 0) k := by
    intro k hk
    first | (rw [filN_0]; done) | exact filN_up rfl k
  have hW : Wd X D A [(tb, .inr (0, [.int (nI false.toNat), .int (nI 0), .int (iI (-1)), .int (nI false.toNat), .int (nI 0), .ref tsc, .ref tfg, .ref ttv, .ref tpr])), (ttv, .inl (D.2.1, 10, .inl (nA (filN (fun k => k) tTV 0)))), (tpr, .inl (D.2.1, 10, .inl (nA tPR)))] _ _ := hW.row 1 rfl (fun j hj => congrArg (nI) (e_9 j hj)) rfl
  have e_10 : ∀ k, k < 10 → (tPR) k = (filN (fun _ => 1) tPR 0) k := by
    intro k hk
    first | (rw [filN_0]; done) | exact filN_up rfl k
  have hW : Wd X D A [(tb, .inr (0, [.int (nI false.toNat), .int (nI 0), .int (iI (-1)), .int (nI false.toNat), .int (nI 0), .ref tsc, .ref tfg, .ref ttv, .ref tpr])), (ttv, .inl (D.2.1, 10, .inl (nA (filN (fun k => k) tTV 0)))), (tpr, .inl (D.2.1, 10, .inl (nA (filN (fun _ => 1) tPR 0))))] _ _ := hW.row 2 rfl (fun j hj => congrArg (nI) (e_10 j hj)) rfl
  exact L27_1 (10 - 0 + 1) 0 (by first | assumption | omega | (simp [*]; done)) (Nat.lt_succ_self _) _ _ hW _ (lv_sub hl [1, 0] rfl)
set_option maxHeartbeats 4000000 in
set_option maxRecDepth 100000 in
theorem c_X0_take (l : Launch) (D : KD) (tb : Nat) (thd : Bool) (tlo : Nat) (te : Nat) (thn : Bool) (tcu : Nat) (tsc : Nat) (tfg : Nat) (ttv : Nat) (tpr : Nat) (tSC : Nat → Nat) (tFG : Nat → Nat) (tTV : Nat → Nat) (tPR : Nat → Nat) (ub : Nat) (uhd : Bool) (ulo : Nat) (ue : Nat) (uhn : Bool) (ucu : Nat) (usc : Nat) (ufg : Nat) (utv : Nat) (upr : Nat) (uSC : Nat → Nat) (uFG : Nat → Nat) (uTV : Nat → Nat) (uPR : Nat → Nat)  : cV l yX0_take cX0_take 2 rm_X0_take D [(tb, .inr (0, [.int (nI thd.toNat), .int (nI tlo), .int (iI ((te : Int) - 1)), .int (nI thn.toNat), .int (nI tcu), .ref tsc, .ref tfg, .ref ttv, .ref tpr])), (tsc, .inl (D.2.1, 4, .inl (nA tSC))), (tfg, .inl (D.2.1, 24, .inl (nA tFG))), (ttv, .inl (D.2.1, 10, .inl (nA tTV))), (tpr, .inl (D.2.1, 10, .inl (nA tPR))), (ub, .inr (0, [.int (nI uhd.toNat), .int (nI ulo), .int (iI ((ue : Int) - 1)), .int (nI uhn.toNat), .int (nI ucu), .ref usc, .ref ufg, .ref utv, .ref upr])), (usc, .inl (D.2.1, 4, .inl (nA uSC))), (ufg, .inl (D.2.1, 24, .inl (nA uFG))), (utv, .inl (D.2.1, 10, .inl (nA uTV))), (upr, .inl (D.2.1, 10, .inl (nA uPR)))] [.ref tb, .ref ub] [(tb, .inr (0, [.int (nI uhd.toNat), .int (nI ulo), .int (iI ((ue : Int) - 1)), .int (nI uhn.toNat), .int (nI ucu), .ref tsc, .ref tfg, .ref ttv, .ref tpr])), (tsc, .inl (D.2.1, 4, .inl (nA uSC))), (tfg, .inl (D.2.1, 24, .inl (nA uFG))), (ttv, .inl (D.2.1, 10, .inl (nA uTV))), (tpr, .inl (D.2.1, 10, .inl (nA uPR))), (ub, .inr (0, [.int (nI uhd.toNat), .int (nI ulo), .int (iI ((ue : Int) - 1)), .int (nI uhn.toNat), .int (nI ucu), .ref usc, .ref ufg, .ref utv, .ref upr])), (usc, .inl (D.2.1, 4, .inl (nA uSC))), (ufg, .inl (D.2.1, 24, .inl (nA uFG))), (utv, .inl (D.2.1, 10, .inl (nA uTV))), (upr, .inl (D.2.1, 10, .inl (nA uPR)))] := by
  refine cV.mk (by decide) (Nat.le_of_ble_eq_true rfl) ?_
  intro X A hx hL hA hW hret ls hl
  subst hL
  have hl : lv_has ls 2 [(0, .ref tb), (1, .ref ub)] := hl
  refine x_aload_n hx dX0_take_0 hl 0 rfl ?_
  refine x_aload_n hx dX0_take_1 hl 1 rfl ?_
  refine x_get0 hx hW.1 5 rfl 0 (Nat.le_of_ble_eq_true rfl) wf_RX0_27 rfl dX0_take_2 ?_
  refine x_put0 hx hW 0 rfl 0 (Nat.le_of_ble_eq_true rfl) wf_RX0_27 rfl (narZ uhd) (fitZ uhd) (Nat.le_of_ble_eq_true rfl) dX0_take_5 [(tb, .inr (0, [.int (nI uhd.toNat), .int (nI tlo), .int (iI ((te : Int) - 1)), .int (nI thn.toNat), .int (nI tcu), .ref tsc, .ref tfg, .ref ttv, .ref tpr])), (tsc, .inl (D.2.1, 4, .inl (nA tSC))), (tfg, .inl (D.2.1, 24, .inl (nA tFG))), (ttv, .inl (D.2.1, 10, .inl (nA tTV))), (tpr, .inl (D.2.1, 10, .inl (nA tPR))), (ub, .inr (0, [.int (nI uhd.toNat), .int (nI ulo), .int (iI ((ue : Int) - 1)), .int (nI uhn.toNat), .int (nI ucu), .ref usc, .ref ufg, .ref utv, .ref upr])), (usc, .inl (D.2.1, 4, .inl (nA uSC))), (ufg, .inl (D.2.1, 24, .inl (nA uFG))), (utv, .inl (D.2.1, 10, .inl (nA uTV))), (upr, .inl (D.2.1, 10, .inl (nA uPR)))] rfl (fun H locs hW => ?_)
  refine x_aload_n hx dX0_take_8 hl 0 rfl ?_
  refine x_aload_n hx dX0_take_9 hl 1 rfl ?_
  refine x_get0 hx hW.1 5 rfl 1 (Nat.le_of_ble_eq_true rfl) wf_RX0_31 rfl dX0_take_10 ?_
  refine x_put0 hx hW 0 rfl 1 (Nat.le_of_ble_eq_true rfl) wf_RX0_31 rfl rfl rfl (Nat.le_of_ble_eq_true rfl) dX0_take_13 [(tb, .inr (0, [.int (nI uhd.toNat), .int (nI ulo), .int (iI ((te : Int) - 1)), .int (nI thn.toNat), .int (nI tcu), .ref tsc, .ref tfg, .ref ttv, .ref tpr])), (tsc, .inl (D.2.1, 4, .inl (nA tSC))), (tfg, .inl (D.2.1, 24, .inl (nA tFG))), (ttv, .inl (D.2.1, 10, .inl (nA tTV))), (tpr, .inl (D.2.1, 10, .inl (nA tPR))), (ub, .inr (0, [.int (nI uhd.toNat), .int (nI ulo), .int (iI ((ue : Int) - 1)), .int (nI uhn.toNat), .int (nI ucu), .ref usc, .ref ufg, .ref utv, .ref upr])), (usc, .inl (D.2.1, 4, .inl (nA uSC))), (ufg, .inl (D.2.1, 24, .inl (nA uFG))), (utv, .inl (D.2.1, 10, .inl (nA uTV))), (upr, .inl (D.2.1, 10, .inl (nA uPR)))] rfl (fun H locs hW => ?_)
  refine x_aload_n hx dX0_take_16 hl 0 rfl ?_
  refine x_aload_n hx dX0_take_17 hl 1 rfl ?_
  refine x_get0 hx hW.1 5 rfl 2 (Nat.le_of_ble_eq_true rfl) wf_RX0_35 rfl dX0_take_18 ?_
  refine x_put0 hx hW 0 rfl 2 (Nat.le_of_ble_eq_true rfl) wf_RX0_35 rfl rfl rfl (Nat.le_of_ble_eq_true rfl) dX0_take_21 [(tb, .inr (0, [.int (nI uhd.toNat), .int (nI ulo), .int (iI ((ue : Int) - 1)), .int (nI thn.toNat), .int (nI tcu), .ref tsc, .ref tfg, .ref ttv, .ref tpr])), (tsc, .inl (D.2.1, 4, .inl (nA tSC))), (tfg, .inl (D.2.1, 24, .inl (nA tFG))), (ttv, .inl (D.2.1, 10, .inl (nA tTV))), (tpr, .inl (D.2.1, 10, .inl (nA tPR))), (ub, .inr (0, [.int (nI uhd.toNat), .int (nI ulo), .int (iI ((ue : Int) - 1)), .int (nI uhn.toNat), .int (nI ucu), .ref usc, .ref ufg, .ref utv, .ref upr])), (usc, .inl (D.2.1, 4, .inl (nA uSC))), (ufg, .inl (D.2.1, 24, .inl (nA uFG))), (utv, .inl (D.2.1, 10, .inl (nA uTV))), (upr, .inl (D.2.1, 10, .inl (nA uPR)))] rfl (fun H locs hW => ?_)
  refine x_aload_n hx dX0_take_24 hl 0 rfl ?_
  refine x_aload_n hx dX0_take_25 hl 1 rfl ?_
  refine x_get0 hx hW.1 5 rfl 3 (Nat.le_of_ble_eq_true rfl) wf_RX0_38 rfl dX0_take_26 ?_
  refine x_put0 hx hW 0 rfl 3 (Nat.le_of_ble_eq_true rfl) wf_RX0_38 rfl (narZ uhn) (fitZ uhn) (Nat.le_of_ble_eq_true rfl) dX0_take_29 [(tb, .inr (0, [.int (nI uhd.toNat), .int (nI ulo), .int (iI ((ue : Int) - 1)), .int (nI uhn.toNat), .int (nI tcu), .ref tsc, .ref tfg, .ref ttv, .ref tpr])), (tsc, .inl (D.2.1, 4, .inl (nA tSC))), (tfg, .inl (D.2.1, 24, .inl (nA tFG))), (ttv, .inl (D.2.1, 10, .inl (nA tTV))), (tpr, .inl (D.2.1, 10, .inl (nA tPR))), (ub, .inr (0, [.int (nI uhd.toNat), .int (nI ulo), .int (iI ((ue : Int) - 1)), .int (nI uhn.toNat), .int (nI ucu), .ref usc, .ref ufg, .ref utv, .ref upr])), (usc, .inl (D.2.1, 4, .inl (nA uSC))), (ufg, .inl (D.2.1, 24, .inl (nA uFG))), (utv, .inl (D.2.1, 10, .inl (nA uTV))), (upr, .inl (D.2.1, 10, .inl (nA uPR)))] rfl (fun H locs hW => ?_)
  refine x_aload_n hx dX0_take_32 hl 0 rfl ?_
  refine x_aload_n hx dX0_take_33 hl 1 rfl ?_
  refine x_get0 hx hW.1 5 rfl 4 (Nat.le_of_ble_eq_true rfl) wf_RX0_41 rfl dX0_take_34 ?_
  refine x_put0 hx hW 0 rfl 4 (Nat.le_of_ble_eq_true rfl) wf_RX0_41 rfl rfl rfl (Nat.le_of_ble_eq_true rfl) dX0_take_37 [(tb, .inr (0, [.int (nI uhd.toNat), .int (nI ulo), .int (iI ((ue : Int) - 1)), .int (nI uhn.toNat), .int (nI ucu), .ref tsc, .ref tfg, .ref ttv, .ref tpr])), (tsc, .inl (D.2.1, 4, .inl (nA tSC))), (tfg, .inl (D.2.1, 24, .inl (nA tFG))), (ttv, .inl (D.2.1, 10, .inl (nA tTV))), (tpr, .inl (D.2.1, 10, .inl (nA tPR))), (ub, .inr (0, [.int (nI uhd.toNat), .int (nI ulo), .int (iI ((ue : Int) - 1)), .int (nI uhn.toNat), .int (nI ucu), .ref usc, .ref ufg, .ref utv, .ref upr])), (usc, .inl (D.2.1, 4, .inl (nA uSC))), (ufg, .inl (D.2.1, 24, .inl (nA uFG))), (utv, .inl (D.2.1, 10, .inl (nA uTV))), (upr, .inl (D.2.1, 10, .inl (nA uPR)))] rfl (fun H locs hW => ?_)
  refine x_aload_n hx dX0_take_40 hl 1 rfl ?_
  refine x_get0 hx hW.1 5 rfl 5 (Nat.le_of_ble_eq_true rfl) wf_RX0_9 rfl dX0_take_41 ?_
  refine x_iconst (v := nI 0) hx dX0_take_44 (by decide) ?_
  refine x_aload_n hx dX0_take_45 hl 0 rfl ?_
  refine x_get0 hx hW.1 0 rfl 5 (Nat.le_of_ble_eq_true rfl) wf_RX0_9 rfl dX0_take_46 ?_
  refine x_iconst (v := nI 0) hx dX0_take_49 (by decide) ?_
  refine x_iconst (v := nI 4) hx dX0_take_50 (by decide) ?_
  refine x_copy hx wm_RX0_44 hW 6 1 rfl rfl (Nat.le_of_ble_eq_true rfl) (Nat.le_of_ble_eq_true rfl) hl (by decide) dX0_take_51 [(tb, .inr (0, [.int (nI uhd.toNat), .int (nI ulo), .int (iI ((ue : Int) - 1)), .int (nI uhn.toNat), .int (nI ucu), .ref tsc, .ref tfg, .ref ttv, .ref tpr])), (tsc, .inl (D.2.1, 4, .inl (nA uSC))), (tfg, .inl (D.2.1, 24, .inl (nA tFG))), (ttv, .inl (D.2.1, 10, .inl (nA tTV))), (tpr, .inl (D.2.1, 10, .inl (nA tPR))), (ub, .inr (0, [.int (nI uhd.toNat), .int (nI ulo), .int (iI ((ue : Int) - 1)), .int (nI uhn.toNat), .int (nI ucu), .ref usc, .ref ufg, .ref utv, .ref upr])), (usc, .inl (D.2.1, 4, .inl (nA uSC))), (ufg, .inl (D.2.1, 24, .inl (nA uFG))), (utv, .inl (D.2.1, 10, .inl (nA uTV))), (upr, .inl (D.2.1, 10, .inl (nA uPR)))] rfl (fun H locs hW => ?_)
  refine x_aload_n hx dX0_take_54 hl 1 rfl ?_
  refine x_get0 hx hW.1 5 rfl 6 (Nat.le_of_ble_eq_true rfl) wf_RX0_15 rfl dX0_take_55 ?_
  refine x_iconst (v := nI 0) hx dX0_take_58 (by decide) ?_
  refine x_aload_n hx dX0_take_59 hl 0 rfl ?_
  refine x_get0 hx hW.1 0 rfl 6 (Nat.le_of_ble_eq_true rfl) wf_RX0_15 rfl dX0_take_60 ?_
  refine x_iconst (v := nI 0) hx dX0_take_63 (by decide) ?_
  refine x_bipush (v := nI 24) hx dX0_take_64 (by decide) ?_
  refine x_copy hx wm_RX0_44 hW 7 2 rfl rfl (Nat.le_of_ble_eq_true rfl) (Nat.le_of_ble_eq_true rfl) hl (by decide) dX0_take_66 [(tb, .inr (0, [.int (nI uhd.toNat), .int (nI ulo), .int (iI ((ue : Int) - 1)), .int (nI uhn.toNat), .int (nI ucu), .ref tsc, .ref tfg, .ref ttv, .ref tpr])), (tsc, .inl (D.2.1, 4, .inl (nA uSC))), (tfg, .inl (D.2.1, 24, .inl (nA uFG))), (ttv, .inl (D.2.1, 10, .inl (nA tTV))), (tpr, .inl (D.2.1, 10, .inl (nA tPR))), (ub, .inr (0, [.int (nI uhd.toNat), .int (nI ulo), .int (iI ((ue : Int) - 1)), .int (nI uhn.toNat), .int (nI ucu), .ref usc, .ref ufg, .ref utv, .ref upr])), (usc, .inl (D.2.1, 4, .inl (nA uSC))), (ufg, .inl (D.2.1, 24, .inl (nA uFG))), (utv, .inl (D.2.1, 10, .inl (nA uTV))), (upr, .inl (D.2.1, 10, .inl (nA uPR)))] rfl (fun H locs hW => ?_)
  refine x_aload_n hx dX0_take_69 hl 1 rfl ?_
  refine x_get0 hx hW.1 5 rfl 7 (Nat.le_of_ble_eq_true rfl) wf_RX0_18 rfl dX0_take_70 ?_
  refine x_iconst (v := nI 0) hx dX0_take_73 (by decide) ?_
  refine x_aload_n hx dX0_take_74 hl 0 rfl ?_
  refine x_get0 hx hW.1 0 rfl 7 (Nat.le_of_ble_eq_true rfl) wf_RX0_18 rfl dX0_take_75 ?_
  refine x_iconst (v := nI 0) hx dX0_take_78 (by decide) ?_
  refine x_bipush (v := nI 10) hx dX0_take_79 (by decide) ?_
  refine x_copy hx wm_RX0_44 hW 8 3 rfl rfl (Nat.le_of_ble_eq_true rfl) (Nat.le_of_ble_eq_true rfl) hl (by decide) dX0_take_81 [(tb, .inr (0, [.int (nI uhd.toNat), .int (nI ulo), .int (iI ((ue : Int) - 1)), .int (nI uhn.toNat), .int (nI ucu), .ref tsc, .ref tfg, .ref ttv, .ref tpr])), (tsc, .inl (D.2.1, 4, .inl (nA uSC))), (tfg, .inl (D.2.1, 24, .inl (nA uFG))), (ttv, .inl (D.2.1, 10, .inl (nA uTV))), (tpr, .inl (D.2.1, 10, .inl (nA tPR))), (ub, .inr (0, [.int (nI uhd.toNat), .int (nI ulo), .int (iI ((ue : Int) - 1)), .int (nI uhn.toNat), .int (nI ucu), .ref usc, .ref ufg, .ref utv, .ref upr])), (usc, .inl (D.2.1, 4, .inl (nA uSC))), (ufg, .inl (D.2.1, 24, .inl (nA uFG))), (utv, .inl (D.2.1, 10, .inl (nA uTV))), (upr, .inl (D.2.1, 10, .inl (nA uPR)))] rfl (fun H locs hW => ?_)
  refine x_aload_n hx dX0_take_84 hl 1 rfl ?_
  refine x_get0 hx hW.1 5 rfl 8 (Nat.le_of_ble_eq_true rfl) wf_RX0_21 rfl dX0_take_85 ?_
  refine x_iconst (v := nI 0) hx dX0_take_88 (by decide) ?_
  refine x_aload_n hx dX0_take_89 hl 0 rfl ?_
  refine x_get0 hx hW.1 0 rfl 8 (Nat.le_of_ble_eq_true rfl) wf_RX0_21 rfl dX0_take_90 ?_
  refine x_iconst (v := nI 0) hx dX0_take_93 (by decide) ?_
  refine x_bipush (v := nI 10) hx dX0_take_94 (by decide) ?_
  refine x_copy hx wm_RX0_44 hW 9 4 rfl rfl (Nat.le_of_ble_eq_true rfl) (Nat.le_of_ble_eq_true rfl) hl (by decide) dX0_take_96 [(tb, .inr (0, [.int (nI uhd.toNat), .int (nI ulo), .int (iI ((ue : Int) - 1)), .int (nI uhn.toNat), .int (nI ucu), .ref tsc, .ref tfg, .ref ttv, .ref tpr])), (tsc, .inl (D.2.1, 4, .inl (nA uSC))), (tfg, .inl (D.2.1, 24, .inl (nA uFG))), (ttv, .inl (D.2.1, 10, .inl (nA uTV))), (tpr, .inl (D.2.1, 10, .inl (nA uPR))), (ub, .inr (0, [.int (nI uhd.toNat), .int (nI ulo), .int (iI ((ue : Int) - 1)), .int (nI uhn.toNat), .int (nI ucu), .ref usc, .ref ufg, .ref utv, .ref upr])), (usc, .inl (D.2.1, 4, .inl (nA uSC))), (ufg, .inl (D.2.1, 24, .inl (nA uFG))), (utv, .inl (D.2.1, 10, .inl (nA uTV))), (upr, .inl (D.2.1, 10, .inl (nA uPR)))] rfl (fun H locs hW => ?_)
  exact hret _ _ _ _ dX0_take_99 hW
set_option maxHeartbeats 4000000 in
set_option maxRecDepth 100000 in
theorem c_X4_begin (l : Launch) (D : KD) (nw : Nat) (nnf : Nat) (nlost : Nat) (ncost : Nat) (ndr : Nat) (nNF : Nat → Nat) (tb : Nat) (thd : Bool) (tlo : Nat) (te : Nat) (thn : Bool) (tcu : Nat) (tsc : Nat) (tfg : Nat) (ttv : Nat) (tpr : Nat) (tFG : Nat → Nat)  : cV l yX4_begin cX4_begin 2 rm_X4_begin D [(nw, .inr (4, [.ref nnf, .int (nI nlost), .int (nI ncost), .int (nI ndr)])), (nnf, .inl (D.2.1, 24, .inl (nA nNF))), (tb, .inr (0, [.int (nI thd.toNat), .int (nI tlo), .int (iI ((te : Int) - 1)), .int (nI thn.toNat), .int (nI tcu), .ref tsc, .ref tfg, .ref ttv, .ref tpr])), (tfg, .inl (D.2.1, 24, .inl (nA tFG)))] [.ref nw, .ref tb] [(nw, .inr (4, [.ref nnf, .int (nI 0), .int (nI 0), .int (nI ndr)])), (nnf, .inl (D.2.1, 24, .inl (nA tFG))), (tb, .inr (0, [.int (nI thd.toNat), .int (nI tlo), .int (iI ((te : Int) - 1)), .int (nI thn.toNat), .int (nI tcu), .ref tsc, .ref tfg, .ref ttv, .ref tpr])), (tfg, .inl (D.2.1, 24, .inl (nA tFG)))] := by
  refine cV.mk (by decide) (Nat.le_of_ble_eq_true rfl) ?_
  intro X A hx hL hA hW hret ls hl
  subst hL
  have hl : lv_has ls 2 [(0, .ref nw), (1, .ref tb)] := hl
  refine x_aload_n hx dX4_begin_0 hl 1 rfl ?_
  refine x_get0 hx hW.1 2 rfl 6 (Nat.le_of_ble_eq_true rfl) wf_RX4_25 rfl dX4_begin_1 ?_
  refine x_iconst (v := nI 0) hx dX4_begin_4 (by decide) ?_
  refine x_aload_n hx dX4_begin_5 hl 0 rfl ?_
  refine x_get4 hx hW.1 0 rfl 0 (Nat.le_of_ble_eq_true rfl) wf_RX4_9 rfl dX4_begin_6 ?_
  refine x_iconst (v := nI 0) hx dX4_begin_9 (by decide) ?_
  refine x_bipush (v := nI 24) hx dX4_begin_10 (by decide) ?_
  refine x_copy hx wm_RX4_28 hW 3 1 rfl rfl (Nat.le_of_ble_eq_true rfl) (Nat.le_of_ble_eq_true rfl) hl (by decide) dX4_begin_12 [(nw, .inr (4, [.ref nnf, .int (nI nlost), .int (nI ncost), .int (nI ndr)])), (nnf, .inl (D.2.1, 24, .inl (nA tFG))), (tb, .inr (0, [.int (nI thd.toNat), .int (nI tlo), .int (iI ((te : Int) - 1)), .int (nI thn.toNat), .int (nI tcu), .ref tsc, .ref tfg, .ref ttv, .ref tpr])), (tfg, .inl (D.2.1, 24, .inl (nA tFG)))] rfl (fun H locs hW => ?_)
  refine x_aload_n hx dX4_begin_15 hl 0 rfl ?_
  refine x_iconst (v := nI 0) hx dX4_begin_16 (by decide) ?_
  refine x_put4 hx hW 0 rfl 1 (Nat.le_of_ble_eq_true rfl) wf_RX4_15 rfl rfl rfl (Nat.le_of_ble_eq_true rfl) dX4_begin_17 [(nw, .inr (4, [.ref nnf, .int (nI 0), .int (nI ncost), .int (nI ndr)])), (nnf, .inl (D.2.1, 24, .inl (nA tFG))), (tb, .inr (0, [.int (nI thd.toNat), .int (nI tlo), .int (iI ((te : Int) - 1)), .int (nI thn.toNat), .int (nI tcu), .ref tsc, .ref tfg, .ref ttv, .ref tpr])), (tfg, .inl (D.2.1, 24, .inl (nA tFG)))] rfl (fun H locs hW => ?_)
  refine x_aload_n hx dX4_begin_20 hl 0 rfl ?_
  refine x_iconst (v := nI 0) hx dX4_begin_21 (by decide) ?_
  refine x_put4 hx hW 0 rfl 2 (Nat.le_of_ble_eq_true rfl) wf_RX4_19 rfl rfl rfl (Nat.le_of_ble_eq_true rfl) dX4_begin_22 [(nw, .inr (4, [.ref nnf, .int (nI 0), .int (nI 0), .int (nI ndr)])), (nnf, .inl (D.2.1, 24, .inl (nA tFG))), (tb, .inr (0, [.int (nI thd.toNat), .int (nI tlo), .int (iI ((te : Int) - 1)), .int (nI thn.toNat), .int (nI tcu), .ref tsc, .ref tfg, .ref ttv, .ref tpr])), (tfg, .inl (D.2.1, 24, .inl (nA tFG)))] rfl (fun H locs hW => ?_)
  exact hret _ _ _ _ dX4_begin_25 hW
set_option maxHeartbeats 4000000 in
set_option maxRecDepth 100000 in
theorem c_X4_takeDone (l : Launch) (D : KD) (nw : Nat) (nnf : Nat) (nlost : Nat) (ncost : Nat) (ndr : Nat) (nNF : Nat → Nat) (ow : Nat) (onf : Nat) (olost : Nat) (ocost : Nat) (odr : Nat) (oNF : Nat → Nat)  : cV l yX4_takeDone cX4_takeDone 2 rm_X4_takeDone D [(nw, .inr (4, [.ref nnf, .int (nI nlost), .int (nI ncost), .int (nI ndr)])), (nnf, .inl (D.2.1, 24, .inl (nA nNF))), (ow, .inr (4, [.ref onf, .int (nI olost), .int (nI ocost), .int (nI odr)])), (onf, .inl (D.2.1, 24, .inl (nA oNF)))] [.ref nw, .ref ow] [(nw, .inr (4, [.ref nnf, .int (nI olost), .int (nI ocost), .int (nI ndr)])), (nnf, .inl (D.2.1, 24, .inl (nA oNF))), (ow, .inr (4, [.ref onf, .int (nI olost), .int (nI ocost), .int (nI odr)])), (onf, .inl (D.2.1, 24, .inl (nA oNF)))] := by
  refine cV.mk (by decide) (Nat.le_of_ble_eq_true rfl) ?_
  intro X A hx hL hA hW hret ls hl
  subst hL
  have hl : lv_has ls 2 [(0, .ref nw), (1, .ref ow)] := hl
  refine x_aload_n hx dX4_takeDone_0 hl 1 rfl ?_
  refine x_get4 hx hW.1 2 rfl 0 (Nat.le_of_ble_eq_true rfl) wf_RX4_9 rfl dX4_takeDone_1 ?_
  refine x_iconst (v := nI 0) hx dX4_takeDone_4 (by decide) ?_
  refine x_aload_n hx dX4_takeDone_5 hl 0 rfl ?_
  refine x_get4 hx hW.1 0 rfl 0 (Nat.le_of_ble_eq_true rfl) wf_RX4_9 rfl dX4_takeDone_6 ?_
  refine x_iconst (v := nI 0) hx dX4_takeDone_9 (by decide) ?_
  refine x_bipush (v := nI 24) hx dX4_takeDone_10 (by decide) ?_
  refine x_copy hx wm_RX4_28 hW 3 1 rfl rfl (Nat.le_of_ble_eq_true rfl) (Nat.le_of_ble_eq_true rfl) hl (by decide) dX4_takeDone_12 [(nw, .inr (4, [.ref nnf, .int (nI nlost), .int (nI ncost), .int (nI ndr)])), (nnf, .inl (D.2.1, 24, .inl (nA oNF))), (ow, .inr (4, [.ref onf, .int (nI olost), .int (nI ocost), .int (nI odr)])), (onf, .inl (D.2.1, 24, .inl (nA oNF)))] rfl (fun H locs hW => ?_)
  refine x_aload_n hx dX4_takeDone_15 hl 0 rfl ?_
  refine x_aload_n hx dX4_takeDone_16 hl 1 rfl ?_
  refine x_get4 hx hW.1 2 rfl 1 (Nat.le_of_ble_eq_true rfl) wf_RX4_15 rfl dX4_takeDone_17 ?_
  refine x_put4 hx hW 0 rfl 1 (Nat.le_of_ble_eq_true rfl) wf_RX4_15 rfl rfl rfl (Nat.le_of_ble_eq_true rfl) dX4_takeDone_20 [(nw, .inr (4, [.ref nnf, .int (nI olost), .int (nI ncost), .int (nI ndr)])), (nnf, .inl (D.2.1, 24, .inl (nA oNF))), (ow, .inr (4, [.ref onf, .int (nI olost), .int (nI ocost), .int (nI odr)])), (onf, .inl (D.2.1, 24, .inl (nA oNF)))] rfl (fun H locs hW => ?_)
  refine x_aload_n hx dX4_takeDone_23 hl 0 rfl ?_
  refine x_aload_n hx dX4_takeDone_24 hl 1 rfl ?_
  refine x_get4 hx hW.1 2 rfl 2 (Nat.le_of_ble_eq_true rfl) wf_RX4_19 rfl dX4_takeDone_25 ?_
  refine x_put4 hx hW 0 rfl 2 (Nat.le_of_ble_eq_true rfl) wf_RX4_19 rfl rfl rfl (Nat.le_of_ble_eq_true rfl) dX4_takeDone_28 [(nw, .inr (4, [.ref nnf, .int (nI olost), .int (nI ocost), .int (nI ndr)])), (nnf, .inl (D.2.1, 24, .inl (nA oNF))), (ow, .inr (4, [.ref onf, .int (nI olost), .int (nI ocost), .int (nI odr)])), (onf, .inl (D.2.1, 24, .inl (nA oNF)))] rfl (fun H locs hW => ?_)
  exact hret _ _ _ _ dX4_takeDone_31 hW
set_option maxHeartbeats 4000000 in
set_option maxRecDepth 100000 in
theorem c_X4_takeAll (l : Launch) (D : KD) (nw : Nat) (nnf : Nat) (nlost : Nat) (ncost : Nat) (ndr : Nat) (nNF : Nat → Nat) (ow : Nat) (onf : Nat) (olost : Nat) (ocost : Nat) (odr : Nat) (oNF : Nat → Nat)  : cV l yX4_takeAll cX4_takeAll 2 rm_X4_takeAll D [(nw, .inr (4, [.ref nnf, .int (nI nlost), .int (nI ncost), .int (nI ndr)])), (nnf, .inl (D.2.1, 24, .inl (nA nNF))), (ow, .inr (4, [.ref onf, .int (nI olost), .int (nI ocost), .int (nI odr)])), (onf, .inl (D.2.1, 24, .inl (nA oNF)))] [.ref nw, .ref ow] [(nw, .inr (4, [.ref nnf, .int (nI olost), .int (nI ocost), .int (nI odr)])), (nnf, .inl (D.2.1, 24, .inl (nA oNF))), (ow, .inr (4, [.ref onf, .int (nI olost), .int (nI ocost), .int (nI odr)])), (onf, .inl (D.2.1, 24, .inl (nA oNF)))] := by
  refine cV.mk (by decide) (Nat.le_of_ble_eq_true rfl) ?_
  intro X A hx hL hA hW hret ls hl
  subst hL
  have hl : lv_has ls 2 [(0, .ref nw), (1, .ref ow)] := hl
  refine x_aload_n hx dX4_takeAll_0 hl 0 rfl ?_
  refine x_aload_n hx dX4_takeAll_1 hl 1 rfl ?_
  refine x_callVV (As := [.ref ow]) (rest := []) (wr := []) hx yv_X4_takeDone (c_X4_takeDone _ D nw nnf nlost ncost ndr nNF ow onf olost ocost odr oNF ) wm_RX4_34 hA hW [0, 1, 2, 3] [] rfl rfl rfl rfl rfl 0 rfl rfl ⟨rfl, rfl⟩ ⟨Nat.le_of_ble_eq_true rfl, Nat.le_of_ble_eq_true rfl⟩ ⟨Nat.zero_le _, Nat.zero_le _⟩ hl rfl rfl (Nat.le_of_ble_eq_true rfl) dX4_takeAll_2 [(nw, .inr (4, [.ref nnf, .int (nI olost), .int (nI ocost), .int (nI ndr)])), (nnf, .inl (D.2.1, 24, .inl (nA oNF))), (ow, .inr (4, [.ref onf, .int (nI olost), .int (nI ocost), .int (nI odr)])), (onf, .inl (D.2.1, 24, .inl (nA oNF)))] rfl (fun H locs hW => ?_)
  refine x_aload_n hx dX4_takeAll_5 hl 0 rfl ?_
  refine x_aload_n hx dX4_takeAll_6 hl 1 rfl ?_
  refine x_get4 hx hW.1 2 rfl 3 (Nat.le_of_ble_eq_true rfl) wf_RX4_22 rfl dX4_takeAll_7 ?_
  refine x_put4 hx hW 0 rfl 3 (Nat.le_of_ble_eq_true rfl) wf_RX4_22 rfl rfl rfl (Nat.le_of_ble_eq_true rfl) dX4_takeAll_10 [(nw, .inr (4, [.ref nnf, .int (nI olost), .int (nI ocost), .int (nI odr)])), (nnf, .inl (D.2.1, 24, .inl (nA oNF))), (ow, .inr (4, [.ref onf, .int (nI olost), .int (nI ocost), .int (nI odr)])), (onf, .inl (D.2.1, 24, .inl (nA oNF)))] rfl (fun H locs hW => ?_)
  exact hret _ _ _ _ dX4_takeAll_13 hW
set_option maxHeartbeats 4000000 in
set_option maxRecDepth 100000 in
theorem c_X4_isLost (l : Launch) (D : KD) (nw : Nat) (nnf : Nat) (nlost : Nat) (ncost : Nat) (ndr : Nat) (c : Nat) (hlo : nlost < 16) (hc : c < 32) : cR l yX4_isLost cX4_isLost 2 (some .boolean) rm_X4_isLost D [(nw, .inr (4, [.ref nnf, .int (nI nlost), .int (nI ncost), .int (nI ndr)]))] [.ref nw, .int (nI c)] (nI (nlost.testBit c).toNat) := by
  refine cR.mk (by decide) (retZ _) (Nat.le_of_ble_eq_true rfl) ?_
  intro X hx hL hP hret ls hl
  subst hL
  have hl : lv_has ls 2 [(0, .ref nw), (1, .int (nI c))] := hl
  refine x_aload_n hx dX4_isLost_0 hl 0 rfl ?_
  refine x_get4 hx hP 0 rfl 1 (Nat.le_of_ble_eq_true rfl) wf_RX4_15 rfl dX4_isLost_1 ?_
  refine x_iload_n hx dX4_isLost_4 hl 1 rfl ?_
  refine x_ishr (v := nI (nlost >>> c)) hx dX4_isLost_5 (nI_shr (by omega) (by omega)) ?_
  refine x_iconst (v := nI 1) hx dX4_isLost_6 (by decide) ?_
  refine x_iand (v := nI (nlost.testBit c).toNat) hx dX4_isLost_7 (nI_tb _ _) ?_
  refine x_iconst (v := nI 1) hx dX4_isLost_8 (by decide) ?_
  refine x_icmp_ne_B1 (tgt := 16) hx dX4_isLost_9 (by decide) (fun h_1 => ?_) (fun h_1 => ?_)
  · refine x_iconst (v := nI 0) hx dX4_isLost_16 (by decide) ?_
    exact hret _ _ _ dX4_isLost_17 (by simp [*])
  · refine x_iconst (v := nI 1) hx dX4_isLost_12 (by decide) ?_
    refine x_goto (tgt := 17) hx dX4_isLost_13 (by decide) ?_
    exact hret _ _ _ dX4_isLost_17 (by simp [*])
def drawN (s : Nat) : Nat := (s * 1103515245 + 12345) % 2147483648
theorem drawN_lt (s : Nat) : drawN s < 2147483648 := Nat.mod_lt _ (by decide)
set_option maxHeartbeats 4000000 in
set_option maxRecDepth 100000 in
theorem c_X4_draw (l : Launch) (D : KD) (nw : Nat) (nnf : Nat) (nlost : Nat) (ncost : Nat) (ndr : Nat) (n : Nat) (hdr : ndr < 2147483648) (hn : 0 < n) (hn2 : n < 2147483648) : cM l yX4_draw cX4_draw 2 (some .int) rm_X4_draw D [(nw, .inr (4, [.ref nnf, .int (nI nlost), .int (nI ncost), .int (nI ndr)]))] [.ref nw, .int (nI n)] (nI (drawN ndr / 65536 % n)) [(nw, .inr (4, [.ref nnf, .int (nI nlost), .int (nI ncost), .int (nI (drawN ndr))]))] := by
  refine cM.mk (by decide) (retI _) (Nat.le_of_ble_eq_true rfl) ?_
  intro X A hx hL hA hW hret ls hl
  subst hL
  have hl : lv_has ls 2 [(0, .ref nw), (1, .int (nI n))] := hl
  refine x_aload_n hx dX4_draw_0 hl 0 rfl ?_
  refine x_aload_n hx dX4_draw_1 hl 0 rfl ?_
  refine x_get4 hx hW.1 0 rfl 3 (Nat.le_of_ble_eq_true rfl) wf_RX4_22 rfl dX4_draw_2 ?_
  refine x_i2l (v := lN ndr) hx dX4_draw_5 (nI_l (by omega)) ?_
  refine x_ldc2 (u := lN 1103515245) hx wk_RX4_53 (by decide) dX4_draw_6 ?_
  refine x_lmul (v := lN (ndr * 1103515245)) hx dX4_draw_9 (lN_mul _ _) ?_
  refine x_ldc2 (u := lN 12345) hx wk_RX4_55 (by decide) dX4_draw_10 ?_
  refine x_ladd (v := lN (ndr * 1103515245 + 12345)) hx dX4_draw_13 (lN_add _ _) ?_
  refine x_ldc2 (u := lN 2147483647) hx wk_RX4_57 (by decide) dX4_draw_14 ?_
  refine x_land (v := lN ((ndr * 1103515245 + 12345) % 2147483648)) hx dX4_draw_17 (lN_and31 _) ?_
  refine x_l2i (v := nI ((ndr * 1103515245 + 12345) % 2147483648)) hx dX4_draw_18 (lN_i _) ?_
  refine x_put4 hx hW 0 rfl 3 (Nat.le_of_ble_eq_true rfl) wf_RX4_22 rfl rfl rfl (Nat.le_of_ble_eq_true rfl) dX4_draw_19 [(nw, .inr (4, [.ref nnf, .int (nI nlost), .int (nI ncost), .int (nI ((ndr * 1103515245 + 12345) % 2147483648))]))] rfl (fun H locs hW => ?_)
  refine x_iload_n hx dX4_draw_22 hl 1 rfl ?_
  refine x_if_le_N (a := n) (tgt := 38) hx dX4_draw_23 (by decide) (by omega) (fun h_1 => ?_) (fun h_1 => ?_)
  · omega
  · have hdl := drawN_lt ndr
    have hdl2 : (ndr * 1103515245 + 12345) % 2147483648 < 2147483648 := hdl
    refine x_aload_n hx dX4_draw_26 hl 0 rfl ?_
    refine x_get4 hx hW.1 0 rfl 3 (Nat.le_of_ble_eq_true rfl) wf_RX4_22 rfl dX4_draw_27 ?_
    refine x_ldc (u := nI 65536) hx wk_RX4_59 (by decide) dX4_draw_30 ?_
    refine x_idiv (v := nI (((ndr * 1103515245 + 12345) % 2147483648) / 65536)) hx dX4_draw_32 (by decide) (pk_div (by omega) (by omega) (by omega)) ?_
    refine x_iload_n hx dX4_draw_33 hl 1 rfl ?_
    refine x_irem (v := nI ((((ndr * 1103515245 + 12345) % 2147483648) / 65536) % n)) hx dX4_draw_34 (by first | exact nI_ne0 (by omega) (by omega) | assumption) (pk_rem (by omega) (by omega) (by omega)) ?_
    refine x_goto (tgt := 39) hx dX4_draw_35 (by decide) ?_
    have e_2 : ((ndr * 1103515245 + 12345) % 2147483648 : Nat) = drawN ndr := by
      first | rfl | omega | (simp [*]; done) | (simp [*]; omega)
    exact hret _ _ _ _ _ dX4_draw_39 (by rfl) (hW.conv [0] (w1 := [(nw, .inr (4, [.ref nnf, .int (nI nlost), .int (nI ncost), .int (nI ((ndr * 1103515245 + 12345) % 2147483648))]))]) (w2 := [(nw, .inr (4, [.ref nnf, .int (nI nlost), .int (nI ncost), .int (nI (drawN ndr))]))]) rfl rfl (cE (congrArg (fun z => ((nw, .inr (4, z)) : Nat × va_E)) (cE rfl (cE rfl (cE rfl (cE (congrArg Value.int (congrArg (fun z : Nat => nI z) e_2)) rfl))))) rfl))
/-- the figures seen of the first j sides of cube c, one side blank -/
def seenN (TV NF : Nat → Nat) (c : Nat) (bl : Int) : Nat → Nat
  | 0 => 0
  | j + 1 => if (j : Int) = bl then seenN TV NF c bl j else seenN TV NF c bl j ||| both TV (NF (c * 6 + j))
def seen (SC TV NF : Nat → Nat) (c : Nat) (bl : Int) : Nat := seenN TV NF c bl (SC c)
theorem seenN_lt {TV NF : Nat → Nat} (hT : ∀ k, k < 10 → TV k < 10) (hN : ∀ k, k < 24 → NF k < 10) {c : Nat} (hc : c < 4) (bl : Int) : ∀ j, j ≤ 6 → seenN TV NF c bl j < 1024
  | 0, _ => by simp [seenN]
  | j + 1, h => by
    have ih := seenN_lt hT hN hc bl j (by omega)
    have h1 := hN (c * 6 + j) (by omega)
    have h2 := both_lt h1 (hT _ h1)
    simp only [seenN]
    split
    · exact ih
    · exact Nat.or_lt_two_pow (n := 10) ih h2
theorem seen_lt {SC TV NF : Nat → Nat} (hS : ∀ k, k < 4 → SC k < 7) (hT : ∀ k, k < 10 → TV k < 10) (hN : ∀ k, k < 24 → NF k < 10) {c : Nat} (hc : c < 4) (bl : Int) : seen SC TV NF c bl < 1024 :=
  seenN_lt hT hN hc bl (SC c) (by have := hS c hc; omega)
set_option maxHeartbeats 4000000 in
set_option maxRecDepth 100000 in
theorem c_X4_figuresSeen (l : Launch) (D : KD) (nw : Nat) (nnf : Nat) (nlost : Nat) (ncost : Nat) (ndr : Nat) (nNF : Nat → Nat) (tb : Nat) (thd : Bool) (tlo : Nat) (te : Nat) (thn : Bool) (tcu : Nat) (tsc : Nat) (tfg : Nat) (ttv : Nat) (tpr : Nat) (tSC : Nat → Nat) (tTV : Nat → Nat) (c : Nat) (bl : Int) (hnNF : ∀ k, k < 24 → nNF k < 10) (htSC : ∀ k, k < 4 → tSC k < 7) (htTV : ∀ k, k < 10 → tTV k < 10) (hc : c < 4) (hbl : -2147483648 ≤ bl ∧ bl < 2147483648) : cR l yX4_figuresSeen cX4_figuresSeen 6 (some .int) rm_X4_figuresSeen D [(nw, .inr (4, [.ref nnf, .int (nI nlost), .int (nI ncost), .int (nI ndr)])), (nnf, .inl (D.2.1, 24, .inl (nA nNF))), (tb, .inr (0, [.int (nI thd.toNat), .int (nI tlo), .int (iI ((te : Int) - 1)), .int (nI thn.toNat), .int (nI tcu), .ref tsc, .ref tfg, .ref ttv, .ref tpr])), (tsc, .inl (D.2.1, 4, .inl (nA tSC))), (ttv, .inl (D.2.1, 10, .inl (nA tTV)))] [.ref nw, .ref tb, .int (nI c), .int (iI bl)] (nI (seen tSC tTV nNF c bl)) := by
  refine cR.mk (by decide) (retI _) (Nat.le_of_ble_eq_true rfl) ?_
  intro X hx hL hP hret ls hl
  subst hL
  have hl : lv_has ls 6 [(0, .ref nw), (1, .ref tb), (2, .int (nI c)), (3, .int (iI bl))] := hl
  have hsc := htSC c hc
  refine x_iconst (v := nI 0) hx dX4_figuresSeen_0 (by decide) ?_
  refine x_istore (lv' := [(4, .int (nI 0)), (0, .ref nw), (1, .ref tb), (2, .int (nI c)), (3, .int (iI bl))]) hx dX4_figuresSeen_1 hl (Nat.le_of_ble_eq_true rfl) rfl (fun ls hl => ?_)
  refine x_iconst (v := nI 0) hx dX4_figuresSeen_3 (by decide) ?_
  refine x_istore (lv' := [(5, .int (nI 0)), (4, .int (nI 0)), (0, .ref nw), (1, .ref tb), (2, .int (nI c)), (3, .int (iI bl))]) hx dX4_figuresSeen_4 hl (Nat.le_of_ble_eq_true rfl) rfl (fun ls hl => ?_)
  have L6_1 : ∀ (L6_1n : Nat) (j : Nat), (j ≤ tSC c) → tSC c - j < L6_1n → ∀ ls : Array Slot, lv_has ls 6 [(0, .ref nw), (1, .ref tb), (2, .int (nI c)), (3, .int (iI bl)), (4, .int (nI (seenN tTV nNF c bl j))), (5, .int (nI j))] → Wx X 0 0 (cxS X).heap [] 6 ls [] := by
    intro L6_1n
    induction L6_1n with
    | zero =>
      intro j h1 hm
      exact absurd hm (Nat.not_lt_zero _)
    | succ L6_1n ihL6_1 =>
      intro j h1 hm ls hl
      have hsl := seenN_lt htTV hnNF hc bl j (by omega)
      refine x_iload hx dX4_figuresSeen_6 hl 5 rfl ?_
      refine x_aload_n hx dX4_figuresSeen_8 hl 1 rfl ?_
      refine x_get0 hx hP 2 rfl 5 (Nat.le_of_ble_eq_true rfl) wf_RX4_60 rfl dX4_figuresSeen_9 ?_
      refine x_iload_n hx dX4_figuresSeen_12 hl 2 rfl ?_
      have hj_13 : c < 4 := by omega
      refine x_iald (v := nI (tSC c)) hx hP 3 rfl hj_13 (by decide) rfl dX4_figuresSeen_13 ?_
      have b_2 := htSC c hj_13
      refine x_icmp_ge_N (a := j) (b := (tSC c)) (tgt := 49) hx dX4_figuresSeen_14 (by decide) (by omega) (by omega) (fun h_3 => ?_) (fun h_3 => ?_)
      · refine x_iload hx dX4_figuresSeen_49 hl 4 rfl ?_
        exact hret _ _ _ dX4_figuresSeen_51 (by rw [seen]; congr 2; omega)
      · refine x_iload hx dX4_figuresSeen_17 hl 5 rfl ?_
        refine x_iload_n hx dX4_figuresSeen_19 hl 3 rfl ?_
        refine x_icmp_eq_Z (a := (j : Int)) (b := bl) (tgt := 43) hx dX4_figuresSeen_20 (by decide) (by omega) (by omega) (fun h_4 => ?_) (fun h_4 => ?_)
        · refine x_iinc (v := nI (j + 1)) (lv' := [(5, .int (nI (j + 1))), (0, .ref nw), (1, .ref tb), (2, .int (nI c)), (3, .int (iI bl)), (4, .int (nI (seenN tTV nNF c bl j)))]) hx dX4_figuresSeen_43 hl 5 rfl (nI_addc j 1) (Nat.le_of_ble_eq_true rfl) rfl (fun ls hl => ?_)
          refine x_goto (tgt := 6) hx dX4_figuresSeen_46 (by decide) ?_
          have e_5 : (seenN tTV nNF c bl j : Nat) = seenN tTV nNF c bl (j + 1) := by
            simp [seenN, *]
          have e_6 : (j + 1 : Nat) = (j + 1) := by
            first | rfl | omega | (simp [*]; done) | (simp [*]; omega)
          exact ihL6_1 (j + 1) (by first | assumption | omega | (simp [*]; done)) (by omega) _ (lv_to (l := [(0, .ref nw), (1, .ref tb), (2, .int (nI c)), (3, .int (iI bl)), (4, .int (nI (seenN tTV nNF c bl j))), (5, .int (nI (j + 1)))]) (l2 := [(0, .ref nw), (1, .ref tb), (2, .int (nI c)), (3, .int (iI bl)), (4, .int (nI (seenN tTV nNF c bl (j + 1)))), (5, .int (nI (j + 1)))]) (lv_sub hl [1, 2, 3, 4, 5, 0] rfl) (cE rfl (cE rfl (cE rfl (cE rfl (cE (congrArg (fun z => ((4, Value.int z) : Nat × Value)) (congrArg (fun z : Nat => nI z) e_5)) (cE (congrArg (fun z => ((5, Value.int z) : Nat × Value)) (congrArg (fun z : Nat => nI z) e_6)) rfl)))))))
        · refine x_iload hx dX4_figuresSeen_23 hl 4 rfl ?_
          refine x_aload_n hx dX4_figuresSeen_25 hl 1 rfl ?_
          refine x_aload_n hx dX4_figuresSeen_26 hl 0 rfl ?_
          refine x_get4 hx hP 0 rfl 0 (Nat.le_of_ble_eq_true rfl) wf_RX4_9 rfl dX4_figuresSeen_27 ?_
          refine x_iload_n hx dX4_figuresSeen_30 hl 2 rfl ?_
          refine x_iload hx dX4_figuresSeen_31 hl 5 rfl ?_
          refine x_callRN (As := [.int (nI c), .int (nI j)]) (rest := [.ref nnf, .ref tb, .int (nI (seenN tTV nNF c bl j))]) hx yv_X7_place (c_X7_place _ D c j (by first | assumption | omega | (simp [*]; done)) (by first | assumption | omega | (simp [*]; done))) (List.mem_of_getElem? (i := 8) rfl) hP [] rfl ⟨rfl, rfl⟩ ⟨Nat.le_of_ble_eq_true rfl, Nat.le_of_ble_eq_true rfl⟩ ⟨Nat.zero_le _, Nat.zero_le _⟩ hl rfl rfl (Nat.le_of_ble_eq_true rfl) dX4_figuresSeen_33 ?_
          have hj_36 : c * 6 + j < 24 := by omega
          refine x_iald (v := nI (nNF (c * 6 + j))) hx hP 1 rfl hj_36 (by decide) rfl dX4_figuresSeen_36 ?_
          have b_7 := hnNF (c * 6 + j) hj_36
          refine x_callRV (As := [.int (nI (nNF (c * 6 + j)))]) (rest := [.int (nI (seenN tTV nNF c bl j))]) hx yv_X0_bothWays (c_X0_bothWays _ D tb thd tlo te thn tcu tsc tfg ttv tpr tTV (nNF (c * 6 + j)) (by first | assumption | omega | (simp [*]; done)) (by first | assumption | omega | (simp [*]; done))) wm_RX4_63 hP [2, 4] rfl 2 rfl rfl ⟨rfl, rfl⟩ ⟨Nat.le_of_ble_eq_true rfl, Nat.le_of_ble_eq_true rfl⟩ ⟨Nat.zero_le _, Nat.zero_le _⟩ hl rfl rfl (Nat.le_of_ble_eq_true rfl) dX4_figuresSeen_37 ?_
          refine x_ior (v := nI ((seenN tTV nNF c bl j) ||| (both tTV (nNF (c * 6 + j))))) hx dX4_figuresSeen_40 (nI_or _ _) ?_
          refine x_istore (lv' := [(4, .int (nI ((seenN tTV nNF c bl j) ||| (both tTV (nNF (c * 6 + j)))))), (0, .ref nw), (1, .ref tb), (2, .int (nI c)), (3, .int (iI bl)), (5, .int (nI j))]) hx dX4_figuresSeen_41 hl (Nat.le_of_ble_eq_true rfl) rfl (fun ls hl => ?_)
          refine x_iinc (v := nI (j + 1)) (lv' := [(5, .int (nI (j + 1))), (4, .int (nI ((seenN tTV nNF c bl j) ||| (both tTV (nNF (c * 6 + j)))))), (0, .ref nw), (1, .ref tb), (2, .int (nI c)), (3, .int (iI bl))]) hx dX4_figuresSeen_43 hl 5 rfl (nI_addc j 1) (Nat.le_of_ble_eq_true rfl) rfl (fun ls hl => ?_)
          refine x_goto (tgt := 6) hx dX4_figuresSeen_46 (by decide) ?_
          have e_8 : ((seenN tTV nNF c bl j) ||| (both tTV (nNF (c * 6 + j))) : Nat) = seenN tTV nNF c bl (j + 1) := by
            simp [seenN, *]
          have e_9 : (j + 1 : Nat) = (j + 1) := by
            first | rfl | omega | (simp [*]; done) | (simp [*]; omega)
          exact ihL6_1 (j + 1) (by first | assumption | omega | (simp [*]; done)) (by omega) _ (lv_to (l := [(0, .ref nw), (1, .ref tb), (2, .int (nI c)), (3, .int (iI bl)), (4, .int (nI ((seenN tTV nNF c bl j) ||| (both tTV (nNF (c * 6 + j)))))), (5, .int (nI (j + 1)))]) (l2 := [(0, .ref nw), (1, .ref tb), (2, .int (nI c)), (3, .int (iI bl)), (4, .int (nI (seenN tTV nNF c bl (j + 1)))), (5, .int (nI (j + 1)))]) (lv_sub hl [2, 3, 4, 5, 1, 0] rfl) (cE rfl (cE rfl (cE rfl (cE rfl (cE (congrArg (fun z => ((4, Value.int z) : Nat × Value)) (congrArg (fun z : Nat => nI z) e_8)) (cE (congrArg (fun z => ((5, Value.int z) : Nat × Value)) (congrArg (fun z : Nat => nI z) e_9)) rfl)))))))
  have e_10 : (0 : Nat) = seenN tTV nNF c bl 0 := by
    simp [seenN, *]
  exact L6_1 (tSC c - 0 + 1) 0 (by first | assumption | omega | (simp [*]; done)) (Nat.lt_succ_self _) _ (lv_to (l := [(0, .ref nw), (1, .ref tb), (2, .int (nI c)), (3, .int (iI bl)), (4, .int (nI 0)), (5, .int (nI 0))]) (l2 := [(0, .ref nw), (1, .ref tb), (2, .int (nI c)), (3, .int (iI bl)), (4, .int (nI (seenN tTV nNF c bl 0))), (5, .int (nI 0))]) (lv_sub hl [2, 3, 4, 5, 1, 0] rfl) (cE rfl (cE rfl (cE rfl (cE rfl (cE (congrArg (fun z => ((4, Value.int z) : Nat × Value)) (congrArg (fun z : Nat => nI z) e_10)) (cE rfl rfl)))))))
set_option maxHeartbeats 4000000 in
set_option maxRecDepth 100000 in
theorem c_X4_putOn (l : Launch) (D : KD) (nw : Nat) (nnf : Nat) (nlost : Nat) (ncost : Nat) (ndr : Nat) (nNF : Nat → Nat) (tb : Nat) (thd : Bool) (tlo : Nat) (te : Nat) (thn : Bool) (tcu : Nat) (tsc : Nat) (tfg : Nat) (ttv : Nat) (tpr : Nat) (tSC : Nat → Nat) (tPR : Nat → Nat) (c : Nat) (f : Nat) (g : Nat) (hnNF : ∀ k, k < 24 → nNF k < 10) (htSC : ∀ k, k < 4 → tSC k < 7) (htPR : ∀ k, k < 10 → tPR k < 100) (hcu : tcu ≤ 4) (hc : c < tcu) (hf : f < tSC c) (hg : g < 10) (hcost : ncost < 1000000) : cV l yX4_putOn cX4_putOn 5 rm_X4_putOn D [(nw, .inr (4, [.ref nnf, .int (nI nlost), .int (nI ncost), .int (nI ndr)])), (nnf, .inl (D.2.1, 24, .inl (nA nNF))), (tb, .inr (0, [.int (nI thd.toNat), .int (nI tlo), .int (iI ((te : Int) - 1)), .int (nI thn.toNat), .int (nI tcu), .ref tsc, .ref tfg, .ref ttv, .ref tpr])), (tsc, .inl (D.2.1, 4, .inl (nA tSC))), (tpr, .inl (D.2.1, 10, .inl (nA tPR)))] [.ref nw, .ref tb, .int (nI c), .int (nI f), .int (nI g)] [(nw, .inr (4, [.ref nnf, .int (nI nlost), .int (nI (ncost + tPR g)), .int (nI ndr)])), (nnf, .inl (D.2.1, 24, .inl (nA (va_up nNF (c * 6 + f) g)))), (tb, .inr (0, [.int (nI thd.toNat), .int (nI tlo), .int (iI ((te : Int) - 1)), .int (nI thn.toNat), .int (nI tcu), .ref tsc, .ref tfg, .ref ttv, .ref tpr])), (tsc, .inl (D.2.1, 4, .inl (nA tSC))), (tpr, .inl (D.2.1, 10, .inl (nA tPR)))] := by
  refine cV.mk (by decide) (Nat.le_of_ble_eq_true rfl) ?_
  intro X A hx hL hA hW hret ls hl
  subst hL
  have hl : lv_has ls 5 [(0, .ref nw), (1, .ref tb), (2, .int (nI c)), (3, .int (nI f)), (4, .int (nI g))] := hl
  have hsc := htSC c (by omega)
  refine x_aload_n hx dX4_putOn_0 hl 1 rfl ?_
  refine x_iload_n hx dX4_putOn_1 hl 2 rfl ?_
  refine x_iload_n hx dX4_putOn_2 hl 3 rfl ?_
  refine x_callRV (As := [.int (nI c), .int (nI f)]) (rest := []) hx yv_X0_hasSide (c_X0_hasSide _ D tb thd tlo te thn tcu tsc tfg ttv tpr tSC (c : Int) (f : Int) (by first | assumption | omega | (simp [*]; done)) (by first | assumption | omega | (simp [*]; done)) (by first | assumption | omega | (simp [*]; done)) (by first | assumption | omega | (simp [*]; done))) wm_RX4_38 hW.1 [2, 3] rfl 2 rfl rfl ⟨rfl, rfl⟩ ⟨Nat.le_of_ble_eq_true rfl, Nat.le_of_ble_eq_true rfl⟩ ⟨Nat.zero_le _, Nat.zero_le _⟩ hl rfl rfl (Nat.le_of_ble_eq_true rfl) dX4_putOn_3 ?_
  refine x_if_eq_B (tgt := 45) hx dX4_putOn_6 (by decide) (fun h_1 => ?_) (fun h_1 => ?_)
  · exact absurd (show sideB tcu tSC (c : Int) (f : Int) = true from decide_eq_true (by simp only [Int.toNat_natCast]; omega)) (by rw [h_1]; decide)
  · refine x_iload hx dX4_putOn_9 hl 4 rfl ?_
    refine x_callRN (As := [.int (nI g)]) (rest := []) hx yv_X7_isFigure (c_X7_isFigure _ D (g : Int) (by first | assumption | omega | (simp [*]; done))) (List.mem_of_getElem? (i := 9) rfl) hW.1 [] rfl ⟨rfl, rfl⟩ ⟨Nat.le_of_ble_eq_true rfl, Nat.le_of_ble_eq_true rfl⟩ ⟨Nat.zero_le _, Nat.zero_le _⟩ hl rfl rfl (Nat.le_of_ble_eq_true rfl) dX4_putOn_11 ?_
    refine x_if_eq_B (tgt := 45) hx dX4_putOn_14 (by decide) (fun h_2 => ?_) (fun h_2 => ?_)
    · have h9 := of_decide_eq_false h_2
      omega
    · have hd_3 := of_decide_eq_true h_2
      refine x_aload_n hx dX4_putOn_17 hl 0 rfl ?_
      refine x_get4 hx hW.1 0 rfl 0 (Nat.le_of_ble_eq_true rfl) wf_RX4_9 rfl dX4_putOn_18 ?_
      refine x_iload_n hx dX4_putOn_21 hl 2 rfl ?_
      refine x_iload_n hx dX4_putOn_22 hl 3 rfl ?_
      refine x_callRN (As := [.int (nI c), .int (nI f)]) (rest := [.ref nnf]) hx yv_X7_place (c_X7_place _ D c f (by first | assumption | omega | (simp [*]; done)) (by first | assumption | omega | (simp [*]; done))) (List.mem_of_getElem? (i := 8) rfl) hW.1 [] rfl ⟨rfl, rfl⟩ ⟨Nat.le_of_ble_eq_true rfl, Nat.le_of_ble_eq_true rfl⟩ ⟨Nat.zero_le _, Nat.zero_le _⟩ hl rfl rfl (Nat.le_of_ble_eq_true rfl) dX4_putOn_23 ?_
      refine x_iload hx dX4_putOn_26 hl 4 rfl ?_
      have hj_28 : c * 6 + f < 24 := by omega
      have b_4 : ∀ k, k < 24 → (va_up nNF (c * 6 + f) g) k < 10 := bnd_up hnNF (by omega)
      refine x_iast hx hW 1 rfl hj_28 (by decide) (upd_nA _ _ _) dX4_putOn_28 [(nw, .inr (4, [.ref nnf, .int (nI nlost), .int (nI ncost), .int (nI ndr)])), (nnf, .inl (D.2.1, 24, .inl (nA (va_up nNF (c * 6 + f) g)))), (tb, .inr (0, [.int (nI thd.toNat), .int (nI tlo), .int (iI ((te : Int) - 1)), .int (nI thn.toNat), .int (nI tcu), .ref tsc, .ref tfg, .ref ttv, .ref tpr])), (tsc, .inl (D.2.1, 4, .inl (nA tSC))), (tpr, .inl (D.2.1, 10, .inl (nA tPR)))] rfl (fun H locs hW => ?_)
      refine x_aload_n hx dX4_putOn_29 hl 0 rfl ?_
      refine x_dup hx dX4_putOn_30 rfl ?_
      refine x_get4 hx hW.1 0 rfl 2 (Nat.le_of_ble_eq_true rfl) wf_RX4_19 rfl dX4_putOn_31 ?_
      refine x_aload_n hx dX4_putOn_34 hl 1 rfl ?_
      refine x_get0 hx hW.1 2 rfl 8 (Nat.le_of_ble_eq_true rfl) wf_RX4_50 rfl dX4_putOn_35 ?_
      refine x_iload hx dX4_putOn_38 hl 4 rfl ?_
      have hj_40 : g < 10 := by omega
      refine x_iald (v := nI (tPR g)) hx hW.1 4 rfl hj_40 (by decide) rfl dX4_putOn_40 ?_
      have b_5 := htPR g hj_40
      refine x_iadd (v := nI (ncost + (tPR g))) hx dX4_putOn_41 (nI_add _ _) ?_
      refine x_put4 hx hW 0 rfl 2 (Nat.le_of_ble_eq_true rfl) wf_RX4_19 rfl rfl rfl (Nat.le_of_ble_eq_true rfl) dX4_putOn_42 [(nw, .inr (4, [.ref nnf, .int (nI nlost), .int (nI (ncost + (tPR g))), .int (nI ndr)])), (nnf, .inl (D.2.1, 24, .inl (nA (va_up nNF (c * 6 + f) g)))), (tb, .inr (0, [.int (nI thd.toNat), .int (nI tlo), .int (iI ((te : Int) - 1)), .int (nI thn.toNat), .int (nI tcu), .ref tsc, .ref tfg, .ref ttv, .ref tpr])), (tsc, .inl (D.2.1, 4, .inl (nA tSC))), (tpr, .inl (D.2.1, 10, .inl (nA tPR)))] rfl (fun H locs hW => ?_)
      have e_6 : (ncost + (tPR g) : Nat) = ncost + tPR g := by
        first | rfl | omega | (simp [*]; done) | (simp [*]; omega)
      exact hret _ _ _ _ dX4_putOn_45 (hW.conv [0, 1, 2, 3, 4] (w1 := [(nw, .inr (4, [.ref nnf, .int (nI nlost), .int (nI (ncost + (tPR g))), .int (nI ndr)])), (nnf, .inl (D.2.1, 24, .inl (nA (va_up nNF (c * 6 + f) g)))), (tb, .inr (0, [.int (nI thd.toNat), .int (nI tlo), .int (iI ((te : Int) - 1)), .int (nI thn.toNat), .int (nI tcu), .ref tsc, .ref tfg, .ref ttv, .ref tpr])), (tsc, .inl (D.2.1, 4, .inl (nA tSC))), (tpr, .inl (D.2.1, 10, .inl (nA tPR)))]) (w2 := [(nw, .inr (4, [.ref nnf, .int (nI nlost), .int (nI (ncost + tPR g)), .int (nI ndr)])), (nnf, .inl (D.2.1, 24, .inl (nA (va_up nNF (c * 6 + f) g)))), (tb, .inr (0, [.int (nI thd.toNat), .int (nI tlo), .int (iI ((te : Int) - 1)), .int (nI thn.toNat), .int (nI tcu), .ref tsc, .ref tfg, .ref ttv, .ref tpr])), (tsc, .inl (D.2.1, 4, .inl (nA tSC))), (tpr, .inl (D.2.1, 10, .inl (nA tPR)))]) rfl rfl (cE (congrArg (fun z => ((nw, .inr (4, z)) : Nat × va_E)) (cE rfl (cE rfl (cE (congrArg Value.int (congrArg (fun z : Nat => nI z) e_6)) (cE rfl rfl))))) (cE rfl (cE rfl (cE rfl (cE rfl rfl))))))
set_option maxHeartbeats 4000000 in
set_option maxRecDepth 100000 in
theorem c_X1_clear (l : Launch) (D : KD) (no : Nat) (wn : Nat) (bn : Nat) (nwd : Nat) (nws : Nat) (nbk : Nat)  : cV l yX1_clear cX1_clear 1 rm_X1_clear D [(no, .inr (1, [.int (nI wn), .int (nI bn), .ref nwd, .ref nws, .ref nbk]))] [.ref no] [(no, .inr (1, [.int (nI 0), .int (nI 0), .ref nwd, .ref nws, .ref nbk]))] := by
  refine cV.mk (by decide) (Nat.le_of_ble_eq_true rfl) ?_
  intro X A hx hL hA hW hret ls hl
  subst hL
  have hl : lv_has ls 1 [(0, .ref no)] := hl
  refine x_aload_n hx dX1_clear_0 hl 0 rfl ?_
  refine x_iconst (v := nI 0) hx dX1_clear_1 (by decide) ?_
  refine x_put1 hx hW 0 rfl 0 (Nat.le_of_ble_eq_true rfl) wf_RX1_9 rfl rfl rfl (Nat.le_of_ble_eq_true rfl) dX1_clear_2 [(no, .inr (1, [.int (nI 0), .int (nI bn), .ref nwd, .ref nws, .ref nbk]))] rfl (fun H locs hW => ?_)
  refine x_aload_n hx dX1_clear_5 hl 0 rfl ?_
  refine x_iconst (v := nI 0) hx dX1_clear_6 (by decide) ?_
  refine x_put1 hx hW 0 rfl 1 (Nat.le_of_ble_eq_true rfl) wf_RX1_15 rfl rfl rfl (Nat.le_of_ble_eq_true rfl) dX1_clear_7 [(no, .inr (1, [.int (nI 0), .int (nI 0), .ref nwd, .ref nws, .ref nbk]))] rfl (fun H locs hW => ?_)
  exact hret _ _ _ _ dX1_clear_10 hW
set_option maxHeartbeats 4000000 in
set_option maxRecDepth 100000 in
theorem c_X1_addWrong (l : Launch) (D : KD) (no : Nat) (wn : Nat) (bn : Nat) (nwd : Nat) (nws : Nat) (nbk : Nat) (WD : Nat → Nat) (WS : Nat → Bool) (d : Nat) (b : Bool) (hw : wn < 6) : cV l yX1_addWrong cX1_addWrong 3 rm_X1_addWrong D [(no, .inr (1, [.int (nI wn), .int (nI bn), .ref nwd, .ref nws, .ref nbk])), (nwd, .inl (D.2.1, 6, .inl (nA WD))), (nws, .inl (D.2.2.1, 6, .inl (bA WS)))] [.ref no, .int (nI d), .int (nI b.toNat)] [(no, .inr (1, [.int (nI (wn + 1)), .int (nI bn), .ref nwd, .ref nws, .ref nbk])), (nwd, .inl (D.2.1, 6, .inl (nA (va_up WD wn d)))), (nws, .inl (D.2.2.1, 6, .inl (bA (va_up WS wn b))))] := by
  refine cV.mk (by decide) (Nat.le_of_ble_eq_true rfl) ?_
  intro X A hx hL hA hW hret ls hl
  subst hL
  have hl : lv_has ls 3 [(0, .ref no), (1, .int (nI d)), (2, .int (nI b.toNat))] := hl
  refine x_aload_n hx dX1_addWrong_0 hl 0 rfl ?_
  refine x_get1 hx hW.1 0 rfl 0 (Nat.le_of_ble_eq_true rfl) wf_RX1_9 rfl dX1_addWrong_1 ?_
  refine x_bipush (v := nI 6) hx dX1_addWrong_4 (by decide) ?_
  refine x_icmp_ge_N (a := wn) (b := 6) (tgt := 39) hx dX1_addWrong_6 (by decide) (by omega) (by omega) (fun h_1 => ?_) (fun h_1 => ?_)
  · omega
  · refine x_aload_n hx dX1_addWrong_9 hl 0 rfl ?_
    refine x_get1 hx hW.1 0 rfl 2 (Nat.le_of_ble_eq_true rfl) wf_RX1_18 rfl dX1_addWrong_10 ?_
    refine x_aload_n hx dX1_addWrong_13 hl 0 rfl ?_
    refine x_get1 hx hW.1 0 rfl 0 (Nat.le_of_ble_eq_true rfl) wf_RX1_9 rfl dX1_addWrong_14 ?_
    refine x_iload_n hx dX1_addWrong_17 hl 1 rfl ?_
    have hj_18 : wn < 6 := by omega
    refine x_iast hx hW 1 rfl hj_18 (by decide) (upd_nA _ _ _) dX1_addWrong_18 [(no, .inr (1, [.int (nI wn), .int (nI bn), .ref nwd, .ref nws, .ref nbk])), (nwd, .inl (D.2.1, 6, .inl (nA (va_up WD wn d)))), (nws, .inl (D.2.2.1, 6, .inl (bA WS)))] rfl (fun H locs hW => ?_)
    refine x_aload_n hx dX1_addWrong_19 hl 0 rfl ?_
    refine x_get1 hx hW.1 0 rfl 3 (Nat.le_of_ble_eq_true rfl) wf_RX1_22 rfl dX1_addWrong_20 ?_
    refine x_aload_n hx dX1_addWrong_23 hl 0 rfl ?_
    refine x_get1 hx hW.1 0 rfl 0 (Nat.le_of_ble_eq_true rfl) wf_RX1_9 rfl dX1_addWrong_24 ?_
    refine x_iload_n hx dX1_addWrong_27 hl 2 rfl ?_
    have hj_28 : wn < 6 := by omega
    refine x_zast hx hW 2 rfl hj_28 (by decide) (upd_bA _ _ _) dX1_addWrong_28 [(no, .inr (1, [.int (nI wn), .int (nI bn), .ref nwd, .ref nws, .ref nbk])), (nwd, .inl (D.2.1, 6, .inl (nA (va_up WD wn d)))), (nws, .inl (D.2.2.1, 6, .inl (bA (va_up WS wn b))))] rfl (fun H locs hW => ?_)
    refine x_aload_n hx dX1_addWrong_29 hl 0 rfl ?_
    refine x_dup hx dX1_addWrong_30 rfl ?_
    refine x_get1 hx hW.1 0 rfl 0 (Nat.le_of_ble_eq_true rfl) wf_RX1_9 rfl dX1_addWrong_31 ?_
    refine x_iconst (v := nI 1) hx dX1_addWrong_34 (by decide) ?_
    refine x_iadd (v := nI (wn + 1)) hx dX1_addWrong_35 (nI_add _ _) ?_
    refine x_put1 hx hW 0 rfl 0 (Nat.le_of_ble_eq_true rfl) wf_RX1_9 rfl rfl rfl (Nat.le_of_ble_eq_true rfl) dX1_addWrong_36 [(no, .inr (1, [.int (nI (wn + 1)), .int (nI bn), .ref nwd, .ref nws, .ref nbk])), (nwd, .inl (D.2.1, 6, .inl (nA (va_up WD wn d)))), (nws, .inl (D.2.2.1, 6, .inl (bA (va_up WS wn b))))] rfl (fun H locs hW => ?_)
    exact hret _ _ _ _ dX1_addWrong_39 hW
set_option maxHeartbeats 4000000 in
set_option maxRecDepth 100000 in
theorem c_X1_addEntry (l : Launch) (D : KD) (no : Nat) (wn : Nat) (bn : Nat) (nwd : Nat) (nws : Nat) (nbk : Nat) (BK : Nat → Nat) (d : Nat) (hw : bn < 15) : cV l yX1_addEntry cX1_addEntry 2 rm_X1_addEntry D [(no, .inr (1, [.int (nI wn), .int (nI bn), .ref nwd, .ref nws, .ref nbk])), (nbk, .inl (D.2.1, 15, .inl (nA BK)))] [.ref no, .int (nI d)] [(no, .inr (1, [.int (nI wn), .int (nI (bn + 1)), .ref nwd, .ref nws, .ref nbk])), (nbk, .inl (D.2.1, 15, .inl (nA (va_up BK bn d))))] := by
  refine cV.mk (by decide) (Nat.le_of_ble_eq_true rfl) ?_
  intro X A hx hL hA hW hret ls hl
  subst hL
  have hl : lv_has ls 2 [(0, .ref no), (1, .int (nI d))] := hl
  refine x_aload_n hx dX1_addEntry_0 hl 0 rfl ?_
  refine x_get1 hx hW.1 0 rfl 1 (Nat.le_of_ble_eq_true rfl) wf_RX1_15 rfl dX1_addEntry_1 ?_
  refine x_bipush (v := nI 15) hx dX1_addEntry_4 (by decide) ?_
  refine x_icmp_ge_N (a := bn) (b := 15) (tgt := 29) hx dX1_addEntry_6 (by decide) (by omega) (by omega) (fun h_1 => ?_) (fun h_1 => ?_)
  · omega
  · refine x_aload_n hx dX1_addEntry_9 hl 0 rfl ?_
    refine x_get1 hx hW.1 0 rfl 4 (Nat.le_of_ble_eq_true rfl) wf_RX1_26 rfl dX1_addEntry_10 ?_
    refine x_aload_n hx dX1_addEntry_13 hl 0 rfl ?_
    refine x_get1 hx hW.1 0 rfl 1 (Nat.le_of_ble_eq_true rfl) wf_RX1_15 rfl dX1_addEntry_14 ?_
    refine x_iload_n hx dX1_addEntry_17 hl 1 rfl ?_
    have hj_18 : bn < 15 := by omega
    refine x_iast hx hW 1 rfl hj_18 (by decide) (upd_nA _ _ _) dX1_addEntry_18 [(no, .inr (1, [.int (nI wn), .int (nI bn), .ref nwd, .ref nws, .ref nbk])), (nbk, .inl (D.2.1, 15, .inl (nA (va_up BK bn d))))] rfl (fun H locs hW => ?_)
    refine x_aload_n hx dX1_addEntry_19 hl 0 rfl ?_
    refine x_dup hx dX1_addEntry_20 rfl ?_
    refine x_get1 hx hW.1 0 rfl 1 (Nat.le_of_ble_eq_true rfl) wf_RX1_15 rfl dX1_addEntry_21 ?_
    refine x_iconst (v := nI 1) hx dX1_addEntry_24 (by decide) ?_
    refine x_iadd (v := nI (bn + 1)) hx dX1_addEntry_25 (nI_add _ _) ?_
    refine x_put1 hx hW 0 rfl 1 (Nat.le_of_ble_eq_true rfl) wf_RX1_15 rfl rfl rfl (Nat.le_of_ble_eq_true rfl) dX1_addEntry_26 [(no, .inr (1, [.int (nI wn), .int (nI (bn + 1)), .ref nwd, .ref nws, .ref nbk])), (nbk, .inl (D.2.1, 15, .inl (nA (va_up BK bn d))))] rfl (fun H locs hW => ?_)
    exact hret _ _ _ _ dX1_addEntry_29 hW
/-- the first of n entries that isn't v; -1 -/
def firstNot (BK : Nat → Nat) (v : Nat) : Nat → Nat → Int
  | _, 0 => -1
  | i, n + 1 => if BK i = v then firstNot BK v (i + 1) n else (i : Int)
theorem firstNot_y {BK : Nat → Nat} {v i n : Nat} (h : i < n) (e : BK i = v) : firstNot BK v i (n - i) = firstNot BK v (i + 1) (n - (i + 1)) := by
  have e9 : n - i = (n - (i + 1)) + 1 := by omega
  rw [e9, firstNot, if_pos e]
theorem firstNot_n {BK : Nat → Nat} {v i n : Nat} (h : i < n) (e : ¬ BK i = v) : firstNot BK v i (n - i) = (i : Int) := by
  have e9 : n - i = (n - (i + 1)) + 1 := by omega
  rw [e9, firstNot, if_neg e]
theorem firstNot_e {BK : Nat → Nat} {v i n : Nat} (h : n ≤ i) : firstNot BK v i (n - i) = -1 := by
  have e9 : n - i = 0 := by omega
  rw [e9, firstNot]
set_option maxHeartbeats 4000000 in
set_option maxRecDepth 100000 in
theorem c_X1_firstEntryNot (l : Launch) (D : KD) (no : Nat) (wn : Nat) (bn : Nat) (nwd : Nat) (nws : Nat) (nbk : Nat) (BK : Nat → Nat) (v : Nat) (hBK : ∀ k, k < 15 → BK k < 101) (hw : bn ≤ 15) (hv : v < 1000) : cR l yX1_firstEntryNot cX1_firstEntryNot 3 (some .int) rm_X1_firstEntryNot D [(no, .inr (1, [.int (nI wn), .int (nI bn), .ref nwd, .ref nws, .ref nbk])), (nbk, .inl (D.2.1, 15, .inl (nA BK)))] [.ref no, .int (nI v)] (iI (firstNot BK v 0 bn)) := by
  refine cR.mk (by decide) (retI _) (Nat.le_of_ble_eq_true rfl) ?_
  intro X hx hL hP hret ls hl
  subst hL
  have hl : lv_has ls 3 [(0, .ref no), (1, .int (nI v))] := hl
  refine x_iconst (v := nI 0) hx dX1_firstEntryNot_0 (by decide) ?_
  refine x_istore_n (lv' := [(2, .int (nI 0)), (0, .ref no), (1, .int (nI v))]) hx dX1_firstEntryNot_1 hl (Nat.le_of_ble_eq_true rfl) rfl (fun ls hl => ?_)
  have L2_1 : ∀ (L2_1n : Nat) (i : Nat), (i ≤ bn) → (firstNot BK v 0 bn = firstNot BK v i (bn - i)) → bn - i < L2_1n → ∀ ls : Array Slot, lv_has ls 3 [(0, .ref no), (1, .int (nI v)), (2, .int (nI i))] → Wx X 0 0 (cxS X).heap [] 2 ls [] := by
    intro L2_1n
    induction L2_1n with
    | zero =>
      intro i h1 h2 hm
      exact absurd hm (Nat.not_lt_zero _)
    | succ L2_1n ihL2_1 =>
      intro i h1 h2 hm ls hl
      refine x_iload_n hx dX1_firstEntryNot_2 hl 2 rfl ?_
      refine x_aload_n hx dX1_firstEntryNot_3 hl 0 rfl ?_
      refine x_get1 hx hP 0 rfl 1 (Nat.le_of_ble_eq_true rfl) wf_RX1_15 rfl dX1_firstEntryNot_4 ?_
      refine x_icmp_ge_N (a := i) (b := bn) (tgt := 28) hx dX1_firstEntryNot_7 (by decide) (by omega) (by omega) (fun h_2 => ?_) (fun h_2 => ?_)
      · refine x_iconst (v := iI (-1)) hx dX1_firstEntryNot_28 (by decide) ?_
        exact hret _ _ _ dX1_firstEntryNot_29 (by rw [h2, firstNot_e (by omega)])
      · refine x_aload_n hx dX1_firstEntryNot_10 hl 0 rfl ?_
        refine x_get1 hx hP 0 rfl 4 (Nat.le_of_ble_eq_true rfl) wf_RX1_26 rfl dX1_firstEntryNot_11 ?_
        refine x_iload_n hx dX1_firstEntryNot_14 hl 2 rfl ?_
        have hj_15 : i < 15 := by omega
        refine x_iald (v := nI (BK i)) hx hP 1 rfl hj_15 (by decide) rfl dX1_firstEntryNot_15 ?_
        have b_3 := hBK i hj_15
        refine x_iload_n hx dX1_firstEntryNot_16 hl 1 rfl ?_
        refine x_icmp_eq_N (a := (BK i)) (b := v) (tgt := 22) hx dX1_firstEntryNot_17 (by decide) (by omega) (by omega) (fun h_4 => ?_) (fun h_4 => ?_)
        · refine x_iinc (v := nI (i + 1)) (lv' := [(2, .int (nI (i + 1))), (0, .ref no), (1, .int (nI v))]) hx dX1_firstEntryNot_22 hl 2 rfl (nI_addc i 1) (Nat.le_of_ble_eq_true rfl) rfl (fun ls hl => ?_)
          refine x_goto (tgt := 2) hx dX1_firstEntryNot_25 (by decide) ?_
          have e_5 : (i + 1 : Nat) = (i + 1) := by
            first | rfl | omega | (simp [*]; done) | (simp [*]; omega)
          exact ihL2_1 (i + 1) (by first | assumption | omega | (simp [*]; done)) (by first | rfl | exact h2.trans (firstNot_y (by omega) (by assumption))) (by omega) _ (lv_to (l := [(0, .ref no), (1, .int (nI v)), (2, .int (nI (i + 1)))]) (l2 := [(0, .ref no), (1, .int (nI v)), (2, .int (nI (i + 1)))]) (lv_sub hl [1, 2, 0] rfl) (cE rfl (cE rfl (cE (congrArg (fun z => ((2, Value.int z) : Nat × Value)) (congrArg (fun z : Nat => nI z) e_5)) rfl))))
        · refine x_iload_n hx dX1_firstEntryNot_20 hl 2 rfl ?_
          exact hret _ _ _ dX1_firstEntryNot_21 (by rw [h2, firstNot_n (by omega) (by assumption)]; rfl)
  exact L2_1 (bn - 0 + 1) 0 (by first | assumption | omega | (simp [*]; done)) (by first | rfl | exact h2.trans (firstNot_y (by omega) (by assumption))) (Nat.lt_succ_self _) _ (lv_sub hl [1, 2, 0] rfl)
