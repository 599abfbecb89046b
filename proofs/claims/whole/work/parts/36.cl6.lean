def fn_J0_coder_7d493_L14 (c0 : Nat) (s0 : Int32) : Option Int32 := (if s0 = 0 ∨ s0 = 1 then some s0 else none)
def fn_J0_coder_7d493 (c0 : Nat) : Option Int32 := (if nI 1 = 0 then ((fn_J0_coder_7d493_L14 c0) (nI 1)) else ((fn_J0_coder_7d493_L14 c0) (nI 0)))
def fn_J0_isLatin1_aae02_L18 (c0 : Nat) (s0 : Int32) : Option Int32 := (if s0 = 0 ∨ s0 = 1 then some s0 else none)
def fn_J0_isLatin1_aae02_L17 (c0 : Nat)  : Option Int32 := ((fn_J0_isLatin1_aae02_L18 c0) (nI 0))
def fn_J0_isLatin1_aae02 (c0 : Nat) : Option Int32 := (if nI 1 = 0 then ((fn_J0_isLatin1_aae02_L17 c0) ) else (if nI 0 = 0 then ((fn_J0_isLatin1_aae02_L18 c0) (nI 1)) else ((fn_J0_isLatin1_aae02_L17 c0) )))
def fn_J0_length_8abf5 (c0 : Nat) : Option Int32 := (o1 (fn_J0_coder_7d493 c0 ) (fun y6 => some ((nI (lenS.getD c0 0) >>> (y6 &&& 31)))))
def fn_J3_checkIndex_8e157_L9 (z0 : Int32) (z1 : Int32)  : Option Int32 := none
def fn_J3_checkIndex_8e157 (z0 : Int32) (z1 : Int32) : Option Int32 := (if z0 < 0 then ((fn_J3_checkIndex_8e157_L9 z0 z1) ) else (if z0 < z1 then some z0 else ((fn_J3_checkIndex_8e157_L9 z0 z1) )))
def fn_J0_checkIndex_df160 (z0 : Int32) (z1 : Int32) : Option Unit := (o1 (fn_J3_checkIndex_8e157 z0 z1) (fun y5 => some ()))
def fn_J1_charAt_3b067 (c0 : Nat) (z1 : Int32) : Option Int32 := (o1 (fn_J0_checkIndex_df160 z1 (nI (lenS.getD c0 0))) (fun y3 => (if ¬ (z1 < 0 ∨ lenS.getD c0 0 ≤ z1.toNatClampNeg) then some ((Int32.toUInt32 ((((bytS.getD c0 []).getD z1.toNatClampNeg 0) &&& nI 255)) % 65536).toInt32) else none)))
def fn_J0_charAt_5068e (c0 : Nat) (z1 : Int32) : Option Int32 := (o1 (fn_J0_isLatin1_aae02 c0 ) (fun y1 => (if y1 = 0 then none else (o1 (fn_J1_charAt_3b067 c0 z1) (fun y12 => (if (Int32.toUInt32 (y12) % 65536).toInt32 = y12 then some y12 else none))))))
def fn_J1_canEncode_9a6ad_L16 (z0 : Int32) (s0 : Int32) : Option Int32 := (if s0 = 0 ∨ s0 = 1 then some s0 else none)
def fn_J1_canEncode_9a6ad_L15 (z0 : Int32)  : Option Int32 := ((fn_J1_canEncode_9a6ad_L16 z0) (nI 0))
def fn_J1_canEncode_9a6ad (z0 : Int32) : Option Int32 := (if z0 < 0 then ((fn_J1_canEncode_9a6ad_L15 z0) ) else (if nI 255 < z0 then ((fn_J1_canEncode_9a6ad_L15 z0) ) else ((fn_J1_canEncode_9a6ad_L16 z0) (nI 1))))
def fn_J1_indexOfChar_4cfef_L31 (c0 : Nat) (z1 : Int32) (z2 : Int32) (z3 : Int32)  : Option Int32 := some ((-1))
def fn_J1_indexOfChar_4cfef_L7 (c0 : Nat) (z1 : Int32) (z2 : Int32) (z3 : Int32) (k31 : Option Int32) : Nat → Int32 → Option Int32
  | 0 => fun _ => none
  | fuel + 1 => fun (v5 : Int32) => (if z3 ≤ v5 then (k31 ) else (if ¬ (v5 < 0 ∨ lenS.getD c0 0 ≤ v5.toNatClampNeg) then (if ((bytS.getD c0 []).getD v5.toNatClampNeg 0) = (Int32.toInt8 (z1)).toInt32 then some v5 else ((fn_J1_indexOfChar_4cfef_L7 c0 z1 z2 z3 k31 fuel) ((v5 + nI 1)))) else none))
def fn_J1_indexOfChar_4cfef (c0 : Nat) (z1 : Int32) (z2 : Int32) (z3 : Int32) : Option Int32 := ((fn_J1_indexOfChar_4cfef_L7 c0 z1 z2 z3 (fn_J1_indexOfChar_4cfef_L31 c0 z1 z2 z3) 4000) z2)
def fn_J1_indexOf_4cfef (c0 : Nat) (z1 : Int32) (z2 : Int32) (z3 : Int32) : Option Int32 := (o1 (fn_J1_canEncode_9a6ad z1) (fun y1 => (if y1 = 0 then some ((-1)) else (if (mxI z2 (nI 0)) < (mnI z3 (nI (lenS.getD c0 0))) then (o1 (fn_J1_indexOfChar_4cfef c0 z1 ((mxI z2 (nI 0))) ((mnI z3 (nI (lenS.getD c0 0))))) (fun y33 => some y33)) else some ((-1))))))
def fn_J0_indexOf_7cf53_L36 (c0 : Nat) (z1 : Int32) (z2 : Int32) (s0 : Int32) : Option Int32 := some s0
def fn_J0_indexOf_7cf53 (c0 : Nat) (z1 : Int32) (z2 : Int32) : Option Int32 := (o1 (fn_J0_isLatin1_aae02 c0 ) (fun y1 => (if y1 = 0 then (o1 (fn_J0_length_8abf5 c0 ) (fun y30 => none)) else (o1 (fn_J0_length_8abf5 c0 ) (fun y14 => (o1 (fn_J1_indexOf_4cfef c0 z1 z2 y14) (fun y17 => ((fn_J0_indexOf_7cf53_L36 c0 z1 z2) y17))))))))
def fn_J0_indexOf_0f7a4 (c0 : Nat) (z1 : Int32) : Option Int32 := (o1 (fn_J0_indexOf_7cf53 c0 z1 (nI 0)) (fun y3 => some y3))
theorem kJ0_coder_7d493 : mKV RJ0 yJ0_coder_7d493 cJ0_coder_7d493 1 (some .byte) 0 := ⟨tIns_J0_coder_7d493, tSel_J0_coder_7d493, tIni_J0, tCod_J0_coder_7d493, by decide +kernel⟩
set_option maxHeartbeats 4000000 in
set_option maxRecDepth 100000 in
theorem ct_J0_coder_7d493 (l : Launch) (D : va_G) (cy : Nat → ClassId) (Z : (Nat → Prop) → State → Heap → Prop) (hzo : zOK Z) {aStr aByt : Nat → Nat} (hzs : zSt Z aStr aByt) (w : va_W) (c0 : Nat) (hc0 : c0 < 6) (res : Int32) (h : fn_J0_coder_7d493 c0 = some res) : GD l D cy Z yJ0_coder_7d493 (zW yJ0_coder_7d493 cJ0_coder_7d493 1 (some .byte)) { frames := 0, cells := 0, slots := 0, locals := 0 } [.ref (aStr (c0))] w (some (.int res)) w 0 0 := by
  refine g_entry (cc := cJ0_coder_7d493) (maxL := 1) (by decide) rfl (Nat.le_of_ble_eq_true rfl) ?_
  intro κ hN hX hR
  have hX : GX κ cy Z cJ0_coder_7d493 (Cond.code yJ0_coder_7d493 cJ0_coder_7d493 1 (some .byte) :: zT) RJ0 { frames := 0, cells := 0, slots := 0, locals := 0 } := hX
  have hStr := zt_str hX hzs
  have J14 : ∀ (s0 : Int32) , fn_J0_coder_7d493_L14 c0 s0 = some res → GW κ 0 0 w 14 [] [.int (s0)] := by
    intro s0 h
    obtain ⟨g1, h⟩ := gd_some h
    exact g_retn hR (nar_y g1) (oi_0 h) rfl dJ0_coder_7d493_14
  show GW κ 0 0 w 0 [(0, .ref (aStr (c0)))] []
  refine g_scs hX hStr (zu tFld_J0_38 rfl) dJ0_coder_7d493_0 ?_
  refine g_if_eq hX 13 (by decide) dJ0_coder_7d493_3 (fun b3 => ?_) (fun b3 => ?_)
  · replace h := if_p b3 h
    refine g_iconst hX (v := nI 1) rfl dJ0_coder_7d493_13 ?_
    refine g_lv [] rfl ?_
    exact J14 (nI 1)  h
  · replace h := if_n b3 h
    refine g_aload_n hX 0 rfl rfl dJ0_coder_7d493_6 ?_
    refine g_scod hX hStr hc0 (zu tFld_J0_15 rfl) dJ0_coder_7d493_7 ?_
    refine g_goto hX 14 (by decide) dJ0_coder_7d493_10 ?_
    refine g_lv [] rfl ?_
    exact J14 (nI 0)  h
theorem kJ0_isLatin1_aae02 : mKV RJ0 yJ0_isLatin1_aae02 cJ0_isLatin1_aae02 1 (some .boolean) 0 := ⟨tIns_J0_isLatin1_aae02, tSel_J0_isLatin1_aae02, tIni_J0, tCod_J0_isLatin1_aae02, by decide +kernel⟩
set_option maxHeartbeats 4000000 in
set_option maxRecDepth 100000 in
theorem ct_J0_isLatin1_aae02 (l : Launch) (D : va_G) (cy : Nat → ClassId) (Z : (Nat → Prop) → State → Heap → Prop) (hzo : zOK Z) {aStr aByt : Nat → Nat} (hzs : zSt Z aStr aByt) (w : va_W) (c0 : Nat) (hc0 : c0 < 6) (res : Int32) (h : fn_J0_isLatin1_aae02 c0 = some res) : GD l D cy Z yJ0_isLatin1_aae02 (zW yJ0_isLatin1_aae02 cJ0_isLatin1_aae02 1 (some .boolean)) { frames := 0, cells := 0, slots := 0, locals := 0 } [.ref (aStr (c0))] w (some (.int res)) w 0 0 := by
  refine g_entry (cc := cJ0_isLatin1_aae02) (maxL := 1) (by decide) rfl (Nat.le_of_ble_eq_true rfl) ?_
  intro κ hN hX hR
  have hX : GX κ cy Z cJ0_isLatin1_aae02 (Cond.code yJ0_isLatin1_aae02 cJ0_isLatin1_aae02 1 (some .boolean) :: zT) RJ0 { frames := 0, cells := 0, slots := 0, locals := 0 } := hX
  have hStr := zt_str hX hzs
  have J18 : ∀ (s0 : Int32) , fn_J0_isLatin1_aae02_L18 c0 s0 = some res → GW κ 0 0 w 18 [] [.int (s0)] := by
    intro s0 h
    obtain ⟨g1, h⟩ := gd_some h
    exact g_retbD hR g1 (oi_0 h) rfl dJ0_isLatin1_aae02_18
  have J17 : fn_J0_isLatin1_aae02_L17 c0  = some res → GW κ 0 0 w 17 [] [] := by
    intro h
    refine g_iconst hX (v := nI 0) rfl dJ0_isLatin1_aae02_17 ?_
    exact J18 (nI 0)  h
  show GW κ 0 0 w 0 [(0, .ref (aStr (c0)))] []
  refine g_scs hX hStr (zu tFld_J0_38 rfl) dJ0_isLatin1_aae02_0 ?_
  refine g_if_eq hX 17 (by decide) dJ0_isLatin1_aae02_3 (fun b3 => ?_) (fun b3 => ?_)
  · replace h := if_p b3 h
    refine g_lv [] rfl ?_
    exact J17   h
  · replace h := if_n b3 h
    refine g_aload_n hX 0 rfl rfl dJ0_isLatin1_aae02_6 ?_
    refine g_scod hX hStr hc0 (zu tFld_J0_15 rfl) dJ0_isLatin1_aae02_7 ?_
    refine g_if_ne hX 17 (by decide) dJ0_isLatin1_aae02_10 (fun b10 => ?_) (fun b10 => ?_)
    · replace h := if_n b10 h
      refine g_lv [] rfl ?_
      exact J17   h
    · replace h := if_p b10 h
      refine g_iconst hX (v := nI 1) rfl dJ0_isLatin1_aae02_13 ?_
      refine g_goto hX 18 (by decide) dJ0_isLatin1_aae02_14 ?_
      refine g_lv [] rfl ?_
      exact J18 (nI 1)  h
theorem kJ0_length_8abf5 : mKV RJ0 yJ0_length_8abf5 cJ0_length_8abf5 1 (some .int) 0 := ⟨tIns_J0_length_8abf5, tSel_J0_length_8abf5, tIni_J0, tCod_J0_length_8abf5, by decide +kernel⟩
set_option maxHeartbeats 4000000 in
set_option maxRecDepth 100000 in
theorem ct_J0_length_8abf5 (l : Launch) (D : va_G) (cy : Nat → ClassId) (Z : (Nat → Prop) → State → Heap → Prop) (hzo : zOK Z) {aStr aByt : Nat → Nat} (hzs : zSt Z aStr aByt) (w : va_W) (c0 : Nat) (hc0 : c0 < 6) (res : Int32) (h : fn_J0_length_8abf5 c0 = some res) : GD l D cy Z yJ0_length_8abf5 (zW yJ0_length_8abf5 cJ0_length_8abf5 1 (some .int)) { frames := 1, cells := 0, slots := 0, locals := 20 } [.ref (aStr (c0))] w (some (.int res)) w 0 0 := by
  refine g_entry (cc := cJ0_length_8abf5) (maxL := 1) (by decide) rfl (Nat.le_of_ble_eq_true rfl) ?_
  intro κ hN hX hR
  have hX : GX κ cy Z cJ0_length_8abf5 (Cond.code yJ0_length_8abf5 cJ0_length_8abf5 1 (some .int) :: zT) RJ0 { frames := 1, cells := 0, slots := 0, locals := 20 } := hX
  have hStr := zt_str hX hzs
  show GW κ 0 0 w 0 [(0, .ref (aStr (c0)))] []
  refine g_aload_n hX 0 rfl rfl dJ0_length_8abf5_0 ?_
  refine g_sval hX hStr hc0 (zu tFld_J0_9 rfl) dJ0_length_8abf5_1 ?_
  refine g_slen hX hStr hc0 dJ0_length_8abf5_4 ?_
  refine g_aload_n hX 0 rfl rfl dJ0_length_8abf5_5 ?_
  obtain ⟨y6, e6, h⟩ := o1_some h
  refine s_callT hX hzo hStr hc0 [] [.int (nI (lenS.getD c0 0))] (ct_J0_coder_7d493 _ _ _ _ hzo hzs _ c0 hc0  _ e6) kJ0_coder_7d493 tMet_J0_335 rfl rfl (Nat.le_of_ble_eq_true rfl) (Nat.le_of_ble_eq_true rfl) ⟨Nat.le_of_ble_eq_true rfl, Nat.le_of_ble_eq_true rfl⟩ rfl rfl (Nat.le_of_ble_eq_true rfl) dJ0_length_8abf5_6 ?_
  refine g_ishr hX dJ0_length_8abf5_9 ?_
  exact g_reti hR (oi_0 h) rfl dJ0_length_8abf5_10
theorem kJ3_checkIndex_8e157 : mKS yJ3_checkIndex_8e157 cJ3_checkIndex_8e157 3 (some .int) 3 := ⟨tSta_J3_checkIndex_8e157, tIni_J3, tCod_J3_checkIndex_8e157, by decide +kernel⟩
set_option maxHeartbeats 4000000 in
set_option maxRecDepth 100000 in
theorem ct_J3_checkIndex_8e157 (l : Launch) (D : va_G) (cy : Nat → ClassId) (Z : (Nat → Prop) → State → Heap → Prop) (hzo : zOK Z) {aStr aByt : Nat → Nat} (hzs : zSt Z aStr aByt) (w : va_W) (z0 : Int32) (z1 : Int32) (o2 : Option Nat) (res : Int32) (h : fn_J3_checkIndex_8e157 z0 z1 = some res) : GD l D cy Z yJ3_checkIndex_8e157 (zW yJ3_checkIndex_8e157 cJ3_checkIndex_8e157 3 (some .int)) { frames := 0, cells := 0, slots := 0, locals := 0 } [.int (z0), .int (z1), va_rf (o2)] w (some (.int res)) w 0 0 := by
  refine g_entry (cc := cJ3_checkIndex_8e157) (maxL := 3) (by decide) rfl (by cases o2 <;> exact Nat.le_of_ble_eq_true rfl) ?_
  intro κ hN hX hR
  have hX : GX κ cy Z cJ3_checkIndex_8e157 (Cond.code yJ3_checkIndex_8e157 cJ3_checkIndex_8e157 3 (some .int) :: zT) RJ3 { frames := 0, cells := 0, slots := 0, locals := 0 } := hX
  have J9 : fn_J3_checkIndex_8e157_L9 z0 z1  = some res → GW κ 0 0 w 9 [(0, .int (z0)), (1, .int (z1)), (2, va_rf (o2))] [] := by
    intro h
    refine g_aload_nQ hX 2 rfl rfl dJ3_checkIndex_8e157_9 ?_
    refine g_iload_n hX 0 rfl rfl dJ3_checkIndex_8e157_10 ?_
    refine g_iload_n hX 1 rfl rfl dJ3_checkIndex_8e157_11 ?_
    cases h
  rw [show lv_args 0 [.int (z0), .int (z1), va_rf (o2)] = [(0, .int (z0)), (1, .int (z1)), (2, va_rf (o2))] from by cases o2 <;> rfl]
  show GW κ 0 0 w 0 [(0, .int (z0)), (1, .int (z1)), (2, va_rf (o2))] []
  refine g_iload_n hX 0 rfl rfl dJ3_checkIndex_8e157_0 ?_
  refine g_if_lt hX 9 (by decide) dJ3_checkIndex_8e157_1 (fun b1 => ?_) (fun b1 => ?_)
  · replace h := if_p b1 h
    exact J9   h
  · replace h := if_n b1 h
    refine g_iload_n hX 0 rfl rfl dJ3_checkIndex_8e157_4 ?_
    refine g_iload_n hX 1 rfl rfl dJ3_checkIndex_8e157_5 ?_
    refine g_icmp_lt hX 16 (by decide) dJ3_checkIndex_8e157_6 (fun b6 => ?_) (fun b6 => ?_)
    · replace h := if_p b6 h
      refine g_iload_n hX 0 rfl rfl dJ3_checkIndex_8e157_16 ?_
      exact g_reti hR (oi_0 h) rfl dJ3_checkIndex_8e157_17
    · replace h := if_n b6 h
      exact J9   h
theorem kJ0_checkIndex_df160 : mKS yJ0_checkIndex_df160 cJ0_checkIndex_df160 2 none 2 := ⟨tSta_J0_checkIndex_df160, tIni_J0, tCod_J0_checkIndex_df160, by decide +kernel⟩
set_option maxHeartbeats 4000000 in
set_option maxRecDepth 100000 in
theorem ct_J0_checkIndex_df160 (l : Launch) (D : va_G) (cy : Nat → ClassId) (Z : (Nat → Prop) → State → Heap → Prop) (hzo : zOK Z) {aStr aByt : Nat → Nat} (hzs : zSt Z aStr aByt) (w : va_W) (z0 : Int32) (z1 : Int32) (res : Unit) (h : fn_J0_checkIndex_df160 z0 z1 = some res) : GD l D cy Z yJ0_checkIndex_df160 (zW yJ0_checkIndex_df160 cJ0_checkIndex_df160 2 none) { frames := 1, cells := 0, slots := 0, locals := 22 } [.int (z0), .int (z1)] w none w 0 0 := by
  refine g_entry (cc := cJ0_checkIndex_df160) (maxL := 2) (by decide) rfl (Nat.le_of_ble_eq_true rfl) ?_
  intro κ hN hX hR
  have hX : GX κ cy Z cJ0_checkIndex_df160 (Cond.code yJ0_checkIndex_df160 cJ0_checkIndex_df160 2 none :: zT) RJ0 { frames := 1, cells := 0, slots := 0, locals := 22 } := hX
  have hStr := zt_str hX hzs
  show GW κ 0 0 w 0 [(0, .int (z0)), (1, .int (z1))] []
  refine g_iload_n hX 0 rfl rfl dJ0_checkIndex_df160_0 ?_
  refine g_iload_n hX 1 rfl rfl dJ0_checkIndex_df160_1 ?_
  refine g_sio hX hStr (zu tFld_J0_1053 rfl) dJ0_checkIndex_df160_2 (fun o2 => ?_)
  obtain ⟨y5, e5, h⟩ := o1_some h
  refine s_call hX hzo [.int (z0), .int (z1), va_rf (o2)] [] (ct_J3_checkIndex_8e157 _ _ _ _ hzo hzs _ z0 z1 o2 _ e5) kJ3_checkIndex_8e157 tMet_J0_1059 rfl rfl (Nat.le_of_ble_eq_true rfl) (Nat.le_of_ble_eq_true rfl) ⟨Nat.le_of_ble_eq_true rfl, Nat.le_of_ble_eq_true rfl⟩ rfl rfl (Nat.le_of_ble_eq_true rfl) dJ0_checkIndex_df160_5 ?_
  refine g_pop hX rfl dJ0_checkIndex_df160_8 ?_
  exact g_retv hR rfl dJ0_checkIndex_df160_9
theorem kJ1_charAt_3b067 : mKS yJ1_charAt_3b067 cJ1_charAt_3b067 2 (some .char) 2 := ⟨tSta_J1_charAt_3b067, tIni_J1, tCod_J1_charAt_3b067, by decide +kernel⟩
set_option maxHeartbeats 4000000 in
set_option maxRecDepth 100000 in
theorem ct_J1_charAt_3b067 (l : Launch) (D : va_G) (cy : Nat → ClassId) (Z : (Nat → Prop) → State → Heap → Prop) (hzo : zOK Z) {aStr aByt : Nat → Nat} (hzs : zSt Z aStr aByt) (w : va_W) (c0 : Nat) (hc0 : c0 < 6) (z1 : Int32) (res : Int32) (h : fn_J1_charAt_3b067 c0 z1 = some res) : GD l D cy Z yJ1_charAt_3b067 (zW yJ1_charAt_3b067 cJ1_charAt_3b067 2 (some .char)) { frames := 2, cells := 0, slots := 0, locals := 43 } [.ref (aByt (c0)), .int (z1)] w (some (.int res)) w 0 0 := by
  refine g_entry (cc := cJ1_charAt_3b067) (maxL := 2) (by decide) rfl (Nat.le_of_ble_eq_true rfl) ?_
  intro κ hN hX hR
  have hX : GX κ cy Z cJ1_charAt_3b067 (Cond.code yJ1_charAt_3b067 cJ1_charAt_3b067 2 (some .char) :: zT) RJ1 { frames := 2, cells := 0, slots := 0, locals := 43 } := hX
  have hStr := zt_str hX hzs
  show GW κ 0 0 w 0 [(0, .ref (aByt (c0))), (1, .int (z1))] []
  refine g_iload_n hX 1 rfl rfl dJ1_charAt_3b067_0 ?_
  refine g_aload_n hX 0 rfl rfl dJ1_charAt_3b067_1 ?_
  refine g_slen hX hStr hc0 dJ1_charAt_3b067_2 ?_
  obtain ⟨y3, e3, h⟩ := o1_some h
  refine s_call hX hzo [.int (z1), .int (nI (lenS.getD c0 0))] [] (ct_J0_checkIndex_df160 _ _ _ _ hzo hzs _ z1 (nI (lenS.getD c0 0)) _ e3) kJ0_checkIndex_df160 tMet_J1_9 rfl rfl (Nat.le_of_ble_eq_true rfl) (Nat.le_of_ble_eq_true rfl) ⟨Nat.le_of_ble_eq_true rfl, Nat.le_of_ble_eq_true rfl⟩ rfl rfl (Nat.le_of_ble_eq_true rfl) dJ1_charAt_3b067_3 ?_
  refine g_aload_n hX 0 rfl rfl dJ1_charAt_3b067_6 ?_
  refine g_iload_n hX 1 rfl rfl dJ1_charAt_3b067_7 ?_
  obtain ⟨g1, h⟩ := gd_some h
  refine g_sbal hX hStr hc0 g1 dJ1_charAt_3b067_8 ?_
  refine g_sipush hX (v := nI 255) (by decide) dJ1_charAt_3b067_9 ?_
  refine g_iand hX dJ1_charAt_3b067_12 ?_
  refine g_i2c hX dJ1_charAt_3b067_13 ?_
  exact g_retn hR (pk_nc _) (oi_0 h) rfl dJ1_charAt_3b067_14
theorem kJ0_charAt_5068e : mKV RJ0 yJ0_charAt_5068e cJ0_charAt_5068e 2 (some .char) 1 := ⟨tIns_J0_charAt_5068e, tSel_J0_charAt_5068e, tIni_J0, tCod_J0_charAt_5068e, by decide +kernel⟩
set_option maxHeartbeats 4000000 in
set_option maxRecDepth 100000 in
theorem ct_J0_charAt_5068e (l : Launch) (D : va_G) (cy : Nat → ClassId) (Z : (Nat → Prop) → State → Heap → Prop) (hzo : zOK Z) {aStr aByt : Nat → Nat} (hzs : zSt Z aStr aByt) (w : va_W) (c0 : Nat) (hc0 : c0 < 6) (z1 : Int32) (res : Int32) (h : fn_J0_charAt_5068e c0 z1 = some res) : GD l D cy Z yJ0_charAt_5068e (zW yJ0_charAt_5068e cJ0_charAt_5068e 2 (some .char)) { frames := 3, cells := 0, slots := 0, locals := 64 } [.ref (aStr (c0)), .int (z1)] w (some (.int res)) w 0 0 := by
  refine g_entry (cc := cJ0_charAt_5068e) (maxL := 2) (by decide) rfl (Nat.le_of_ble_eq_true rfl) ?_
  intro κ hN hX hR
  have hX : GX κ cy Z cJ0_charAt_5068e (Cond.code yJ0_charAt_5068e cJ0_charAt_5068e 2 (some .char) :: zT) RJ0 { frames := 3, cells := 0, slots := 0, locals := 64 } := hX
  have hStr := zt_str hX hzs
  show GW κ 0 0 w 0 [(0, .ref (aStr (c0))), (1, .int (z1))] []
  refine g_aload_n hX 0 rfl rfl dJ0_charAt_5068e_0 ?_
  obtain ⟨y1, e1, h⟩ := o1_some h
  refine s_callT hX hzo hStr hc0 [] [] (ct_J0_isLatin1_aae02 _ _ _ _ hzo hzs _ c0 hc0  _ e1) kJ0_isLatin1_aae02 tMet_J0_492 rfl rfl (Nat.le_of_ble_eq_true rfl) (Nat.le_of_ble_eq_true rfl) ⟨Nat.le_of_ble_eq_true rfl, Nat.le_of_ble_eq_true rfl⟩ rfl rfl (Nat.le_of_ble_eq_true rfl) dJ0_charAt_5068e_1 ?_
  refine g_if_eq hX 16 (by decide) dJ0_charAt_5068e_4 (fun b4 => ?_) (fun b4 => ?_)
  · replace h := if_p b4 h
    refine g_aload_n hX 0 rfl rfl dJ0_charAt_5068e_16 ?_
    refine g_sval hX hStr hc0 (zu tFld_J0_9 rfl) dJ0_charAt_5068e_17 ?_
    refine g_iload_n hX 1 rfl rfl dJ0_charAt_5068e_20 ?_
    cases h
  · replace h := if_n b4 h
    refine g_aload_n hX 0 rfl rfl dJ0_charAt_5068e_7 ?_
    refine g_sval hX hStr hc0 (zu tFld_J0_9 rfl) dJ0_charAt_5068e_8 ?_
    refine g_iload_n hX 1 rfl rfl dJ0_charAt_5068e_11 ?_
    obtain ⟨y12, e12, h⟩ := o1_some h
    refine s_call hX hzo [.ref (aByt (c0)), .int (z1)] [] (ct_J1_charAt_3b067 _ _ _ _ hzo hzs _ c0 hc0 z1 _ e12) kJ1_charAt_3b067 tMet_J0_495 rfl rfl (Nat.le_of_ble_eq_true rfl) (Nat.le_of_ble_eq_true rfl) ⟨Nat.le_of_ble_eq_true rfl, Nat.le_of_ble_eq_true rfl⟩ rfl rfl (Nat.le_of_ble_eq_true rfl) dJ0_charAt_5068e_12 ?_
    obtain ⟨g1, h⟩ := gd_some h
    exact g_retn hR (nar_c g1) (oi_0 h) rfl dJ0_charAt_5068e_15
theorem kJ1_canEncode_9a6ad : mKS yJ1_canEncode_9a6ad cJ1_canEncode_9a6ad 1 (some .boolean) 1 := ⟨tSta_J1_canEncode_9a6ad, tIni_J1, tCod_J1_canEncode_9a6ad, by decide +kernel⟩
set_option maxHeartbeats 4000000 in
set_option maxRecDepth 100000 in
theorem ct_J1_canEncode_9a6ad (l : Launch) (D : va_G) (cy : Nat → ClassId) (Z : (Nat → Prop) → State → Heap → Prop) (hzo : zOK Z) {aStr aByt : Nat → Nat} (hzs : zSt Z aStr aByt) (w : va_W) (z0 : Int32) (res : Int32) (h : fn_J1_canEncode_9a6ad z0 = some res) : GD l D cy Z yJ1_canEncode_9a6ad (zW yJ1_canEncode_9a6ad cJ1_canEncode_9a6ad 1 (some .boolean)) { frames := 0, cells := 0, slots := 0, locals := 0 } [.int (z0)] w (some (.int res)) w 0 0 := by
  refine g_entry (cc := cJ1_canEncode_9a6ad) (maxL := 1) (by decide) rfl (Nat.le_of_ble_eq_true rfl) ?_
  intro κ hN hX hR
  have hX : GX κ cy Z cJ1_canEncode_9a6ad (Cond.code yJ1_canEncode_9a6ad cJ1_canEncode_9a6ad 1 (some .boolean) :: zT) RJ1 { frames := 0, cells := 0, slots := 0, locals := 0 } := hX
  have J16 : ∀ (s0 : Int32) , fn_J1_canEncode_9a6ad_L16 z0 s0 = some res → GW κ 0 0 w 16 [] [.int (s0)] := by
    intro s0 h
    obtain ⟨g1, h⟩ := gd_some h
    exact g_retbD hR g1 (oi_0 h) rfl dJ1_canEncode_9a6ad_16
  have J15 : fn_J1_canEncode_9a6ad_L15 z0  = some res → GW κ 0 0 w 15 [] [] := by
    intro h
    refine g_iconst hX (v := nI 0) rfl dJ1_canEncode_9a6ad_15 ?_
    exact J16 (nI 0)  h
  show GW κ 0 0 w 0 [(0, .int (z0))] []
  refine g_iload_n hX 0 rfl rfl dJ1_canEncode_9a6ad_0 ?_
  refine g_if_lt hX 15 (by decide) dJ1_canEncode_9a6ad_1 (fun b1 => ?_) (fun b1 => ?_)
  · replace h := if_p b1 h
    refine g_lv [] rfl ?_
    exact J15   h
  · replace h := if_n b1 h
    refine g_iload_n hX 0 rfl rfl dJ1_canEncode_9a6ad_4 ?_
    refine g_sipush hX (v := nI 255) (by decide) dJ1_canEncode_9a6ad_5 ?_
    refine g_icmp_gt hX 15 (by decide) dJ1_canEncode_9a6ad_8 (fun b8 => ?_) (fun b8 => ?_)
    · replace h := if_p b8 h
      refine g_lv [] rfl ?_
      exact J15   h
    · replace h := if_n b8 h
      refine g_iconst hX (v := nI 1) rfl dJ1_canEncode_9a6ad_11 ?_
      refine g_goto hX 16 (by decide) dJ1_canEncode_9a6ad_12 ?_
      refine g_lv [] rfl ?_
      exact J16 (nI 1)  h
theorem kJ1_indexOfChar_4cfef : mKS yJ1_indexOfChar_4cfef cJ1_indexOfChar_4cfef 6 (some .int) 4 := ⟨tSta_J1_indexOfChar_4cfef, tIni_J1, tCod_J1_indexOfChar_4cfef, by decide +kernel⟩
set_option maxHeartbeats 4000000 in
set_option maxRecDepth 100000 in
theorem ct_J1_indexOfChar_4cfef (l : Launch) (D : va_G) (cy : Nat → ClassId) (Z : (Nat → Prop) → State → Heap → Prop) (hzo : zOK Z) {aStr aByt : Nat → Nat} (hzs : zSt Z aStr aByt) (w : va_W) (c0 : Nat) (hc0 : c0 < 6) (z1 : Int32) (z2 : Int32) (z3 : Int32) (res : Int32) (h : fn_J1_indexOfChar_4cfef c0 z1 z2 z3 = some res) : GD l D cy Z yJ1_indexOfChar_4cfef (zW yJ1_indexOfChar_4cfef cJ1_indexOfChar_4cfef 6 (some .int)) { frames := 0, cells := 0, slots := 0, locals := 0 } [.ref (aByt (c0)), .int (z1), .int (z2), .int (z3)] w (some (.int res)) w 0 0 := by
  refine g_entry (cc := cJ1_indexOfChar_4cfef) (maxL := 6) (by decide) rfl (Nat.le_of_ble_eq_true rfl) ?_
  intro κ hN hX hR
  have hX : GX κ cy Z cJ1_indexOfChar_4cfef (Cond.code yJ1_indexOfChar_4cfef cJ1_indexOfChar_4cfef 6 (some .int) :: zT) RJ1 { frames := 0, cells := 0, slots := 0, locals := 0 } := hX
  have hStr := zt_str hX hzs
  have J31 : fn_J1_indexOfChar_4cfef_L31 c0 z1 z2 z3  = some res → GW κ 0 0 w 31 [] [] := by
    intro h
    refine g_iconst hX (v := -1) (by decide) dJ1_indexOfChar_4cfef_31 ?_
    exact g_reti hR (oi_0 h) rfl dJ1_indexOfChar_4cfef_32
  have J7 : ∀ (k31 : Option Int32) (hk31 : k31  = some res → GW κ 0 0 w 31 [] []) (fuel : Nat), ∀ (v5 : Int32) , fn_J1_indexOfChar_4cfef_L7 c0 z1 z2 z3 k31 fuel v5 = some res → GW κ 0 0 w 7 [(0, .ref (aByt (c0))), (3, .int (z3)), (4, .int ((Int32.toInt8 (z1)).toInt32)), (5, .int (v5))] [] := by
    intro k31 hk31 fuel
    induction fuel with
    | zero => intro v5 h; cases (show none = some res from h)
    | succ fuel ih =>
      intro v5 h
      replace h : (if z3 ≤ v5 then (k31 ) else (if ¬ (v5 < 0 ∨ lenS.getD c0 0 ≤ v5.toNatClampNeg) then (if ((bytS.getD c0 []).getD v5.toNatClampNeg 0) = (Int32.toInt8 (z1)).toInt32 then some v5 else ((fn_J1_indexOfChar_4cfef_L7 c0 z1 z2 z3 k31 fuel) ((v5 + nI 1)))) else none)) = some res := h
      refine g_iload hX 3 rfl dJ1_indexOfChar_4cfef_7 ?_
      refine g_iload_n hX 1 rfl rfl dJ1_indexOfChar_4cfef_9 ?_
      refine g_icmp_ge hX 31 (by decide) dJ1_indexOfChar_4cfef_10 (fun b10 => ?_) (fun b10 => ?_)
      · replace h := if_p b10 h
        refine g_lv [] rfl ?_
        exact hk31   h
      · replace h := if_n b10 h
        refine g_aload_n hX 0 rfl rfl dJ1_indexOfChar_4cfef_13 ?_
        refine g_iload hX 3 rfl dJ1_indexOfChar_4cfef_14 ?_
        obtain ⟨g1, h⟩ := gd_some h
        refine g_sbal hX hStr hc0 g1 dJ1_indexOfChar_4cfef_16 ?_
        refine g_iload hX 2 rfl dJ1_indexOfChar_4cfef_17 ?_
        refine g_icmp_ne hX 25 (by decide) dJ1_indexOfChar_4cfef_19 (fun b19 => ?_) (fun b19 => ?_)
        · replace h := if_n b19 h
          refine g_iinc (v := (v5 + nI 1)) (lv2 := [(5, .int ((v5 + nI 1))), (0, .ref (aByt (c0))), (3, .int (z3)), (4, .int ((Int32.toInt8 (z1)).toInt32))]) hX 3 5 6 hN rfl rfl (by decide) rfl dJ1_indexOfChar_4cfef_25 ?_
          refine g_goto hX 7 (by decide) dJ1_indexOfChar_4cfef_28 ?_
          refine g_lv [1, 2, 3, 0] rfl ?_
          exact ih ((v5 + nI 1))  h
        · replace h := if_p b19 h
          refine g_iload hX 3 rfl dJ1_indexOfChar_4cfef_22 ?_
          exact g_reti hR (oi_0 h) rfl dJ1_indexOfChar_4cfef_24
  show GW κ 0 0 w 0 [(0, .ref (aByt (c0))), (1, .int (z1)), (2, .int (z2)), (3, .int (z3))] []
  refine g_iload_n hX 1 rfl rfl dJ1_indexOfChar_4cfef_0 ?_
  refine g_i2b hX dJ1_indexOfChar_4cfef_1 ?_
  refine g_istore (lv2 := [(4, .int ((Int32.toInt8 (z1)).toInt32)), (0, .ref (aByt (c0))), (1, .int (z1)), (2, .int (z2)), (3, .int (z3))]) hX 4 6 hN (by decide) rfl dJ1_indexOfChar_4cfef_2 ?_
  refine g_iload_n hX 3 rfl rfl dJ1_indexOfChar_4cfef_4 ?_
  refine g_istore (lv2 := [(5, .int (z2)), (4, .int ((Int32.toInt8 (z1)).toInt32)), (0, .ref (aByt (c0))), (1, .int (z1)), (2, .int (z2)), (3, .int (z3))]) hX 5 6 hN (by decide) rfl dJ1_indexOfChar_4cfef_5 ?_
  refine g_lv [2, 5, 1, 0] rfl ?_
  exact (J7 (fn_J1_indexOfChar_4cfef_L31 c0 z1 z2 z3) J31 4000) z2  h
theorem kJ1_indexOf_4cfef : mKS yJ1_indexOf_4cfef cJ1_indexOf_4cfef 4 (some .int) 4 := ⟨tSta_J1_indexOf_4cfef, tIni_J1, tCod_J1_indexOf_4cfef, by decide +kernel⟩
set_option maxHeartbeats 4000000 in
set_option maxRecDepth 100000 in
theorem ct_J1_indexOf_4cfef (l : Launch) (D : va_G) (cy : Nat → ClassId) (Z : (Nat → Prop) → State → Heap → Prop) (hzo : zOK Z) {aStr aByt : Nat → Nat} (hzs : zSt Z aStr aByt) (w : va_W) (c0 : Nat) (hc0 : c0 < 6) (z1 : Int32) (z2 : Int32) (z3 : Int32) (res : Int32) (h : fn_J1_indexOf_4cfef c0 z1 z2 z3 = some res) : GD l D cy Z yJ1_indexOf_4cfef (zW yJ1_indexOf_4cfef cJ1_indexOf_4cfef 4 (some .int)) { frames := 1, cells := 0, slots := 0, locals := 25 } [.ref (aByt (c0)), .int (z1), .int (z2), .int (z3)] w (some (.int res)) w 0 0 := by
  refine g_entry (cc := cJ1_indexOf_4cfef) (maxL := 4) (by decide) rfl (Nat.le_of_ble_eq_true rfl) ?_
  intro κ hN hX hR
  have hX : GX κ cy Z cJ1_indexOf_4cfef (Cond.code yJ1_indexOf_4cfef cJ1_indexOf_4cfef 4 (some .int) :: zT) RJ1 { frames := 1, cells := 0, slots := 0, locals := 25 } := hX
  have hStr := zt_str hX hzs
  show GW κ 0 0 w 0 [(0, .ref (aByt (c0))), (1, .int (z1)), (2, .int (z2)), (3, .int (z3))] []
  refine g_iload_n hX 1 rfl rfl dJ1_indexOf_4cfef_0 ?_
  obtain ⟨y1, e1, h⟩ := o1_some h
  refine s_call hX hzo [.int (z1)] [] (ct_J1_canEncode_9a6ad _ _ _ _ hzo hzs _ z1 _ e1) kJ1_canEncode_9a6ad tMet_J1_88 rfl rfl (Nat.le_of_ble_eq_true rfl) (Nat.le_of_ble_eq_true rfl) ⟨Nat.le_of_ble_eq_true rfl, Nat.le_of_ble_eq_true rfl⟩ rfl rfl (Nat.le_of_ble_eq_true rfl) dJ1_indexOf_4cfef_1 ?_
  refine g_if_ne hX 9 (by decide) dJ1_indexOf_4cfef_4 (fun b4 => ?_) (fun b4 => ?_)
  · replace h := if_n b4 h
    refine g_iload_n hX 2 rfl rfl dJ1_indexOf_4cfef_9 ?_
    refine g_iconst hX (v := nI 0) rfl dJ1_indexOf_4cfef_10 ?_
    refine g_mmax hX tMet_J1_92 (Nat.le_of_ble_eq_true rfl) (Nat.le_of_ble_eq_true rfl) (Nat.le_of_ble_eq_true rfl) (Nat.le_of_ble_eq_true rfl) (Nat.le_of_ble_eq_true rfl) dJ1_indexOf_4cfef_11 ?_
    refine g_istore_n (lv2 := [(2, .int ((mxI z2 (nI 0)))), (0, .ref (aByt (c0))), (1, .int (z1)), (3, .int (z3))]) hX 2 4 hN rfl (by decide) rfl dJ1_indexOf_4cfef_14 ?_
    refine g_iload_n hX 3 rfl rfl dJ1_indexOf_4cfef_15 ?_
    refine g_aload_n hX 1 rfl rfl dJ1_indexOf_4cfef_16 ?_
    refine g_slen hX hStr hc0 dJ1_indexOf_4cfef_17 ?_
    refine g_mmin hX tMet_J1_38 (Nat.le_of_ble_eq_true rfl) (Nat.le_of_ble_eq_true rfl) (Nat.le_of_ble_eq_true rfl) (Nat.le_of_ble_eq_true rfl) (Nat.le_of_ble_eq_true rfl) dJ1_indexOf_4cfef_18 ?_
    refine g_istore_n (lv2 := [(3, .int ((mnI z3 (nI (lenS.getD c0 0))))), (2, .int ((mxI z2 (nI 0)))), (0, .ref (aByt (c0))), (1, .int (z1))]) hX 3 4 hN rfl (by decide) rfl dJ1_indexOf_4cfef_21 ?_
    refine g_iload_n hX 1 rfl rfl dJ1_indexOf_4cfef_22 ?_
    refine g_iload_n hX 0 rfl rfl dJ1_indexOf_4cfef_23 ?_
    refine g_icmp_lt hX 29 (by decide) dJ1_indexOf_4cfef_24 (fun b24 => ?_) (fun b24 => ?_)
    · replace h := if_p b24 h
      refine g_aload_n hX 2 rfl rfl dJ1_indexOf_4cfef_29 ?_
      refine g_iload_n hX 3 rfl rfl dJ1_indexOf_4cfef_30 ?_
      refine g_iload_n hX 1 rfl rfl dJ1_indexOf_4cfef_31 ?_
      refine g_iload_n hX 0 rfl rfl dJ1_indexOf_4cfef_32 ?_
      obtain ⟨y33, e33, h⟩ := o1_some h
      refine s_call hX hzo [.ref (aByt (c0)), .int (z1), .int ((mxI z2 (nI 0))), .int ((mnI z3 (nI (lenS.getD c0 0))))] [] (ct_J1_indexOfChar_4cfef _ _ _ _ hzo hzs _ c0 hc0 z1 ((mxI z2 (nI 0))) ((mnI z3 (nI (lenS.getD c0 0)))) _ e33) kJ1_indexOfChar_4cfef tMet_J1_95 rfl rfl (Nat.le_of_ble_eq_true rfl) (Nat.le_of_ble_eq_true rfl) ⟨Nat.le_of_ble_eq_true rfl, Nat.le_of_ble_eq_true rfl⟩ rfl rfl (Nat.le_of_ble_eq_true rfl) dJ1_indexOf_4cfef_33 ?_
      exact g_reti hR (oi_0 h) rfl dJ1_indexOf_4cfef_36
    · replace h := if_n b24 h
      refine g_iconst hX (v := -1) (by decide) dJ1_indexOf_4cfef_27 ?_
      exact g_reti hR (oi_0 h) rfl dJ1_indexOf_4cfef_28
  · replace h := if_p b4 h
    refine g_iconst hX (v := -1) (by decide) dJ1_indexOf_4cfef_7 ?_
    exact g_reti hR (oi_0 h) rfl dJ1_indexOf_4cfef_8
theorem kJ0_indexOf_7cf53 : mKV RJ0 yJ0_indexOf_7cf53 cJ0_indexOf_7cf53 3 (some .int) 2 := ⟨tIns_J0_indexOf_7cf53, tSel_J0_indexOf_7cf53, tIni_J0, tCod_J0_indexOf_7cf53, by decide +kernel⟩
set_option maxHeartbeats 4000000 in
set_option maxRecDepth 100000 in
theorem ct_J0_indexOf_7cf53 (l : Launch) (D : va_G) (cy : Nat → ClassId) (Z : (Nat → Prop) → State → Heap → Prop) (hzo : zOK Z) {aStr aByt : Nat → Nat} (hzs : zSt Z aStr aByt) (w : va_W) (c0 : Nat) (hc0 : c0 < 6) (z1 : Int32) (z2 : Int32) (res : Int32) (h : fn_J0_indexOf_7cf53 c0 z1 z2 = some res) : GD l D cy Z yJ0_indexOf_7cf53 (zW yJ0_indexOf_7cf53 cJ0_indexOf_7cf53 3 (some .int)) { frames := 2, cells := 0, slots := 0, locals := 48 } [.ref (aStr (c0)), .int (z1), .int (z2)] w (some (.int res)) w 0 0 := by
  refine g_entry (cc := cJ0_indexOf_7cf53) (maxL := 3) (by decide) rfl (Nat.le_of_ble_eq_true rfl) ?_
  intro κ hN hX hR
  have hX : GX κ cy Z cJ0_indexOf_7cf53 (Cond.code yJ0_indexOf_7cf53 cJ0_indexOf_7cf53 3 (some .int) :: zT) RJ0 { frames := 2, cells := 0, slots := 0, locals := 48 } := hX
  have hStr := zt_str hX hzs
  have J36 : ∀ (s0 : Int32) , fn_J0_indexOf_7cf53_L36 c0 z1 z2 s0 = some res → GW κ 0 0 w 36 [] [.int (s0)] := by
    intro s0 h
    exact g_reti hR (oi_0 h) rfl dJ0_indexOf_7cf53_36
  show GW κ 0 0 w 0 [(0, .ref (aStr (c0))), (1, .int (z1)), (2, .int (z2))] []
  refine g_aload_n hX 0 rfl rfl dJ0_indexOf_7cf53_0 ?_
  obtain ⟨y1, e1, h⟩ := o1_some h
  refine s_callT hX hzo hStr hc0 [] [] (ct_J0_isLatin1_aae02 _ _ _ _ hzo hzs _ c0 hc0  _ e1) kJ0_isLatin1_aae02 tMet_J0_492 rfl rfl (Nat.le_of_ble_eq_true rfl) (Nat.le_of_ble_eq_true rfl) ⟨Nat.le_of_ble_eq_true rfl, Nat.le_of_ble_eq_true rfl⟩ rfl rfl (Nat.le_of_ble_eq_true rfl) dJ0_indexOf_7cf53_1 ?_
  refine g_if_eq hX 23 (by decide) dJ0_indexOf_7cf53_4 (fun b4 => ?_) (fun b4 => ?_)
  · replace h := if_p b4 h
    refine g_aload_n hX 0 rfl rfl dJ0_indexOf_7cf53_23 ?_
    refine g_sval hX hStr hc0 (zu tFld_J0_9 rfl) dJ0_indexOf_7cf53_24 ?_
    refine g_iload_n hX 1 rfl rfl dJ0_indexOf_7cf53_27 ?_
    refine g_iload_n hX 2 rfl rfl dJ0_indexOf_7cf53_28 ?_
    refine g_aload_n hX 0 rfl rfl dJ0_indexOf_7cf53_29 ?_
    obtain ⟨y30, e30, h⟩ := o1_some h
    refine s_callT hX hzo hStr hc0 [] [.int (z2), .int (z1), .ref (aByt (c0))] (ct_J0_length_8abf5 _ _ _ _ hzo hzs _ c0 hc0  _ e30) kJ0_length_8abf5 tMet_J0_505 rfl rfl (Nat.le_of_ble_eq_true rfl) (Nat.le_of_ble_eq_true rfl) ⟨Nat.le_of_ble_eq_true rfl, Nat.le_of_ble_eq_true rfl⟩ rfl rfl (Nat.le_of_ble_eq_true rfl) dJ0_indexOf_7cf53_30 ?_
    cases h
  · replace h := if_n b4 h
    refine g_aload_n hX 0 rfl rfl dJ0_indexOf_7cf53_7 ?_
    refine g_sval hX hStr hc0 (zu tFld_J0_9 rfl) dJ0_indexOf_7cf53_8 ?_
    refine g_iload_n hX 1 rfl rfl dJ0_indexOf_7cf53_11 ?_
    refine g_iload_n hX 2 rfl rfl dJ0_indexOf_7cf53_12 ?_
    refine g_aload_n hX 0 rfl rfl dJ0_indexOf_7cf53_13 ?_
    obtain ⟨y14, e14, h⟩ := o1_some h
    refine s_callT hX hzo hStr hc0 [] [.int (z2), .int (z1), .ref (aByt (c0))] (ct_J0_length_8abf5 _ _ _ _ hzo hzs _ c0 hc0  _ e14) kJ0_length_8abf5 tMet_J0_505 rfl rfl (Nat.le_of_ble_eq_true rfl) (Nat.le_of_ble_eq_true rfl) ⟨Nat.le_of_ble_eq_true rfl, Nat.le_of_ble_eq_true rfl⟩ rfl rfl (Nat.le_of_ble_eq_true rfl) dJ0_indexOf_7cf53_14 ?_
    obtain ⟨y17, e17, h⟩ := o1_some h
    refine s_call hX hzo [.ref (aByt (c0)), .int (z1), .int (z2), .int (y14)] [] (ct_J1_indexOf_4cfef _ _ _ _ hzo hzs _ c0 hc0 z1 z2 y14 _ e17) kJ1_indexOf_4cfef tMet_J0_637 rfl rfl (Nat.le_of_ble_eq_true rfl) (Nat.le_of_ble_eq_true rfl) ⟨Nat.le_of_ble_eq_true rfl, Nat.le_of_ble_eq_true rfl⟩ rfl rfl (Nat.le_of_ble_eq_true rfl) dJ0_indexOf_7cf53_17 ?_
    refine g_goto hX 36 (by decide) dJ0_indexOf_7cf53_20 ?_
    refine g_lv [] rfl ?_
    exact J36 y17  h
theorem kJ0_indexOf_0f7a4 : mKV RJ0 yJ0_indexOf_0f7a4 cJ0_indexOf_0f7a4 2 (some .int) 1 := ⟨tIns_J0_indexOf_0f7a4, tSel_J0_indexOf_0f7a4, tIni_J0, tCod_J0_indexOf_0f7a4, by decide +kernel⟩
set_option maxHeartbeats 4000000 in
set_option maxRecDepth 100000 in
theorem ct_J0_indexOf_0f7a4 (l : Launch) (D : va_G) (cy : Nat → ClassId) (Z : (Nat → Prop) → State → Heap → Prop) (hzo : zOK Z) {aStr aByt : Nat → Nat} (hzs : zSt Z aStr aByt) (w : va_W) (c0 : Nat) (hc0 : c0 < 6) (z1 : Int32) (res : Int32) (h : fn_J0_indexOf_0f7a4 c0 z1 = some res) : GD l D cy Z yJ0_indexOf_0f7a4 (zW yJ0_indexOf_0f7a4 cJ0_indexOf_0f7a4 2 (some .int)) { frames := 3, cells := 0, slots := 0, locals := 70 } [.ref (aStr (c0)), .int (z1)] w (some (.int res)) w 0 0 := by
  refine g_entry (cc := cJ0_indexOf_0f7a4) (maxL := 2) (by decide) rfl (Nat.le_of_ble_eq_true rfl) ?_
  intro κ hN hX hR
  have hX : GX κ cy Z cJ0_indexOf_0f7a4 (Cond.code yJ0_indexOf_0f7a4 cJ0_indexOf_0f7a4 2 (some .int) :: zT) RJ0 { frames := 3, cells := 0, slots := 0, locals := 70 } := hX
  have hStr := zt_str hX hzs
  show GW κ 0 0 w 0 [(0, .ref (aStr (c0))), (1, .int (z1))] []
  refine g_aload_n hX 0 rfl rfl dJ0_indexOf_0f7a4_0 ?_
  refine g_iload_n hX 1 rfl rfl dJ0_indexOf_0f7a4_1 ?_
  refine g_iconst hX (v := nI 0) rfl dJ0_indexOf_0f7a4_2 ?_
  obtain ⟨y3, e3, h⟩ := o1_some h
  refine s_callT hX hzo hStr hc0 [.int (z1), .int (nI 0)] [] (ct_J0_indexOf_7cf53 _ _ _ _ hzo hzs _ c0 hc0 z1 (nI 0) _ e3) kJ0_indexOf_7cf53 tMet_J0_633 rfl rfl (Nat.le_of_ble_eq_true rfl) (Nat.le_of_ble_eq_true rfl) ⟨Nat.le_of_ble_eq_true rfl, Nat.le_of_ble_eq_true rfl⟩ rfl rfl (Nat.le_of_ble_eq_true rfl) dJ0_indexOf_0f7a4_3 ?_
  exact g_reti hR (oi_0 h) rfl dJ0_indexOf_0f7a4_6
