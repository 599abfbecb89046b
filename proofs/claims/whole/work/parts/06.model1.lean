theorem fa_wide_le (a b : Int32) : a.toInt64 ≤ b.toInt64 ↔ a ≤ b := by rw [Int64.le_iff_toInt_le, Int32.le_iff_toInt_le, Int32.toInt_toInt64, Int32.toInt_toInt64]
theorem fa_wide_lt (a b : Int32) : a.toInt64 < b.toInt64 ↔ a < b := by rw [Int64.lt_iff_toInt_lt, Int32.lt_iff_toInt_lt, Int32.toInt_toInt64, Int32.toInt_toInt64]
/-- z lies in lo .. hi -/
def inB (z lo hi : Int32) : Bool := decide (lo ≤ z) && decide (z ≤ hi)
/-- whether house k stands -/
def sd (s : Nat → Int32) (k : Nat) : Bool := decide (s (6 + 7 * k + 6) = 0)
theorem kX7_isIn : mKS yX7_isIn cX7_isIn 6 (some .boolean) 3 := ⟨tSta_X7_isIn, tIni_X7, tCod_X7_isIn, by decide +kernel⟩
set_option maxHeartbeats 4000000 in
set_option maxRecDepth 100000 in
theorem c_isIn (l : Launch) (D : va_G) (cy : Nat → ClassId) (Z : (Nat → Prop) → State → Heap → Prop) (w : va_W) (z lo hi : Int32) : GD l D cy Z yX7_isIn (zW yX7_isIn cX7_isIn 6 (some .boolean)) { frames := 0, cells := 0, slots := 0, locals := 0 } [.long (Int32.toInt64 (z)), .long (Int32.toInt64 (lo)), .long (Int32.toInt64 (hi))] w (some (.int (bI (inB z lo hi)))) w 0 0 := by
  refine g_entry (cc := cX7_isIn) (maxL := 6) (by decide) rfl (Nat.le_of_ble_eq_true rfl) ?_
  intro κ hN hX hR
  have hX : GX κ cy Z cX7_isIn (Cond.code yX7_isIn cX7_isIn 6 (some .boolean) :: zT) RX7 { frames := 0, cells := 0, slots := 0, locals := 0 } := hX
  show GW κ 0 0 _ 0 [(0, .long (Int32.toInt64 (z))), (2, .long (Int32.toInt64 (lo))), (4, .long (Int32.toInt64 (hi)))] []
  refine g_lload_n hX 0 rfl rfl dX7_isIn_0 ?_
  refine g_lload_n hX 1 rfl rfl dX7_isIn_1 ?_
  refine g_lcmp hX dX7_isIn_2 ?_
  refine g_if_lt hX 17 (by decide) dX7_isIn_3 (fun c3 => ?_) (fun c3 => ?_)
  · refine g_iconst hX (v := nI 0) rfl dX7_isIn_17 ?_
    exact g_retz hR (bI_zero _ (by have h := (fa_wide_lt _ _).mp ((lg_cmp_lt _ _).mp c3); simp [inB, Int32.not_le.mpr h])) rfl dX7_isIn_18
  · refine g_lload_n hX 0 rfl rfl dX7_isIn_6 ?_
    refine g_lload hX 2 rfl dX7_isIn_7 ?_
    refine g_lcmp hX dX7_isIn_9 ?_
    refine g_if_gt hX 17 (by decide) dX7_isIn_10 (fun c10 => ?_) (fun c10 => ?_)
    · refine g_iconst hX (v := nI 0) rfl dX7_isIn_17 ?_
      exact g_retz hR (bI_zero _ (by have h := (fa_wide_lt _ _).mp ((lg_cmp_gt _ _).mp c10); simp [inB, Int32.not_le.mpr h])) rfl dX7_isIn_18
    · refine g_iconst hX (v := nI 1) rfl dX7_isIn_13 ?_
      refine g_goto hX 18 (by decide) dX7_isIn_14 ?_
      exact g_retz hR (bI_one _ (by have h := (fa_wide_le _ _).mp (Int64.not_lt.mp (fun q => c3 ((lg_cmp_lt _ _).mpr q))); have h2 := (fa_wide_le _ _).mp (Int64.not_lt.mp (fun q => c10 ((lg_cmp_gt _ _).mpr q))); simp [inB, h, h2])) rfl dX7_isIn_18
theorem kX7_orNone : mKS yX7_orNone cX7_orNone 1 (some .int) 1 := ⟨tSta_X7_orNone, tIni_X7, tCod_X7_orNone, by decide +kernel⟩
set_option maxHeartbeats 4000000 in
set_option maxRecDepth 100000 in
theorem c_orNone (l : Launch) (D : va_G) (cy : Nat → ClassId) (Z : (Nat → Prop) → State → Heap → Prop) (w : va_W) (z : Int32) : GD l D cy Z yX7_orNone (zW yX7_orNone cX7_orNone 1 (some .int)) { frames := 0, cells := 0, slots := 0, locals := 0 } [.int (z)] w (some (.int (if z < 0 then -1000000005 else z))) w 0 0 := by
  refine g_entry (cc := cX7_orNone) (maxL := 1) (by decide) rfl (Nat.le_of_ble_eq_true rfl) ?_
  intro κ hN hX hR
  have hX : GX κ cy Z cX7_orNone (Cond.code yX7_orNone cX7_orNone 1 (some .int) :: zT) RX7 { frames := 0, cells := 0, slots := 0, locals := 0 } := hX
  show GW κ 0 0 _ 0 [(0, .int (z))] []
  refine g_iload_n hX 0 rfl rfl dX7_orNone_0 ?_
  refine g_if_ge hX 9 (by decide) dX7_orNone_1 (fun c1 => ?_) (fun c1 => ?_)
  · refine g_iload_n hX 0 rfl rfl dX7_orNone_9 ?_
    exact g_reti hR (if_neg (Int32.not_lt.mpr c1)).symm rfl dX7_orNone_10
  · refine g_ldc hX (v := -1000000005) (zu tCon_X7_70 rfl) dX7_orNone_4 ?_
    refine g_goto hX 10 (by decide) dX7_orNone_6 ?_
    exact g_reti hR (if_pos (Int32.not_le.mp c1)).symm rfl dX7_orNone_10
def heldI (z lo hi : Int32) : Int32 := if z < lo then lo else if hi < z then hi else z
theorem kX7_held : mKS yX7_held cX7_held 3 (some .int) 3 := ⟨tSta_X7_held, tIni_X7, tCod_X7_held, by decide +kernel⟩
set_option maxHeartbeats 4000000 in
set_option maxRecDepth 100000 in
theorem c_held (l : Launch) (D : va_G) (cy : Nat → ClassId) (Z : (Nat → Prop) → State → Heap → Prop) (w : va_W) (z lo hi : Int32) : GD l D cy Z yX7_held (zW yX7_held cX7_held 3 (some .int)) { frames := 0, cells := 0, slots := 0, locals := 0 } [.int (z), .int (lo), .int (hi)] w (some (.int (heldI z lo hi))) w 0 0 := by
  refine g_entry (cc := cX7_held) (maxL := 3) (by decide) rfl (Nat.le_of_ble_eq_true rfl) ?_
  intro κ hN hX hR
  have hX : GX κ cy Z cX7_held (Cond.code yX7_held cX7_held 3 (some .int) :: zT) RX7 { frames := 0, cells := 0, slots := 0, locals := 0 } := hX
  show GW κ 0 0 _ 0 [(0, .int (z)), (1, .int (lo)), (2, .int (hi))] []
  refine g_iload_n hX 0 rfl rfl dX7_held_0 ?_
  refine g_iload_n hX 1 rfl rfl dX7_held_1 ?_
  refine g_icmp_ge hX 9 (by decide) dX7_held_2 (fun c2 => ?_) (fun c2 => ?_)
  · refine g_iload_n hX 0 rfl rfl dX7_held_9 ?_
    refine g_iload_n hX 2 rfl rfl dX7_held_10 ?_
    refine g_icmp_le hX 18 (by decide) dX7_held_11 (fun c11 => ?_) (fun c11 => ?_)
    · refine g_iload_n hX 0 rfl rfl dX7_held_18 ?_
      exact g_reti hR (by simp [heldI, Int32.not_lt.mpr c2, Int32.not_lt.mpr c11]) rfl dX7_held_19
    · refine g_iload_n hX 2 rfl rfl dX7_held_14 ?_
      refine g_goto hX 19 (by decide) dX7_held_15 ?_
      exact g_reti hR (by simp [heldI, Int32.not_lt.mpr c2, Int32.not_le.mp c11]) rfl dX7_held_19
  · refine g_iload_n hX 1 rfl rfl dX7_held_5 ?_
    refine g_goto hX 19 (by decide) dX7_held_6 ?_
    exact g_reti hR (by simp [heldI, Int32.not_le.mp c2]) rfl dX7_held_19
def offI (z y : Int32) : Int32 := if z < y then y - z else z - y
theorem kX7_off : mKS yX7_off cX7_off 2 (some .int) 2 := ⟨tSta_X7_off, tIni_X7, tCod_X7_off, by decide +kernel⟩
set_option maxHeartbeats 4000000 in
set_option maxRecDepth 100000 in
theorem c_off (l : Launch) (D : va_G) (cy : Nat → ClassId) (Z : (Nat → Prop) → State → Heap → Prop) (w : va_W) (z y : Int32) : GD l D cy Z yX7_off (zW yX7_off cX7_off 2 (some .int)) { frames := 0, cells := 0, slots := 0, locals := 0 } [.int (z), .int (y)] w (some (.int (offI z y))) w 0 0 := by
  refine g_entry (cc := cX7_off) (maxL := 2) (by decide) rfl (Nat.le_of_ble_eq_true rfl) ?_
  intro κ hN hX hR
  have hX : GX κ cy Z cX7_off (Cond.code yX7_off cX7_off 2 (some .int) :: zT) RX7 { frames := 0, cells := 0, slots := 0, locals := 0 } := hX
  show GW κ 0 0 _ 0 [(0, .int (z)), (1, .int (y))] []
  refine g_iload_n hX 0 rfl rfl dX7_off_0 ?_
  refine g_iload_n hX 1 rfl rfl dX7_off_1 ?_
  refine g_icmp_ge hX 11 (by decide) dX7_off_2 (fun c2 => ?_) (fun c2 => ?_)
  · refine g_iload_n hX 0 rfl rfl dX7_off_11 ?_
    refine g_iload_n hX 1 rfl rfl dX7_off_12 ?_
    refine g_isub hX dX7_off_13 ?_
    exact g_reti hR (by simp [offI, Int32.not_lt.mpr c2]) rfl dX7_off_14
  · refine g_iload_n hX 1 rfl rfl dX7_off_5 ?_
    refine g_iload_n hX 0 rfl rfl dX7_off_6 ?_
    refine g_isub hX dX7_off_7 ?_
    refine g_goto hX 14 (by decide) dX7_off_8 ?_
    exact g_reti hR (by simp [offI, Int32.not_le.mp c2]) rfl dX7_off_14
theorem kX7_becomes : mKV RX7 yX7_becomes cX7_becomes 4 (some .int) 2 := ⟨tIns_X7_becomes, tSel_X7_becomes, tIni_X7, tCod_X7_becomes, by decide +kernel⟩
set_option maxHeartbeats 4000000 in
set_option maxRecDepth 100000 in
theorem c_becomes (l : Launch) (D : va_G) (cy : Nat → ClassId) (Z : (Nat → Prop) → State → Heap → Prop) (hzo : zOK Z) {h0 : Nat} {a q : Nat → Nat} {C : (Nat → Int32) → (Nat → Int32) → (Nat → Nat → Int32) → (Nat → Nat → Int32) → va_W} (hC : mLens (cy 0) h0 a q C) (v s : Nat → Int32) (r x : Nat → Nat → Int32) (k : Nat) (hk : k < 3069) (z : Int32) : GD l D cy Z yX7_becomes (zW yX7_becomes cX7_becomes 4 (some .int)) { frames := 0, cells := 0, slots := 0, locals := 0 } [.ref (h0), .int (nI (k)), .int (z)] (C v s r x) (some (.int (s k))) (C v (upd s k z) r x) 0 0 := by
  refine g_entry (cc := cX7_becomes) (maxL := 4) (by decide) rfl (Nat.le_of_ble_eq_true rfl) ?_
  intro κ hN hX hR
  have hX : GX κ cy Z cX7_becomes (Cond.code yX7_becomes cX7_becomes 4 (some .int) :: zT) RX7 { frames := 0, cells := 0, slots := 0, locals := 0 } := hX
  show GW κ 0 0 _ 0 [(0, .ref (h0)), (1, .int (nI (k))), (2, .int (z))] []
  refine g_aload_n hX 0 rfl rfl dX7_becomes_0 ?_
  refine m_getA hX hC 0 (by decide) rfl tFld_X7_7 dX7_becomes_1 ?_
  refine g_iload_n hX 1 rfl rfl dX7_becomes_4 ?_
  refine m0_aldN hX hC hk dX7_becomes_5 ?_
  refine g_istore_n (lv2 := [(3, .int (s (k))), (0, .ref (h0)), (1, .int (nI (k))), (2, .int (z))]) hX 3 4 hN rfl (by decide) rfl dX7_becomes_6 ?_
  refine g_aload_n hX 1 rfl rfl dX7_becomes_7 ?_
  refine m_getA hX hC 0 (by decide) rfl tFld_X7_7 dX7_becomes_8 ?_
  refine g_iload_n hX 2 rfl rfl dX7_becomes_11 ?_
  refine g_iload_n hX 3 rfl rfl dX7_becomes_12 ?_
  refine m0_astN hX hC hk dX7_becomes_13 ?_
  refine g_iload_n hX 0 rfl rfl dX7_becomes_14 ?_
  exact g_reti hR rfl rfl dX7_becomes_15
theorem kX7_textAt : mKV RX7 yX7_textAt cX7_textAt 2 (some .int) 1 := ⟨tIns_X7_textAt, tSel_X7_textAt, tIni_X7, tCod_X7_textAt, by decide +kernel⟩
set_option maxHeartbeats 4000000 in
set_option maxRecDepth 100000 in
theorem c_textAt (l : Launch) (D : va_G) (cy : Nat → ClassId) (Z : (Nat → Prop) → State → Heap → Prop) (hzo : zOK Z) {h0 : Nat} {a q : Nat → Nat} {C : (Nat → Int32) → (Nat → Int32) → (Nat → Nat → Int32) → (Nat → Nat → Int32) → va_W} (hC : mLens (cy 0) h0 a q C) (v s : Nat → Int32) (r x : Nat → Nat → Int32) (k : Nat) : GD l D cy Z yX7_textAt (zW yX7_textAt cX7_textAt 2 (some .int)) { frames := 0, cells := 0, slots := 0, locals := 0 } [.ref (h0), .int (nI (k))] (C v s r x) (some (.int (nI (69 + 200 * k)))) (C v s r x) 0 0 := by
  refine g_entry (cc := cX7_textAt) (maxL := 2) (by decide) rfl (Nat.le_of_ble_eq_true rfl) ?_
  intro κ hN hX hR
  have hX : GX κ cy Z cX7_textAt (Cond.code yX7_textAt cX7_textAt 2 (some .int) :: zT) RX7 { frames := 0, cells := 0, slots := 0, locals := 0 } := hX
  show GW κ 0 0 _ 0 [(0, .ref (h0)), (1, .int (nI (k)))] []
  refine g_bipush hX (v := nI 69) (by decide) dX7_textAt_0 ?_
  refine g_sipush hX (v := nI 200) (by decide) dX7_textAt_2 ?_
  refine g_iload_n hX 1 rfl rfl dX7_textAt_5 ?_
  refine g_imulN hX dX7_textAt_6 ?_
  refine g_iaddN hX dX7_textAt_7 ?_
  exact g_reti hR rfl rfl dX7_textAt_8
theorem kX7_of : mKV RX7 yX7_of cX7_of 3 (some .int) 2 := ⟨tIns_X7_of, tSel_X7_of, tIni_X7, tCod_X7_of, by decide +kernel⟩
set_option maxHeartbeats 4000000 in
set_option maxRecDepth 100000 in
theorem c_of (l : Launch) (D : va_G) (cy : Nat → ClassId) (Z : (Nat → Prop) → State → Heap → Prop) (hzo : zOK Z) {h0 : Nat} {a q : Nat → Nat} {C : (Nat → Int32) → (Nat → Int32) → (Nat → Nat → Int32) → (Nat → Nat → Int32) → va_W} (hC : mLens (cy 0) h0 a q C) (v s : Nat → Int32) (r x : Nat → Nat → Int32) (k m : Nat) (hk : 6 + 7 * k + m < 3069) : GD l D cy Z yX7_of (zW yX7_of cX7_of 3 (some .int)) { frames := 0, cells := 0, slots := 0, locals := 0 } [.ref (h0), .int (nI (k)), .int (nI (m))] (C v s r x) (some (.int (s (6 + 7 * k + m)))) (C v s r x) 0 0 := by
  refine g_entry (cc := cX7_of) (maxL := 3) (by decide) rfl (Nat.le_of_ble_eq_true rfl) ?_
  intro κ hN hX hR
  have hX : GX κ cy Z cX7_of (Cond.code yX7_of cX7_of 3 (some .int) :: zT) RX7 { frames := 0, cells := 0, slots := 0, locals := 0 } := hX
  show GW κ 0 0 _ 0 [(0, .ref (h0)), (1, .int (nI (k))), (2, .int (nI (m)))] []
  refine g_aload_n hX 0 rfl rfl dX7_of_0 ?_
  refine m_getA hX hC 0 (by decide) rfl tFld_X7_7 dX7_of_1 ?_
  refine g_bipush hX (v := nI 6) (by decide) dX7_of_4 ?_
  refine g_bipush hX (v := nI 7) (by decide) dX7_of_6 ?_
  refine g_iload_n hX 1 rfl rfl dX7_of_8 ?_
  refine g_imulN hX dX7_of_9 ?_
  refine g_iaddN hX dX7_of_10 ?_
  refine g_iload_n hX 2 rfl rfl dX7_of_11 ?_
  refine g_iaddN hX dX7_of_12 ?_
  refine m0_aldN hX hC hk dX7_of_13 ?_
  exact g_reti hR rfl rfl dX7_of_14
theorem kX7_sets : mKV RX7 yX7_sets cX7_sets 4 none 3 := ⟨tIns_X7_sets, tSel_X7_sets, tIni_X7, tCod_X7_sets, by decide +kernel⟩
set_option maxHeartbeats 4000000 in
set_option maxRecDepth 100000 in
theorem c_sets (l : Launch) (D : va_G) (cy : Nat → ClassId) (Z : (Nat → Prop) → State → Heap → Prop) (hzo : zOK Z) {h0 : Nat} {a q : Nat → Nat} {C : (Nat → Int32) → (Nat → Int32) → (Nat → Nat → Int32) → (Nat → Nat → Int32) → va_W} (hC : mLens (cy 0) h0 a q C) (v s : Nat → Int32) (r x : Nat → Nat → Int32) (k m : Nat) (hk : 6 + 7 * k + m < 3069) (z : Int32) : GD l D cy Z yX7_sets (zW yX7_sets cX7_sets 4 none) { frames := 0, cells := 0, slots := 0, locals := 0 } [.ref (h0), .int (nI (k)), .int (nI (m)), .int (z)] (C v s r x) none (C v (upd s (6 + 7 * k + m) z) r x) 0 0 := by
  refine g_entry (cc := cX7_sets) (maxL := 4) (by decide) rfl (Nat.le_of_ble_eq_true rfl) ?_
  intro κ hN hX hR
  have hX : GX κ cy Z cX7_sets (Cond.code yX7_sets cX7_sets 4 none :: zT) RX7 { frames := 0, cells := 0, slots := 0, locals := 0 } := hX
  show GW κ 0 0 _ 0 [(0, .ref (h0)), (1, .int (nI (k))), (2, .int (nI (m))), (3, .int (z))] []
  refine g_aload_n hX 0 rfl rfl dX7_sets_0 ?_
  refine m_getA hX hC 0 (by decide) rfl tFld_X7_7 dX7_sets_1 ?_
  refine g_bipush hX (v := nI 6) (by decide) dX7_sets_4 ?_
  refine g_bipush hX (v := nI 7) (by decide) dX7_sets_6 ?_
  refine g_iload_n hX 1 rfl rfl dX7_sets_8 ?_
  refine g_imulN hX dX7_sets_9 ?_
  refine g_iaddN hX dX7_sets_10 ?_
  refine g_iload_n hX 2 rfl rfl dX7_sets_11 ?_
  refine g_iaddN hX dX7_sets_12 ?_
  refine g_iload_n hX 3 rfl rfl dX7_sets_13 ?_
  refine m0_astN hX hC hk dX7_sets_14 ?_
  exact g_retv hR rfl dX7_sets_15
theorem kX7_isHouse : mKV RX7 yX7_isHouse cX7_isHouse 2 (some .boolean) 1 := ⟨tIns_X7_isHouse, tSel_X7_isHouse, tIni_X7, tCod_X7_isHouse, by decide +kernel⟩
set_option maxHeartbeats 4000000 in
set_option maxRecDepth 100000 in
theorem c_isHouse (l : Launch) (D : va_G) (cy : Nat → ClassId) (Z : (Nat → Prop) → State → Heap → Prop) (hzo : zOK Z) {h0 : Nat} {a q : Nat → Nat} {C : (Nat → Int32) → (Nat → Int32) → (Nat → Nat → Int32) → (Nat → Nat → Int32) → va_W} (hC : mLens (cy 0) h0 a q C) (v s : Nat → Int32) (r x : Nat → Nat → Int32) (z : Int32) : GD l D cy Z yX7_isHouse (zW yX7_isHouse cX7_isHouse 2 (some .boolean)) { frames := 1, cells := 0, slots := 0, locals := 25 } [.ref (h0), .int (z)] (C v s r x) (some (.int (bI (inB z 0 (s 0 - nI 1))))) (C v s r x) 0 0 := by
  refine g_entry (cc := cX7_isHouse) (maxL := 2) (by decide) rfl (Nat.le_of_ble_eq_true rfl) ?_
  intro κ hN hX hR
  have hX : GX κ cy Z cX7_isHouse (Cond.code yX7_isHouse cX7_isHouse 2 (some .boolean) :: zT) RX7 { frames := 1, cells := 0, slots := 0, locals := 25 } := hX
  show GW κ 0 0 _ 0 [(0, .ref (h0)), (1, .int (z))] []
  refine g_iload_n hX 1 rfl rfl dX7_isHouse_0 ?_
  refine g_i2l hX dX7_isHouse_1 ?_
  refine g_lconst hX (v := Int32.toInt64 (0)) (by decide) dX7_isHouse_2 ?_
  refine g_aload_n hX 0 rfl rfl dX7_isHouse_3 ?_
  refine m_getA hX hC 0 (by decide) rfl tFld_X7_7 dX7_isHouse_4 ?_
  refine g_iconst hX (v := nI 0) rfl dX7_isHouse_7 ?_
  refine m0_aldN hX hC (by omega) dX7_isHouse_8 ?_
  refine g_iconst hX (v := nI 1) rfl dX7_isHouse_9 ?_
  refine g_isub hX dX7_isHouse_10 ?_
  refine g_i2l hX dX7_isHouse_11 ?_
  refine s_call hX hzo [.long (Int32.toInt64 (z)), .long (Int32.toInt64 ((0))), .long (Int32.toInt64 ((s (0) - nI (1))))] [] (c_isIn _ _ _ _ _ (z) ((0)) ((s (0) - nI (1)))) kX7_isIn tMet_X7_71 rfl rfl (Nat.le_of_ble_eq_true rfl) (Nat.le_of_ble_eq_true rfl) ⟨Nat.le_of_ble_eq_true rfl, Nat.le_of_ble_eq_true rfl⟩ rfl rfl (Nat.le_of_ble_eq_true rfl) dX7_isHouse_12 ?_
  exact g_retz hR rfl rfl dX7_isHouse_15
theorem kX7_isText : mKV RX7 yX7_isText cX7_isText 2 (some .boolean) 1 := ⟨tIns_X7_isText, tSel_X7_isText, tIni_X7, tCod_X7_isText, by decide +kernel⟩
set_option maxHeartbeats 4000000 in
set_option maxRecDepth 100000 in
theorem c_isText (l : Launch) (D : va_G) (cy : Nat → ClassId) (Z : (Nat → Prop) → State → Heap → Prop) (hzo : zOK Z) {h0 : Nat} {a q : Nat → Nat} {C : (Nat → Int32) → (Nat → Int32) → (Nat → Nat → Int32) → (Nat → Nat → Int32) → va_W} (hC : mLens (cy 0) h0 a q C) (v s : Nat → Int32) (r x : Nat → Nat → Int32) (z : Int32) : GD l D cy Z yX7_isText (zW yX7_isText cX7_isText 2 (some .boolean)) { frames := 1, cells := 0, slots := 0, locals := 25 } [.ref (h0), .int (z)] (C v s r x) (some (.int (bI (inB z 0 (s 1 - nI 1))))) (C v s r x) 0 0 := by
  refine g_entry (cc := cX7_isText) (maxL := 2) (by decide) rfl (Nat.le_of_ble_eq_true rfl) ?_
  intro κ hN hX hR
  have hX : GX κ cy Z cX7_isText (Cond.code yX7_isText cX7_isText 2 (some .boolean) :: zT) RX7 { frames := 1, cells := 0, slots := 0, locals := 25 } := hX
  show GW κ 0 0 _ 0 [(0, .ref (h0)), (1, .int (z))] []
  refine g_iload_n hX 1 rfl rfl dX7_isText_0 ?_
  refine g_i2l hX dX7_isText_1 ?_
  refine g_lconst hX (v := Int32.toInt64 (0)) (by decide) dX7_isText_2 ?_
  refine g_aload_n hX 0 rfl rfl dX7_isText_3 ?_
  refine m_getA hX hC 0 (by decide) rfl tFld_X7_7 dX7_isText_4 ?_
  refine g_iconst hX (v := nI 1) rfl dX7_isText_7 ?_
  refine m0_aldN hX hC (by omega) dX7_isText_8 ?_
  refine g_iconst hX (v := nI 1) rfl dX7_isText_9 ?_
  refine g_isub hX dX7_isText_10 ?_
  refine g_i2l hX dX7_isText_11 ?_
  refine s_call hX hzo [.long (Int32.toInt64 (z)), .long (Int32.toInt64 ((0))), .long (Int32.toInt64 ((s (1) - nI (1))))] [] (c_isIn _ _ _ _ _ (z) ((0)) ((s (1) - nI (1)))) kX7_isIn tMet_X7_71 rfl rfl (Nat.le_of_ble_eq_true rfl) (Nat.le_of_ble_eq_true rfl) ⟨Nat.le_of_ble_eq_true rfl, Nat.le_of_ble_eq_true rfl⟩ rfl rfl (Nat.le_of_ble_eq_true rfl) dX7_isText_12 ?_
  exact g_retz hR rfl rfl dX7_isText_15
theorem kX7_stands : mKV RX7 yX7_stands cX7_stands 2 (some .boolean) 1 := ⟨tIns_X7_stands, tSel_X7_stands, tIni_X7, tCod_X7_stands, by decide +kernel⟩
set_option maxHeartbeats 4000000 in
set_option maxRecDepth 100000 in
theorem c_stands (l : Launch) (D : va_G) (cy : Nat → ClassId) (Z : (Nat → Prop) → State → Heap → Prop) (hzo : zOK Z) {h0 : Nat} {a q : Nat → Nat} {C : (Nat → Int32) → (Nat → Int32) → (Nat → Nat → Int32) → (Nat → Nat → Int32) → va_W} (hC : mLens (cy 0) h0 a q C) (v s : Nat → Int32) (r x : Nat → Nat → Int32) (k : Nat) (hk : k < 9) : GD l D cy Z yX7_stands (zW yX7_stands cX7_stands 2 (some .boolean)) { frames := 1, cells := 0, slots := 0, locals := 22 } [.ref (h0), .int (nI (k))] (C v s r x) (some (.int (bI (sd s k)))) (C v s r x) 0 0 := by
  refine g_entry (cc := cX7_stands) (maxL := 2) (by decide) rfl (Nat.le_of_ble_eq_true rfl) ?_
  intro κ hN hX hR
  have hX : GX κ cy Z cX7_stands (Cond.code yX7_stands cX7_stands 2 (some .boolean) :: zT) RX7 { frames := 1, cells := 0, slots := 0, locals := 22 } := hX
  show GW κ 0 0 _ 0 [(0, .ref (h0)), (1, .int (nI (k)))] []
  refine g_aload_n hX 0 rfl rfl dX7_stands_0 ?_
  refine g_iload_n hX 1 rfl rfl dX7_stands_1 ?_
  refine g_bipush hX (v := nI 6) (by decide) dX7_stands_2 ?_
  refine m_callD hX hzo hC [.int (nI (k)), .int (nI (6))] [] (c_of _ _ _ _ hzo hC v s r x (k) (6) (by omega)) kX7_of tMet_X7_75 rfl rfl (Nat.le_of_ble_eq_true rfl) (Nat.le_of_ble_eq_true rfl) ⟨Nat.le_of_ble_eq_true rfl, Nat.le_of_ble_eq_true rfl⟩ rfl rfl (Nat.le_of_ble_eq_true rfl) dX7_stands_4 ?_
  refine g_if_ne hX 14 (by decide) dX7_stands_7 (fun c7 => ?_) (fun c7 => ?_)
  · refine g_iconst hX (v := nI 0) rfl dX7_stands_14 ?_
    exact g_retz hR (bI_zero _ (by simp [sd, c7])) rfl dX7_stands_15
  · refine g_iconst hX (v := nI 1) rfl dX7_stands_10 ?_
    refine g_goto hX 15 (by decide) dX7_stands_11 ?_
    exact g_retz hR (bI_one _ (by simp [sd, c7])) rfl dX7_stands_15
/-- the next number of the lot -/
def lotZ (z : Int32) : Int32 := z * 1103515245 + nI 12345
def lotN (z : Int32) : Int32 := ((lotZ z).toUInt32 >>> ((nI 8).toUInt32 &&& Int32.toUInt32 31)).toInt32
theorem kX7_drawn : mKV RX7 yX7_drawn cX7_drawn 1 (some .int) 0 := ⟨tIns_X7_drawn, tSel_X7_drawn, tIni_X7, tCod_X7_drawn, by decide +kernel⟩
set_option maxHeartbeats 4000000 in
set_option maxRecDepth 100000 in
theorem c_drawn (l : Launch) (D : va_G) (cy : Nat → ClassId) (Z : (Nat → Prop) → State → Heap → Prop) (hzo : zOK Z) {h0 : Nat} {a q : Nat → Nat} {C : (Nat → Int32) → (Nat → Int32) → (Nat → Nat → Int32) → (Nat → Nat → Int32) → va_W} (hC : mLens (cy 0) h0 a q C) (v s : Nat → Int32) (r x : Nat → Nat → Int32) : GD l D cy Z yX7_drawn (zW yX7_drawn cX7_drawn 1 (some .int)) { frames := 0, cells := 0, slots := 0, locals := 0 } [.ref (h0)] (C v s r x) (some (.int (lotN (s 5)))) (C v (upd s 5 (lotZ (s 5))) r x) 0 0 := by
  refine g_entry (cc := cX7_drawn) (maxL := 1) (by decide) rfl (Nat.le_of_ble_eq_true rfl) ?_
  intro κ hN hX hR
  have hX : GX κ cy Z cX7_drawn (Cond.code yX7_drawn cX7_drawn 1 (some .int) :: zT) RX7 { frames := 0, cells := 0, slots := 0, locals := 0 } := hX
  show GW κ 0 0 _ 0 [(0, .ref (h0))] []
  refine g_aload_n hX 0 rfl rfl dX7_drawn_0 ?_
  refine m_getA hX hC 0 (by decide) rfl tFld_X7_7 dX7_drawn_1 ?_
  refine g_iconst hX (v := nI 5) rfl dX7_drawn_4 ?_
  refine g_aload_n hX 0 rfl rfl dX7_drawn_5 ?_
  refine m_getA hX hC 0 (by decide) rfl tFld_X7_7 dX7_drawn_6 ?_
  refine g_iconst hX (v := nI 5) rfl dX7_drawn_9 ?_
  refine m0_aldN hX hC (by omega) dX7_drawn_10 ?_
  refine g_ldc hX (v := 1103515245) (zu tCon_X7_79 rfl) dX7_drawn_11 ?_
  refine g_imul hX dX7_drawn_13 ?_
  refine g_sipush hX (v := nI 12345) (by decide) dX7_drawn_14 ?_
  refine g_iadd hX dX7_drawn_17 ?_
  refine m0_astN hX hC (by omega) dX7_drawn_18 ?_
  refine g_aload_n hX 0 rfl rfl dX7_drawn_19 ?_
  refine m_getA hX hC 0 (by decide) rfl tFld_X7_7 dX7_drawn_20 ?_
  refine g_iconst hX (v := nI 5) rfl dX7_drawn_23 ?_
  refine m0_aldN hX hC (by omega) dX7_drawn_24 ?_
  refine g_bipush hX (v := nI 8) (by decide) dX7_drawn_25 ?_
  refine g_iushr hX dX7_drawn_27 ?_
  exact g_reti hR (by simp only [pk_us]; rfl) rfl dX7_drawn_28
