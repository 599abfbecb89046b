theorem bne {b : Bool} (h : b = false) : ¬ b = true := by rw [h]; decide
/-- z is a house's number -/
def hB (n : Nat) (z : Int32) : Bool := inB z 0 (nI n - nI 1)
def hIx (n : Nat) (z : Int32) : Option Nat := if hB n z then some z.toNatClampNeg else none
theorem hB_t {n : Nat} {z : Int32} (hn : n ≤ 100) (h : hB n z = true) : ∃ k, k < n ∧ z = nI k := by
  rw [hB, inB, Bool.and_eq_true, decide_eq_true_eq, decide_eq_true_eq] at h
  obtain ⟨h1, h2⟩ := h
  have e1 : (0 : Int) ≤ z.toInt := Int32.le_iff_toInt_le.mp h1
  have e2 := Int32.le_iff_toInt_le.mp h2
  have e3 : (nI n - nI 1).toInt = (n : Int) - 1 := pk_sub_toInt (by omega) (by decide)
  rw [e3] at e2
  refine ⟨z.toInt.toNat, by omega, ?_⟩
  apply Int32.toInt_inj.mp
  rw [nI_toInt (by omega)]
  omega
theorem hB_k {n k : Nat} (hn : n ≤ 100) (h : k < n) : hB n (nI k) = true := by
  rw [hB, inB, Bool.and_eq_true, decide_eq_true_eq, decide_eq_true_eq]
  refine ⟨nI_pos' (by omega), ?_⟩
  rw [pk_sub (by omega)]
  exact nI_le (by omega) (by omega)
theorem hIx_k {n k : Nat} (hn : n ≤ 100) (h : k < n) : hIx n (nI k) = some k := by rw [hIx, if_pos (hB_k hn h), nI_clamp (by omega)]
theorem hIx_f {n : Nat} {z : Int32} (h : hB n z = false) : hIx n z = none := by rw [hIx, if_neg (bne h)]
theorem mayB_t {m z : Int32} (h : mayB m z = true) : ∃ j, 1 ≤ j ∧ j ≤ 5 ∧ m = nI j := by
  unfold mayB at h
  by_cases c1 : m = nI 1
  · exact ⟨1, by decide, by decide, c1⟩
  by_cases c2 : m = nI 2
  · exact ⟨2, by decide, by decide, c2⟩
  by_cases c3 : m = nI 3
  · exact ⟨3, by decide, by decide, c3⟩
  by_cases c4 : m = nI 4
  · exact ⟨4, by decide, by decide, c4⟩
  by_cases c5 : m = nI 5
  · exact ⟨5, by decide, by decide, c5⟩
  rw [if_neg c1, if_neg c2, if_neg c3, if_neg c4, if_neg c5] at h
  cases h
/-- how many stand -/
def cntS (s : Nat → Int32) (n : Nat) : Nat := pcN (maskN (sd s) n)
theorem maskN_512 (p : Nat → Bool) {n : Nat} (hn : n ≤ 9) : maskN p n < 512 := Nat.lt_of_lt_of_le (maskN_lt p n) (Nat.pow_le_pow_right (by decide) hn)
def isOfB (z y : Int32) : Bool := decide (z = y) || decide (y = 0) || (decide (y = nI 1) && decide (z = nI 3)) || (decide (y = nI 2) && decide (z = nI 4))
theorem kX7_isOf : mKS yX7_isOf cX7_isOf 2 (some .boolean) 2 := ⟨tSta_X7_isOf, tIni_X7, tCod_X7_isOf, by decide +kernel⟩
set_option maxHeartbeats 4000000 in
set_option maxRecDepth 100000 in
theorem c_isOf (l : Launch) (D : va_G) (cy : Nat → ClassId) (Z : (Nat → Prop) → State → Heap → Prop) (w : va_W) (z y : Int32) : GD l D cy Z yX7_isOf (zW yX7_isOf cX7_isOf 2 (some .boolean)) { frames := 0, cells := 0, slots := 0, locals := 0 } [.int (z), .int (y)] w (some (.int (bI (isOfB z y)))) w 0 0 := by
  refine g_entry (cc := cX7_isOf) (maxL := 2) (by decide) rfl (Nat.le_of_ble_eq_true rfl) ?_
  intro κ hN hX hR
  have hX : GX κ cy Z cX7_isOf (Cond.code yX7_isOf cX7_isOf 2 (some .boolean) :: zT) RX7 { frames := 0, cells := 0, slots := 0, locals := 0 } := hX
  show GW κ 0 0 _ 0 [(0, .int (z)), (1, .int (y))] []
  refine g_iload_n hX 0 rfl rfl dX7_isOf_0 ?_
  refine g_iload_n hX 1 rfl rfl dX7_isOf_1 ?_
  refine g_icmp_eq hX 29 (by decide) dX7_isOf_2 (fun c2 => ?_) (fun c2 => ?_)
  · refine g_iconst hX (v := nI 1) rfl dX7_isOf_29 ?_
    refine g_goto hX 34 (by decide) dX7_isOf_30 ?_
    exact g_retz hR (bI_one _ (by simp [isOfB, c2])) rfl dX7_isOf_34
  · refine g_iload_n hX 1 rfl rfl dX7_isOf_5 ?_
    refine g_if_eq hX 29 (by decide) dX7_isOf_6 (fun c6 => ?_) (fun c6 => ?_)
    · refine g_iconst hX (v := nI 1) rfl dX7_isOf_29 ?_
      refine g_goto hX 34 (by decide) dX7_isOf_30 ?_
      exact g_retz hR (bI_one _ (by simp [isOfB, c6])) rfl dX7_isOf_34
    · refine g_iload_n hX 1 rfl rfl dX7_isOf_9 ?_
      refine g_iconst hX (v := nI 1) rfl dX7_isOf_10 ?_
      refine g_icmp_ne hX 19 (by decide) dX7_isOf_11 (fun c11 => ?_) (fun c11 => ?_)
      · refine g_iload_n hX 1 rfl rfl dX7_isOf_19 ?_
        refine g_iconst hX (v := nI 2) rfl dX7_isOf_20 ?_
        refine g_icmp_ne hX 33 (by decide) dX7_isOf_21 (fun c21 => ?_) (fun c21 => ?_)
        · refine g_iconst hX (v := nI 0) rfl dX7_isOf_33 ?_
          exact g_retz hR (bI_zero _ (by have e1 : (decide (y = nI 1) && decide (z = nI 3)) = false := (by rw [decide_eq_false c11, Bool.false_and]); have e2 : (decide (y = nI 2) && decide (z = nI 4)) = false := (by rw [decide_eq_false c21, Bool.false_and]); rw [isOfB, decide_eq_false c2, decide_eq_false c6, e1, e2]; rfl)) rfl dX7_isOf_34
        · refine g_iload_n hX 0 rfl rfl dX7_isOf_24 ?_
          refine g_iconst hX (v := nI 4) rfl dX7_isOf_25 ?_
          refine g_icmp_ne hX 33 (by decide) dX7_isOf_26 (fun c26 => ?_) (fun c26 => ?_)
          · refine g_iconst hX (v := nI 0) rfl dX7_isOf_33 ?_
            exact g_retz hR (bI_zero _ (by have e1 : (decide (y = nI 1) && decide (z = nI 3)) = false := (by rw [decide_eq_false c11, Bool.false_and]); have e2 : (decide (y = nI 2) && decide (z = nI 4)) = false := (by rw [decide_eq_false c26, Bool.and_false]); rw [isOfB, decide_eq_false c2, decide_eq_false c6, e1, e2]; rfl)) rfl dX7_isOf_34
          · refine g_iconst hX (v := nI 1) rfl dX7_isOf_29 ?_
            refine g_goto hX 34 (by decide) dX7_isOf_30 ?_
            exact g_retz hR (bI_one _ (by simp [isOfB, c21, c26])) rfl dX7_isOf_34
      · refine g_iload_n hX 0 rfl rfl dX7_isOf_14 ?_
        refine g_iconst hX (v := nI 3) rfl dX7_isOf_15 ?_
        refine g_icmp_eq hX 29 (by decide) dX7_isOf_16 (fun c16 => ?_) (fun c16 => ?_)
        · refine g_iconst hX (v := nI 1) rfl dX7_isOf_29 ?_
          refine g_goto hX 34 (by decide) dX7_isOf_30 ?_
          exact g_retz hR (bI_one _ (by simp [isOfB, c11, c16])) rfl dX7_isOf_34
        · refine g_iload_n hX 1 rfl rfl dX7_isOf_19 ?_
          refine g_iconst hX (v := nI 2) rfl dX7_isOf_20 ?_
          refine g_icmp_ne hX 33 (by decide) dX7_isOf_21 (fun c21 => ?_) (fun c21 => ?_)
          · refine g_iconst hX (v := nI 0) rfl dX7_isOf_33 ?_
            exact g_retz hR (bI_zero _ (by have e1 : (decide (y = nI 1) && decide (z = nI 3)) = false := (by rw [decide_eq_false c16, Bool.and_false]); have e2 : (decide (y = nI 2) && decide (z = nI 4)) = false := (by rw [decide_eq_false c21, Bool.false_and]); rw [isOfB, decide_eq_false c2, decide_eq_false c6, e1, e2]; rfl)) rfl dX7_isOf_34
          · refine g_iload_n hX 0 rfl rfl dX7_isOf_24 ?_
            refine g_iconst hX (v := nI 4) rfl dX7_isOf_25 ?_
            refine g_icmp_ne hX 33 (by decide) dX7_isOf_26 (fun c26 => ?_) (fun c26 => ?_)
            · refine g_iconst hX (v := nI 0) rfl dX7_isOf_33 ?_
              exact g_retz hR (bI_zero _ (by have e1 : (decide (y = nI 1) && decide (z = nI 3)) = false := (by rw [decide_eq_false c16, Bool.and_false]); have e2 : (decide (y = nI 2) && decide (z = nI 4)) = false := (by rw [decide_eq_false c26, Bool.and_false]); rw [isOfB, decide_eq_false c2, decide_eq_false c6, e1, e2]; rfl)) rfl dX7_isOf_34
            · refine g_iconst hX (v := nI 1) rfl dX7_isOf_29 ?_
              refine g_goto hX 34 (by decide) dX7_isOf_30 ?_
              exact g_retz hR (bI_one _ (by simp [isOfB, c21, c26])) rfl dX7_isOf_34
theorem c_isHouseN (l : Launch) (D : va_G) (cy : Nat → ClassId) (Z : (Nat → Prop) → State → Heap → Prop) (hzo : zOK Z) {h0 : Nat} {a q : Nat → Nat} {C : (Nat → Int32) → (Nat → Int32) → (Nat → Nat → Int32) → (Nat → Nat → Int32) → va_W} (hC : mLens (cy 0) h0 a q C) (v s : Nat → Int32) (r x : Nat → Nat → Int32) (n : Nat) (hn : s 0 = nI n) (z : Int32) : GD l D cy Z yX7_isHouse (zW yX7_isHouse cX7_isHouse 2 (some .boolean)) { frames := 1, cells := 0, slots := 0, locals := 25 } [.ref h0, .int z] (C v s r x) (some (.int (bI (hB n z)))) (C v s r x) 0 0 := by
  have h := c_isHouse l D cy Z hzo hC v s r x z
  rw [hn] at h
  exact h
def houseP (s : Nat → Int32) (n : Nat) (a0 a1 a2 a3 : Int32) : Int32 × (Nat → Int32) := if inB a0 0 5 && mayB (nI 1) a1 && mayB (nI 2) a2 && mayB (nI 3) a3 then (if n = 9 then (-1000000003, s) else (nI (n + 1) - nI 1, houseS s n a0 a1 a2 a3)) else (-1000000001, s)
theorem houseS_0 (s : Nat → Int32) (k : Nat) (a0 a1 a2 a3 : Int32) : houseS s k a0 a1 a2 a3 0 = nI (k + 1) := by rw [houseS, pk_un (by omega), pk_un (by omega), pk_un (by omega), pk_un (by omega), pk_un (by omega), pk_un (by omega), pk_un (by omega), pk_us]
theorem kX7_house : mKV RX7 yX7_house cX7_house 5 (some .int) 4 := ⟨tIns_X7_house, tSel_X7_house, tIni_X7, tCod_X7_house, by decide +kernel⟩
set_option maxHeartbeats 4000000 in
set_option maxRecDepth 100000 in
theorem c_house (l : Launch) (D : va_G) (cy : Nat → ClassId) (Z : (Nat → Prop) → State → Heap → Prop) (hzo : zOK Z) {h0 : Nat} {a q : Nat → Nat} {C : (Nat → Int32) → (Nat → Int32) → (Nat → Nat → Int32) → (Nat → Nat → Int32) → va_W} (hC : mLens (cy 0) h0 a q C) (v s : Nat → Int32) (r x : Nat → Nat → Int32) (n : Nat) (hn : s 0 = nI n) (hn9 : n ≤ 9) (a0 a1 a2 a3 : Int32) : GM l D cy Z yX7_house (zW yX7_house cX7_house 5 (some .int)) { frames := 2, cells := 0, slots := 0, locals := 48 } [.ref (h0), .int (a0), .int (a1), .int (a2), .int (a3)] (C v s r x) (fun res w2 => res = some (.int (houseP s n a0 a1 a2 a3).1) ∧ ∃ x2, w2 = C v (houseP s n a0 a1 a2 a3).2 r x2) 0 0 := by
  refine g_entry (cc := cX7_house) (maxL := 5) (by decide) rfl (Nat.le_of_ble_eq_true rfl) ?_
  intro κ hN hX hR
  have hX : GX κ cy Z cX7_house (Cond.code yX7_house cX7_house 5 (some .int) :: zT) RX7 { frames := 2, cells := 0, slots := 0, locals := 48 } := hX
  show GW κ 0 0 _ 0 [(0, .ref (h0)), (1, .int (a0)), (2, .int (a1)), (3, .int (a2)), (4, .int (a3))] []
  refine g_iload_n hX 1 rfl rfl dX7_house_0 ?_
  refine g_i2l hX dX7_house_1 ?_
  refine g_lconst hX (v := Int32.toInt64 (0)) (by decide) dX7_house_2 ?_
  refine g_ldc2 hX (v := Int32.toInt64 (5)) (zu tCoL_X7_94 rfl) dX7_house_3 ?_
  refine s_call hX hzo [.long (Int32.toInt64 (a0)), .long (Int32.toInt64 ((0))), .long (Int32.toInt64 ((5)))] [] (c_isIn _ _ _ _ _ (a0) ((0)) ((5))) kX7_isIn tMet_X7_71 rfl rfl (Nat.le_of_ble_eq_true rfl) (Nat.le_of_ble_eq_true rfl) ⟨Nat.le_of_ble_eq_true rfl, Nat.le_of_ble_eq_true rfl⟩ rfl rfl (Nat.le_of_ble_eq_true rfl) dX7_house_6 ?_
  refine g_ifb_eq hX 37 (by decide) dX7_house_9 (fun c9 => ?_) (fun c9 => ?_)
  · refine g_ldc hX (v := -1000000001) (zu tCon_X7_100 rfl) dX7_house_37 ?_
    have E : houseP s n a0 a1 a2 a3 = ((-1000000001), s) := by rw [houseP, if_neg (by rw [c9]; simp)]
    exact g_retiP hR ⟨by rw [E], x, by rw [E]⟩ dX7_house_39
  · refine g_iconst hX (v := nI 1) rfl dX7_house_12 ?_
    refine g_iload_n hX 2 rfl rfl dX7_house_13 ?_
    refine s_call hX hzo [.int (nI (1)), .int (a1)] [] (c_mayBe _ _ _ _ hzo _ (nI (1)) (a1)) kX7_mayBe tMet_X7_96 rfl rfl (Nat.le_of_ble_eq_true rfl) (Nat.le_of_ble_eq_true rfl) ⟨Nat.le_of_ble_eq_true rfl, Nat.le_of_ble_eq_true rfl⟩ rfl rfl (Nat.le_of_ble_eq_true rfl) dX7_house_14 ?_
    refine g_ifb_eq hX 37 (by decide) dX7_house_17 (fun c17 => ?_) (fun c17 => ?_)
    · refine g_ldc hX (v := -1000000001) (zu tCon_X7_100 rfl) dX7_house_37 ?_
      have E : houseP s n a0 a1 a2 a3 = ((-1000000001), s) := by rw [houseP, if_neg (by rw [c17]; simp)]
      exact g_retiP hR ⟨by rw [E], x, by rw [E]⟩ dX7_house_39
    · refine g_iconst hX (v := nI 2) rfl dX7_house_20 ?_
      refine g_iload_n hX 3 rfl rfl dX7_house_21 ?_
      refine s_call hX hzo [.int (nI (2)), .int (a2)] [] (c_mayBe _ _ _ _ hzo _ (nI (2)) (a2)) kX7_mayBe tMet_X7_96 rfl rfl (Nat.le_of_ble_eq_true rfl) (Nat.le_of_ble_eq_true rfl) ⟨Nat.le_of_ble_eq_true rfl, Nat.le_of_ble_eq_true rfl⟩ rfl rfl (Nat.le_of_ble_eq_true rfl) dX7_house_22 ?_
      refine g_ifb_eq hX 37 (by decide) dX7_house_25 (fun c25 => ?_) (fun c25 => ?_)
      · refine g_ldc hX (v := -1000000001) (zu tCon_X7_100 rfl) dX7_house_37 ?_
        have E : houseP s n a0 a1 a2 a3 = ((-1000000001), s) := by rw [houseP, if_neg (by rw [c25]; simp)]
        exact g_retiP hR ⟨by rw [E], x, by rw [E]⟩ dX7_house_39
      · refine g_iconst hX (v := nI 3) rfl dX7_house_28 ?_
        refine g_iload hX 4 rfl dX7_house_29 ?_
        refine s_call hX hzo [.int (nI (3)), .int (a3)] [] (c_mayBe _ _ _ _ hzo _ (nI (3)) (a3)) kX7_mayBe tMet_X7_96 rfl rfl (Nat.le_of_ble_eq_true rfl) (Nat.le_of_ble_eq_true rfl) ⟨Nat.le_of_ble_eq_true rfl, Nat.le_of_ble_eq_true rfl⟩ rfl rfl (Nat.le_of_ble_eq_true rfl) dX7_house_31 ?_
        refine g_ifb_ne hX 40 (by decide) dX7_house_34 (fun c34 => ?_) (fun c34 => ?_)
        · refine g_aload_n hX 0 rfl rfl dX7_house_40 ?_
          refine m_getA hX hC 0 (by decide) rfl tFld_X7_7 dX7_house_41 ?_
          refine g_iconst hX (v := nI 0) rfl dX7_house_44 ?_
          refine m0_aldN hX hC (by omega) dX7_house_45 ?_
          refine g_top (y := .int (nI (n))) (congrArg Value.int hn) ?_
          refine g_bipush hX (v := nI 9) (by decide) dX7_house_46 ?_
          refine g_icmpN_ne hX (by omega) (by omega) 54 (by decide) dX7_house_48 (fun c48 => ?_) (fun c48 => ?_)
          · refine g_aload_n hX 0 rfl rfl dX7_house_54 ?_
            refine g_iload_n hX 1 rfl rfl dX7_house_55 ?_
            refine g_iload_n hX 2 rfl rfl dX7_house_56 ?_
            refine g_iload_n hX 3 rfl rfl dX7_house_57 ?_
            refine g_iload hX 4 rfl dX7_house_58 ?_
            refine m_callD hX hzo hC [.int (a0), .int (a1), .int (a2), .int (a3)] [] (c_comes _ _ _ _ hzo hC v s r x n hn (by omega) (a0) (a1) (a2) (a3)) kX7_comes tMet_X7_102 rfl rfl (Nat.le_of_ble_eq_true rfl) (Nat.le_of_ble_eq_true rfl) ⟨Nat.le_of_ble_eq_true rfl, Nat.le_of_ble_eq_true rfl⟩ rfl rfl (Nat.le_of_ble_eq_true rfl) dX7_house_60 ?_
            refine g_aload_n hX 0 rfl rfl dX7_house_63 ?_
            refine m_getA hX hC 0 (by decide) rfl tFld_X7_7 dX7_house_64 ?_
            refine g_iconst hX (v := nI 0) rfl dX7_house_67 ?_
            refine m0_aldN hX hC (by omega) dX7_house_68 ?_
            refine g_top (y := .int (nI (n + 1))) (congrArg Value.int (show houseS s n a0 a1 a2 a3 0 = nI (n + 1) from houseS_0 _ _ _ _ _ _)) ?_
            refine g_iconst hX (v := nI 1) rfl dX7_house_69 ?_
            refine g_isub hX dX7_house_70 ?_
            have E : houseP s n a0 a1 a2 a3 = ((nI (n + 1) - nI (1)), (houseS s n (a0) (a1) (a2) (a3))) := by rw [houseP, if_pos (by rw [c9, c17, c25, c34]; rfl), if_neg c48]
            exact g_retiP hR ⟨by rw [E], x, by rw [E]⟩ dX7_house_71
          · refine g_ldc hX (v := -1000000003) (zu tCon_X7_101 rfl) dX7_house_51 ?_
            have E : houseP s n a0 a1 a2 a3 = ((-1000000003), s) := by rw [houseP, if_pos (by rw [c9, c17, c25, c34]; rfl), if_pos c48]
            exact g_retiP hR ⟨by rw [E], x, by rw [E]⟩ dX7_house_53
        · refine g_ldc hX (v := -1000000001) (zu tCon_X7_100 rfl) dX7_house_37 ?_
          have E : houseP s n a0 a1 a2 a3 = ((-1000000001), s) := by rw [houseP, if_neg (by rw [c34]; simp)]
          exact g_retiP hR ⟨by rw [E], x, by rw [E]⟩ dX7_house_39
def toldP (s : Nat → Int32) (nt n : Nat) (z y : Int32) : Int32 := match hIx n z with
  | none => -1000000001
  | some k => if y = nI 0 then s (6 + 7 * k + 0) else if y = nI 1 then s (6 + 7 * k + 1) else if y = nI 2 then s (6 + 7 * k + 2) else if y = nI 3 then s (6 + 7 * k + 3) else if y = nI 4 then s (6 + 7 * k + 4) else if y = nI 5 then s (6 + 7 * k + 5) else if y = nI 6 then nI 1 - s (6 + 7 * k + 6) else if y = nI 7 then puS s nt k else if y = nI 8 then brs s k else if y = nI 9 then thS s nt n k else if y = nI 10 then wth s k else -1000000001
theorem kX7_told : mKV RX7 yX7_told cX7_told 3 (some .int) 2 := ⟨tIns_X7_told, tSel_X7_told, tIni_X7, tCod_X7_told, by decide +kernel⟩
set_option maxHeartbeats 4000000 in
set_option maxRecDepth 100000 in
theorem c_told (l : Launch) (D : va_G) (cy : Nat → ClassId) (Z : (Nat → Prop) → State → Heap → Prop) (hzo : zOK Z) {h0 : Nat} {a q : Nat → Nat} {C : (Nat → Int32) → (Nat → Int32) → (Nat → Nat → Int32) → (Nat → Nat → Int32) → va_W} (hC : mLens (cy 0) h0 a q C) (v s : Nat → Int32) (r x : Nat → Nat → Int32) (nt : Nat) (hnt : s 1 = nI nt) (hnt14 : nt ≤ 14) (htx : ∀ t, t < nt → textOK s t) (n : Nat) (hn : s 0 = nI n) (hn9 : n ≤ 9) (z y : Int32) : GM l D cy Z yX7_told (zW yX7_told cX7_told 3 (some .int)) { frames := 4, cells := 0, slots := 0, locals := 96 } [.ref (h0), .int (z), .int (y)] (C v s r x) (fun res w2 => res = some (.int (toldP s nt n z y)) ∧ ∃ x2, w2 = C v s r x2) 0 0 := by
  refine g_entry (cc := cX7_told) (maxL := 3) (by decide) rfl (Nat.le_of_ble_eq_true rfl) ?_
  intro κ hN hX hR
  have hX : GX κ cy Z cX7_told (Cond.code yX7_told cX7_told 3 (some .int) :: zT) RX7 { frames := 4, cells := 0, slots := 0, locals := 96 } := hX
  show GW κ 0 0 _ 0 [(0, .ref (h0)), (1, .int (z)), (2, .int (y))] []
  refine g_aload_n hX 0 rfl rfl dX7_told_0 ?_
  refine g_iload_n hX 1 rfl rfl dX7_told_1 ?_
  refine m_callD hX hzo hC [.int (z)] [] (c_isHouseN _ _ _ _ hzo hC v s r x n hn (z)) kX7_isHouse tMet_X7_133 rfl rfl (Nat.le_of_ble_eq_true rfl) (Nat.le_of_ble_eq_true rfl) ⟨Nat.le_of_ble_eq_true rfl, Nat.le_of_ble_eq_true rfl⟩ rfl rfl (Nat.le_of_ble_eq_true rfl) dX7_told_2 ?_
  refine g_ifb_ne hX 11 (by decide) dX7_told_5 (fun c5 => ?_) (fun c5 => ?_)
  · obtain ⟨k, hk, rfl⟩ := hB_t (by omega) c5
    refine g_iload_n hX 2 rfl rfl dX7_told_11 ?_
    rcases sw_in (y) 0 10 (by decide) with w12 | ⟨j12, w12a, w12b, w12⟩
    · refine g_tableOut hX 113 w12 (by decide) dX7_told_12 ?_
      refine g_ldc hX (v := -1000000001) (zu tCon_X7_100 rfl) dX7_told_113 ?_
      have E : toldP s nt n (nI k) y = (-1000000001) := by rw [toldP, hIx_k (by omega) hk]; show (if _ then _ else _) = _; rw [if_neg (sw_out w12 0 (by decide) (by decide) (by decide)), if_neg (sw_out w12 1 (by decide) (by decide) (by decide)), if_neg (sw_out w12 2 (by decide) (by decide) (by decide)), if_neg (sw_out w12 3 (by decide) (by decide) (by decide)), if_neg (sw_out w12 4 (by decide) (by decide) (by decide)), if_neg (sw_out w12 5 (by decide) (by decide) (by decide)), if_neg (sw_out w12 6 (by decide) (by decide) (by decide)), if_neg (sw_out w12 7 (by decide) (by decide) (by decide)), if_neg (sw_out w12 8 (by decide) (by decide) (by decide)), if_neg (sw_out w12 9 (by decide) (by decide) (by decide)), if_neg (sw_out w12 10 (by decide) (by decide) (by decide))]
      exact g_retiP hR ⟨by rw [E], x, rfl⟩ dX7_told_115
    · have hj : j12 = 0 ∨ j12 = 1 ∨ j12 = 2 ∨ j12 = 3 ∨ j12 = 4 ∨ j12 = 5 ∨ j12 = 6 ∨ j12 = 7 ∨ j12 = 8 ∨ j12 = 9 ∨ j12 = 10 := by omega
      rcases hj with rfl | rfl | rfl | rfl | rfl | rfl | rfl | rfl | rfl | rfl | rfl
      · subst w12
        refine g_tableIn hX 72 (by decide) (by decide) rfl (by decide) dX7_told_12 ?_
        refine g_aload_n hX 0 rfl rfl dX7_told_72 ?_
        refine g_iload_n hX 1 rfl rfl dX7_told_73 ?_
        refine g_iload_n hX 2 rfl rfl dX7_told_74 ?_
        refine m_callD hX hzo hC [.int (nI (k)), .int (nI (0))] [] (c_of _ _ _ _ hzo hC v s r x (k) (0) (by omega)) kX7_of tMet_X7_75 rfl rfl (Nat.le_of_ble_eq_true rfl) (Nat.le_of_ble_eq_true rfl) ⟨Nat.le_of_ble_eq_true rfl, Nat.le_of_ble_eq_true rfl⟩ rfl rfl (Nat.le_of_ble_eq_true rfl) dX7_told_75 ?_
        have E : toldP s nt n (nI k) (nI 0) = s (6 + 7 * (k) + (0)) := by rw [toldP, hIx_k (by omega) hk]; rfl
        exact g_retiP hR ⟨by rw [E], x, rfl⟩ dX7_told_78
      · subst w12
        refine g_tableIn hX 72 (by decide) (by decide) rfl (by decide) dX7_told_12 ?_
        refine g_aload_n hX 0 rfl rfl dX7_told_72 ?_
        refine g_iload_n hX 1 rfl rfl dX7_told_73 ?_
        refine g_iload_n hX 2 rfl rfl dX7_told_74 ?_
        refine m_callD hX hzo hC [.int (nI (k)), .int (nI (1))] [] (c_of _ _ _ _ hzo hC v s r x (k) (1) (by omega)) kX7_of tMet_X7_75 rfl rfl (Nat.le_of_ble_eq_true rfl) (Nat.le_of_ble_eq_true rfl) ⟨Nat.le_of_ble_eq_true rfl, Nat.le_of_ble_eq_true rfl⟩ rfl rfl (Nat.le_of_ble_eq_true rfl) dX7_told_75 ?_
        have E : toldP s nt n (nI k) (nI 1) = s (6 + 7 * (k) + (1)) := by rw [toldP, hIx_k (by omega) hk]; rfl
        exact g_retiP hR ⟨by rw [E], x, rfl⟩ dX7_told_78
      · subst w12
        refine g_tableIn hX 72 (by decide) (by decide) rfl (by decide) dX7_told_12 ?_
        refine g_aload_n hX 0 rfl rfl dX7_told_72 ?_
        refine g_iload_n hX 1 rfl rfl dX7_told_73 ?_
        refine g_iload_n hX 2 rfl rfl dX7_told_74 ?_
        refine m_callD hX hzo hC [.int (nI (k)), .int (nI (2))] [] (c_of _ _ _ _ hzo hC v s r x (k) (2) (by omega)) kX7_of tMet_X7_75 rfl rfl (Nat.le_of_ble_eq_true rfl) (Nat.le_of_ble_eq_true rfl) ⟨Nat.le_of_ble_eq_true rfl, Nat.le_of_ble_eq_true rfl⟩ rfl rfl (Nat.le_of_ble_eq_true rfl) dX7_told_75 ?_
        have E : toldP s nt n (nI k) (nI 2) = s (6 + 7 * (k) + (2)) := by rw [toldP, hIx_k (by omega) hk]; rfl
        exact g_retiP hR ⟨by rw [E], x, rfl⟩ dX7_told_78
      · subst w12
        refine g_tableIn hX 72 (by decide) (by decide) rfl (by decide) dX7_told_12 ?_
        refine g_aload_n hX 0 rfl rfl dX7_told_72 ?_
        refine g_iload_n hX 1 rfl rfl dX7_told_73 ?_
        refine g_iload_n hX 2 rfl rfl dX7_told_74 ?_
        refine m_callD hX hzo hC [.int (nI (k)), .int (nI (3))] [] (c_of _ _ _ _ hzo hC v s r x (k) (3) (by omega)) kX7_of tMet_X7_75 rfl rfl (Nat.le_of_ble_eq_true rfl) (Nat.le_of_ble_eq_true rfl) ⟨Nat.le_of_ble_eq_true rfl, Nat.le_of_ble_eq_true rfl⟩ rfl rfl (Nat.le_of_ble_eq_true rfl) dX7_told_75 ?_
        have E : toldP s nt n (nI k) (nI 3) = s (6 + 7 * (k) + (3)) := by rw [toldP, hIx_k (by omega) hk]; rfl
        exact g_retiP hR ⟨by rw [E], x, rfl⟩ dX7_told_78
      · subst w12
        refine g_tableIn hX 72 (by decide) (by decide) rfl (by decide) dX7_told_12 ?_
        refine g_aload_n hX 0 rfl rfl dX7_told_72 ?_
        refine g_iload_n hX 1 rfl rfl dX7_told_73 ?_
        refine g_iload_n hX 2 rfl rfl dX7_told_74 ?_
        refine m_callD hX hzo hC [.int (nI (k)), .int (nI (4))] [] (c_of _ _ _ _ hzo hC v s r x (k) (4) (by omega)) kX7_of tMet_X7_75 rfl rfl (Nat.le_of_ble_eq_true rfl) (Nat.le_of_ble_eq_true rfl) ⟨Nat.le_of_ble_eq_true rfl, Nat.le_of_ble_eq_true rfl⟩ rfl rfl (Nat.le_of_ble_eq_true rfl) dX7_told_75 ?_
        have E : toldP s nt n (nI k) (nI 4) = s (6 + 7 * (k) + (4)) := by rw [toldP, hIx_k (by omega) hk]; rfl
        exact g_retiP hR ⟨by rw [E], x, rfl⟩ dX7_told_78
      · subst w12
        refine g_tableIn hX 72 (by decide) (by decide) rfl (by decide) dX7_told_12 ?_
        refine g_aload_n hX 0 rfl rfl dX7_told_72 ?_
        refine g_iload_n hX 1 rfl rfl dX7_told_73 ?_
        refine g_iload_n hX 2 rfl rfl dX7_told_74 ?_
        refine m_callD hX hzo hC [.int (nI (k)), .int (nI (5))] [] (c_of _ _ _ _ hzo hC v s r x (k) (5) (by omega)) kX7_of tMet_X7_75 rfl rfl (Nat.le_of_ble_eq_true rfl) (Nat.le_of_ble_eq_true rfl) ⟨Nat.le_of_ble_eq_true rfl, Nat.le_of_ble_eq_true rfl⟩ rfl rfl (Nat.le_of_ble_eq_true rfl) dX7_told_75 ?_
        have E : toldP s nt n (nI k) (nI 5) = s (6 + 7 * (k) + (5)) := by rw [toldP, hIx_k (by omega) hk]; rfl
        exact g_retiP hR ⟨by rw [E], x, rfl⟩ dX7_told_78
      · subst w12
        refine g_tableIn hX 79 (by decide) (by decide) rfl (by decide) dX7_told_12 ?_
        refine g_iconst hX (v := nI 1) rfl dX7_told_79 ?_
        refine g_aload_n hX 0 rfl rfl dX7_told_80 ?_
        refine g_iload_n hX 1 rfl rfl dX7_told_81 ?_
        refine g_bipush hX (v := nI 6) (by decide) dX7_told_82 ?_
        refine m_callD hX hzo hC [.int (nI (k)), .int (nI (6))] [.int (nI (1))] (c_of _ _ _ _ hzo hC v s r x (k) (6) (by omega)) kX7_of tMet_X7_75 rfl rfl (Nat.le_of_ble_eq_true rfl) (Nat.le_of_ble_eq_true rfl) ⟨Nat.le_of_ble_eq_true rfl, Nat.le_of_ble_eq_true rfl⟩ rfl rfl (Nat.le_of_ble_eq_true rfl) dX7_told_84 ?_
        refine g_isub hX dX7_told_87 ?_
        have E : toldP s nt n (nI k) (nI 6) = (nI (1) - s (6 + 7 * (k) + (6))) := by rw [toldP, hIx_k (by omega) hk]; rfl
        exact g_retiP hR ⟨by rw [E], x, rfl⟩ dX7_told_88
      · subst w12
        refine g_tableIn hX 89 (by decide) (by decide) rfl (by decide) dX7_told_12 ?_
        refine g_aload_n hX 0 rfl rfl dX7_told_89 ?_
        refine g_iload_n hX 1 rfl rfl dX7_told_90 ?_
        refine m_call hX hzo hC [.int (nI (k))] [] (c_pushes _ _ _ _ hzo hC v s r x nt hnt hnt14 htx (k) (by omega)) kX7_pushes tMet_X7_130 rfl rfl (Nat.le_of_ble_eq_true rfl) (Nat.le_of_ble_eq_true rfl) ⟨Nat.le_of_ble_eq_true rfl, Nat.le_of_ble_eq_true rfl⟩ rfl (Nat.le_of_ble_eq_true rfl) dX7_told_91 ?_
        rintro _ _ ⟨rfl, x91, k91, rfl⟩
        show GW κ 0 0 _ 94 [(0, .ref (h0)), (1, .int (nI (k))), (2, .int (nI (7)))] [.int ((puS s nt (k)))]
        have E : toldP s nt n (nI k) (nI 7) = (puS s nt (k)) := by rw [toldP, hIx_k (by omega) hk]; rfl
        exact g_retiP hR ⟨by rw [E], x91, rfl⟩ dX7_told_94
      · subst w12
        refine g_tableIn hX 95 (by decide) (by decide) rfl (by decide) dX7_told_12 ?_
        refine g_aload_n hX 0 rfl rfl dX7_told_95 ?_
        refine g_iload_n hX 1 rfl rfl dX7_told_96 ?_
        refine m_callD hX hzo hC [.int (nI (k))] [] (c_bears _ _ _ _ hzo hC v s r x (k) (by omega)) kX7_bears tMet_X7_136 rfl rfl (Nat.le_of_ble_eq_true rfl) (Nat.le_of_ble_eq_true rfl) ⟨Nat.le_of_ble_eq_true rfl, Nat.le_of_ble_eq_true rfl⟩ rfl rfl (Nat.le_of_ble_eq_true rfl) dX7_told_97 ?_
        have E : toldP s nt n (nI k) (nI 8) = (brs s (k)) := by rw [toldP, hIx_k (by omega) hk]; rfl
        exact g_retiP hR ⟨by rw [E], x, rfl⟩ dX7_told_100
      · subst w12
        refine g_tableIn hX 101 (by decide) (by decide) rfl (by decide) dX7_told_12 ?_
        refine g_aload_n hX 0 rfl rfl dX7_told_101 ?_
        refine g_iload_n hX 1 rfl rfl dX7_told_102 ?_
        refine m_call hX hzo hC [.int (nI (k))] [] (c_thrust _ _ _ _ hzo hC v s r x nt hnt hnt14 htx n hn hn9 (k) (by omega)) kX7_thrust tMet_X7_139 rfl rfl (Nat.le_of_ble_eq_true rfl) (Nat.le_of_ble_eq_true rfl) ⟨Nat.le_of_ble_eq_true rfl, Nat.le_of_ble_eq_true rfl⟩ rfl (Nat.le_of_ble_eq_true rfl) dX7_told_103 ?_
        rintro _ _ ⟨rfl, x103, k103, rfl⟩
        show GW κ 0 0 _ 106 [(0, .ref (h0)), (1, .int (nI (k))), (2, .int (nI (9)))] [.int ((thS s nt n (k)))]
        have E : toldP s nt n (nI k) (nI 9) = (thS s nt n (k)) := by rw [toldP, hIx_k (by omega) hk]; rfl
        exact g_retiP hR ⟨by rw [E], x103, rfl⟩ dX7_told_106
      · subst w12
        refine g_tableIn hX 107 (by decide) (by decide) rfl (by decide) dX7_told_12 ?_
        refine g_aload_n hX 0 rfl rfl dX7_told_107 ?_
        refine g_iload_n hX 1 rfl rfl dX7_told_108 ?_
        refine m_callD hX hzo hC [.int (nI (k))] [] (c_worth _ _ _ _ hzo hC v s r x (k) (by omega)) kX7_worth tMet_X7_142 rfl rfl (Nat.le_of_ble_eq_true rfl) (Nat.le_of_ble_eq_true rfl) ⟨Nat.le_of_ble_eq_true rfl, Nat.le_of_ble_eq_true rfl⟩ rfl rfl (Nat.le_of_ble_eq_true rfl) dX7_told_109 ?_
        have E : toldP s nt n (nI k) (nI 10) = (wth s (k)) := by rw [toldP, hIx_k (by omega) hk]; rfl
        exact g_retiP hR ⟨by rw [E], x, rfl⟩ dX7_told_112
  · refine g_ldc hX (v := -1000000001) (zu tCon_X7_100 rfl) dX7_told_8 ?_
    have E : toldP s nt n z y = (-1000000001) := by rw [toldP, hIx_f c5]
    exact g_retiP hR ⟨by rw [E], x, rfl⟩ dX7_told_10
def asP (s : Nat → Int32) (n : Nat) (z y : Int32) : Int32 := match hIx n z with
  | none => -1000000001
  | some k => if inB y 0 5 then (if isOfB (s (6 + 7 * k + 0)) y then s (6 + 7 * k + 3) else -1000000012) else -1000000001
theorem kX7_as : mKV RX7 yX7_as cX7_as 3 (some .int) 2 := ⟨tIns_X7_as, tSel_X7_as, tIni_X7, tCod_X7_as, by decide +kernel⟩
set_option maxHeartbeats 4000000 in
set_option maxRecDepth 100000 in
theorem c_as (l : Launch) (D : va_G) (cy : Nat → ClassId) (Z : (Nat → Prop) → State → Heap → Prop) (hzo : zOK Z) {h0 : Nat} {a q : Nat → Nat} {C : (Nat → Int32) → (Nat → Int32) → (Nat → Nat → Int32) → (Nat → Nat → Int32) → va_W} (hC : mLens (cy 0) h0 a q C) (v s : Nat → Int32) (r x : Nat → Nat → Int32) (n : Nat) (hn : s 0 = nI n) (hn9 : n ≤ 9) (z y : Int32) : GM l D cy Z yX7_as (zW yX7_as cX7_as 3 (some .int)) { frames := 2, cells := 0, slots := 0, locals := 46 } [.ref (h0), .int (z), .int (y)] (C v s r x) (fun res w2 => res = some (.int (asP s n z y)) ∧ ∃ x2, w2 = C v s r x2) 0 0 := by
  refine g_entry (cc := cX7_as) (maxL := 3) (by decide) rfl (Nat.le_of_ble_eq_true rfl) ?_
  intro κ hN hX hR
  have hX : GX κ cy Z cX7_as (Cond.code yX7_as cX7_as 3 (some .int) :: zT) RX7 { frames := 2, cells := 0, slots := 0, locals := 46 } := hX
  show GW κ 0 0 _ 0 [(0, .ref (h0)), (1, .int (z)), (2, .int (y))] []
  refine g_aload_n hX 0 rfl rfl dX7_as_0 ?_
  refine g_iload_n hX 1 rfl rfl dX7_as_1 ?_
  refine m_callD hX hzo hC [.int (z)] [] (c_isHouseN _ _ _ _ hzo hC v s r x n hn (z)) kX7_isHouse tMet_X7_133 rfl rfl (Nat.le_of_ble_eq_true rfl) (Nat.le_of_ble_eq_true rfl) ⟨Nat.le_of_ble_eq_true rfl, Nat.le_of_ble_eq_true rfl⟩ rfl rfl (Nat.le_of_ble_eq_true rfl) dX7_as_2 ?_
  refine g_ifb_eq hX 20 (by decide) dX7_as_5 (fun c5 => ?_) (fun c5 => ?_)
  · refine g_ldc hX (v := -1000000001) (zu tCon_X7_100 rfl) dX7_as_20 ?_
    have E : asP s n z y = (-1000000001) := by rw [asP, hIx_f c5]
    exact g_retiP hR ⟨by rw [E], x, rfl⟩ dX7_as_22
  · obtain ⟨k, hk, rfl⟩ := hB_t (by omega) c5
    refine g_iload_n hX 2 rfl rfl dX7_as_8 ?_
    refine g_i2l hX dX7_as_9 ?_
    refine g_lconst hX (v := Int32.toInt64 (0)) (by decide) dX7_as_10 ?_
    refine g_ldc2 hX (v := Int32.toInt64 (5)) (zu tCoL_X7_94 rfl) dX7_as_11 ?_
    refine s_call hX hzo [.long (Int32.toInt64 (y)), .long (Int32.toInt64 ((0))), .long (Int32.toInt64 ((5)))] [] (c_isIn _ _ _ _ _ (y) ((0)) ((5))) kX7_isIn tMet_X7_71 rfl rfl (Nat.le_of_ble_eq_true rfl) (Nat.le_of_ble_eq_true rfl) ⟨Nat.le_of_ble_eq_true rfl, Nat.le_of_ble_eq_true rfl⟩ rfl rfl (Nat.le_of_ble_eq_true rfl) dX7_as_14 ?_
    refine g_ifb_ne hX 23 (by decide) dX7_as_17 (fun c17 => ?_) (fun c17 => ?_)
    · refine g_aload_n hX 0 rfl rfl dX7_as_23 ?_
      refine g_iload_n hX 1 rfl rfl dX7_as_24 ?_
      refine g_iconst hX (v := nI 0) rfl dX7_as_25 ?_
      refine m_callD hX hzo hC [.int (nI (k)), .int (nI (0))] [] (c_of _ _ _ _ hzo hC v s r x (k) (0) (by omega)) kX7_of tMet_X7_75 rfl rfl (Nat.le_of_ble_eq_true rfl) (Nat.le_of_ble_eq_true rfl) ⟨Nat.le_of_ble_eq_true rfl, Nat.le_of_ble_eq_true rfl⟩ rfl rfl (Nat.le_of_ble_eq_true rfl) dX7_as_26 ?_
      refine g_iload_n hX 2 rfl rfl dX7_as_29 ?_
      refine s_call hX hzo [.int (s (6 + 7 * (k) + (0))), .int (y)] [] (c_isOf _ _ _ _ _ (s (6 + 7 * (k) + (0))) (y)) kX7_isOf tMet_X7_145 rfl rfl (Nat.le_of_ble_eq_true rfl) (Nat.le_of_ble_eq_true rfl) ⟨Nat.le_of_ble_eq_true rfl, Nat.le_of_ble_eq_true rfl⟩ rfl rfl (Nat.le_of_ble_eq_true rfl) dX7_as_30 ?_
      refine g_ifb_eq hX 45 (by decide) dX7_as_33 (fun c33 => ?_) (fun c33 => ?_)
      · refine g_ldc hX (v := -1000000012) (zu tCon_X7_148 rfl) dX7_as_45 ?_
        have E : asP s n (nI k) y = (-1000000012) := by rw [asP, hIx_k (by omega) hk]; show (if _ then _ else _) = _; rw [if_pos c17, if_neg (bne c33)]
        exact g_retiP hR ⟨by rw [E], x, rfl⟩ dX7_as_47
      · refine g_aload_n hX 0 rfl rfl dX7_as_36 ?_
        refine g_iload_n hX 1 rfl rfl dX7_as_37 ?_
        refine g_iconst hX (v := nI 3) rfl dX7_as_38 ?_
        refine m_callD hX hzo hC [.int (nI (k)), .int (nI (3))] [] (c_of _ _ _ _ hzo hC v s r x (k) (3) (by omega)) kX7_of tMet_X7_75 rfl rfl (Nat.le_of_ble_eq_true rfl) (Nat.le_of_ble_eq_true rfl) ⟨Nat.le_of_ble_eq_true rfl, Nat.le_of_ble_eq_true rfl⟩ rfl rfl (Nat.le_of_ble_eq_true rfl) dX7_as_39 ?_
        refine g_goto hX 47 (by decide) dX7_as_42 ?_
        have E : asP s n (nI k) y = s (6 + 7 * (k) + (3)) := by rw [asP, hIx_k (by omega) hk]; show (if _ then _ else _) = _; rw [if_pos c17, if_pos c33]
        exact g_retiP hR ⟨by rw [E], x, rfl⟩ dX7_as_47
    · refine g_ldc hX (v := -1000000001) (zu tCon_X7_100 rfl) dX7_as_20 ?_
      have E : asP s n (nI k) y = (-1000000001) := by rw [asP, hIx_k (by omega) hk]; show (if _ then _ else _) = _; rw [if_neg (bne c17)]
      exact g_retiP hR ⟨by rw [E], x, rfl⟩ dX7_as_22
def turnsP (s : Nat → Int32) (n : Nat) (z y : Int32) : Int32 × (Nat → Int32) := match hIx n z with
  | none => (-1000000001, s)
  | some k => if inB y 0 5 then (s (6 + 7 * k), upd s (6 + 7 * k) y) else (-1000000001, s)
theorem kX7_turns : mKV RX7 yX7_turns cX7_turns 3 (some .int) 2 := ⟨tIns_X7_turns, tSel_X7_turns, tIni_X7, tCod_X7_turns, by decide +kernel⟩
set_option maxHeartbeats 4000000 in
set_option maxRecDepth 100000 in
theorem c_turns (l : Launch) (D : va_G) (cy : Nat → ClassId) (Z : (Nat → Prop) → State → Heap → Prop) (hzo : zOK Z) {h0 : Nat} {a q : Nat → Nat} {C : (Nat → Int32) → (Nat → Int32) → (Nat → Nat → Int32) → (Nat → Nat → Int32) → va_W} (hC : mLens (cy 0) h0 a q C) (v s : Nat → Int32) (r x : Nat → Nat → Int32) (n : Nat) (hn : s 0 = nI n) (hn9 : n ≤ 9) (z y : Int32) : GM l D cy Z yX7_turns (zW yX7_turns cX7_turns 3 (some .int)) { frames := 2, cells := 0, slots := 0, locals := 46 } [.ref (h0), .int (z), .int (y)] (C v s r x) (fun res w2 => res = some (.int (turnsP s n z y).1) ∧ ∃ x2, w2 = C v (turnsP s n z y).2 r x2) 0 0 := by
  refine g_entry (cc := cX7_turns) (maxL := 3) (by decide) rfl (Nat.le_of_ble_eq_true rfl) ?_
  intro κ hN hX hR
  have hX : GX κ cy Z cX7_turns (Cond.code yX7_turns cX7_turns 3 (some .int) :: zT) RX7 { frames := 2, cells := 0, slots := 0, locals := 46 } := hX
  show GW κ 0 0 _ 0 [(0, .ref (h0)), (1, .int (z)), (2, .int (y))] []
  refine g_aload_n hX 0 rfl rfl dX7_turns_0 ?_
  refine g_iload_n hX 1 rfl rfl dX7_turns_1 ?_
  refine m_callD hX hzo hC [.int (z)] [] (c_isHouseN _ _ _ _ hzo hC v s r x n hn (z)) kX7_isHouse tMet_X7_133 rfl rfl (Nat.le_of_ble_eq_true rfl) (Nat.le_of_ble_eq_true rfl) ⟨Nat.le_of_ble_eq_true rfl, Nat.le_of_ble_eq_true rfl⟩ rfl rfl (Nat.le_of_ble_eq_true rfl) dX7_turns_2 ?_
  refine g_ifb_eq hX 35 (by decide) dX7_turns_5 (fun c5 => ?_) (fun c5 => ?_)
  · refine g_ldc hX (v := -1000000001) (zu tCon_X7_100 rfl) dX7_turns_35 ?_
    have E : turnsP s n z y = ((-1000000001), s) := by rw [turnsP, hIx_f c5]
    exact g_retiP hR ⟨by rw [E], x, by rw [E]⟩ dX7_turns_37
  · obtain ⟨k, hk, rfl⟩ := hB_t (by omega) c5
    refine g_iload_n hX 2 rfl rfl dX7_turns_8 ?_
    refine g_i2l hX dX7_turns_9 ?_
    refine g_lconst hX (v := Int32.toInt64 (0)) (by decide) dX7_turns_10 ?_
    refine g_ldc2 hX (v := Int32.toInt64 (5)) (zu tCoL_X7_94 rfl) dX7_turns_11 ?_
    refine s_call hX hzo [.long (Int32.toInt64 (y)), .long (Int32.toInt64 ((0))), .long (Int32.toInt64 ((5)))] [] (c_isIn _ _ _ _ _ (y) ((0)) ((5))) kX7_isIn tMet_X7_71 rfl rfl (Nat.le_of_ble_eq_true rfl) (Nat.le_of_ble_eq_true rfl) ⟨Nat.le_of_ble_eq_true rfl, Nat.le_of_ble_eq_true rfl⟩ rfl rfl (Nat.le_of_ble_eq_true rfl) dX7_turns_14 ?_
    refine g_ifb_eq hX 35 (by decide) dX7_turns_17 (fun c17 => ?_) (fun c17 => ?_)
    · refine g_ldc hX (v := -1000000001) (zu tCon_X7_100 rfl) dX7_turns_35 ?_
      have E : turnsP s n (nI k) y = ((-1000000001), s) := by rw [turnsP, hIx_k (by omega) hk]; show (if _ then _ else _) = _; rw [if_neg (bne c17)]
      exact g_retiP hR ⟨by rw [E], x, by rw [E]⟩ dX7_turns_37
    · refine g_aload_n hX 0 rfl rfl dX7_turns_20 ?_
      refine g_bipush hX (v := nI 6) (by decide) dX7_turns_21 ?_
      refine g_bipush hX (v := nI 7) (by decide) dX7_turns_23 ?_
      refine g_iload_n hX 1 rfl rfl dX7_turns_25 ?_
      refine g_imulN hX dX7_turns_26 ?_
      refine g_iaddN hX dX7_turns_27 ?_
      refine g_iload_n hX 2 rfl rfl dX7_turns_28 ?_
      refine m_callD hX hzo hC [.int (nI ((6 + (7 * k)))), .int (y)] [] (c_becomes _ _ _ _ hzo hC v s r x ((6 + (7 * k))) (by omega) (y)) kX7_becomes tMet_X7_149 rfl rfl (Nat.le_of_ble_eq_true rfl) (Nat.le_of_ble_eq_true rfl) ⟨Nat.le_of_ble_eq_true rfl, Nat.le_of_ble_eq_true rfl⟩ rfl rfl (Nat.le_of_ble_eq_true rfl) dX7_turns_29 ?_
      refine g_goto hX 37 (by decide) dX7_turns_32 ?_
      have E : turnsP s n (nI k) y = ((s ((6 + (7 * k)))), (upd s ((6 + (7 * k))) (y))) := by rw [turnsP, hIx_k (by omega) hk]; show (if _ then _ else _) = _; rw [if_pos c17]
      exact g_retiP hR ⟨by rw [E], x, by rw [E]⟩ dX7_turns_37
def setP (s : Nat → Int32) (n : Nat) (z y u : Int32) : Int32 × (Nat → Int32) := match hIx n z with
  | none => (-1000000001, s)
  | some k => if mayB y u then (s (6 + 7 * k + y.toNatClampNeg), upd s (6 + 7 * k + y.toNatClampNeg) u) else (-1000000001, s)
theorem kX7_set : mKV RX7 yX7_set cX7_set 4 (some .int) 3 := ⟨tIns_X7_set, tSel_X7_set, tIni_X7, tCod_X7_set, by decide +kernel⟩
set_option maxHeartbeats 4000000 in
set_option maxRecDepth 100000 in
theorem c_set (l : Launch) (D : va_G) (cy : Nat → ClassId) (Z : (Nat → Prop) → State → Heap → Prop) (hzo : zOK Z) {h0 : Nat} {a q : Nat → Nat} {C : (Nat → Int32) → (Nat → Int32) → (Nat → Nat → Int32) → (Nat → Nat → Int32) → va_W} (hC : mLens (cy 0) h0 a q C) (v s : Nat → Int32) (r x : Nat → Nat → Int32) (n : Nat) (hn : s 0 = nI n) (hn9 : n ≤ 9) (z y u : Int32) : GM l D cy Z yX7_set (zW yX7_set cX7_set 4 (some .int)) { frames := 2, cells := 0, slots := 0, locals := 46 } [.ref (h0), .int (z), .int (y), .int (u)] (C v s r x) (fun res w2 => res = some (.int (setP s n z y u).1) ∧ ∃ x2, w2 = C v (setP s n z y u).2 r x2) 0 0 := by
  refine g_entry (cc := cX7_set) (maxL := 4) (by decide) rfl (Nat.le_of_ble_eq_true rfl) ?_
  intro κ hN hX hR
  have hX : GX κ cy Z cX7_set (Cond.code yX7_set cX7_set 4 (some .int) :: zT) RX7 { frames := 2, cells := 0, slots := 0, locals := 46 } := hX
  show GW κ 0 0 _ 0 [(0, .ref (h0)), (1, .int (z)), (2, .int (y)), (3, .int (u))] []
  refine g_aload_n hX 0 rfl rfl dX7_set_0 ?_
  refine g_iload_n hX 1 rfl rfl dX7_set_1 ?_
  refine m_callD hX hzo hC [.int (z)] [] (c_isHouseN _ _ _ _ hzo hC v s r x n hn (z)) kX7_isHouse tMet_X7_133 rfl rfl (Nat.le_of_ble_eq_true rfl) (Nat.le_of_ble_eq_true rfl) ⟨Nat.le_of_ble_eq_true rfl, Nat.le_of_ble_eq_true rfl⟩ rfl rfl (Nat.le_of_ble_eq_true rfl) dX7_set_2 ?_
  refine g_ifb_eq hX 33 (by decide) dX7_set_5 (fun c5 => ?_) (fun c5 => ?_)
  · refine g_ldc hX (v := -1000000001) (zu tCon_X7_100 rfl) dX7_set_33 ?_
    have E : setP s n z y u = ((-1000000001), s) := by rw [setP, hIx_f c5]
    exact g_retiP hR ⟨by rw [E], x, by rw [E]⟩ dX7_set_35
  · obtain ⟨k, hk, rfl⟩ := hB_t (by omega) c5
    refine g_iload_n hX 2 rfl rfl dX7_set_8 ?_
    refine g_iload_n hX 3 rfl rfl dX7_set_9 ?_
    refine s_call hX hzo [.int (y), .int (u)] [] (c_mayBe _ _ _ _ hzo _ (y) (u)) kX7_mayBe tMet_X7_96 rfl rfl (Nat.le_of_ble_eq_true rfl) (Nat.le_of_ble_eq_true rfl) ⟨Nat.le_of_ble_eq_true rfl, Nat.le_of_ble_eq_true rfl⟩ rfl rfl (Nat.le_of_ble_eq_true rfl) dX7_set_10 ?_
    refine g_ifb_eq hX 33 (by decide) dX7_set_13 (fun c13 => ?_) (fun c13 => ?_)
    · refine g_ldc hX (v := -1000000001) (zu tCon_X7_100 rfl) dX7_set_33 ?_
      have E : setP s n (nI k) y u = ((-1000000001), s) := by rw [setP, hIx_k (by omega) hk]; show (if _ then _ else _) = _; rw [if_neg (bne c13)]
      exact g_retiP hR ⟨by rw [E], x, by rw [E]⟩ dX7_set_35
    · obtain ⟨m, hm1, hm5, rfl⟩ := mayB_t c13
      refine g_aload_n hX 0 rfl rfl dX7_set_16 ?_
      refine g_bipush hX (v := nI 6) (by decide) dX7_set_17 ?_
      refine g_bipush hX (v := nI 7) (by decide) dX7_set_19 ?_
      refine g_iload_n hX 1 rfl rfl dX7_set_21 ?_
      refine g_imulN hX dX7_set_22 ?_
      refine g_iaddN hX dX7_set_23 ?_
      refine g_iload_n hX 2 rfl rfl dX7_set_24 ?_
      refine g_iaddN hX dX7_set_25 ?_
      refine g_iload_n hX 3 rfl rfl dX7_set_26 ?_
      refine m_callD hX hzo hC [.int (nI (((6 + (7 * k)) + m))), .int (u)] [] (c_becomes _ _ _ _ hzo hC v s r x (((6 + (7 * k)) + m)) (by omega) (u)) kX7_becomes tMet_X7_149 rfl rfl (Nat.le_of_ble_eq_true rfl) (Nat.le_of_ble_eq_true rfl) ⟨Nat.le_of_ble_eq_true rfl, Nat.le_of_ble_eq_true rfl⟩ rfl rfl (Nat.le_of_ble_eq_true rfl) dX7_set_27 ?_
      refine g_goto hX 35 (by decide) dX7_set_30 ?_
      have E : setP s n (nI k) (nI m) u = ((s (((6 + (7 * k)) + m))), (upd s (((6 + (7 * k)) + m)) (u))) := by rw [setP, hIx_k (by omega) hk]; show (if _ then _ else _) = _; rw [if_pos c13, nI_clamp (by omega)]
      exact g_retiP hR ⟨by rw [E], x, by rw [E]⟩ dX7_set_35
def fellsP (s : Nat → Int32) (n : Nat) (z : Int32) : Int32 × (Nat → Int32) := match hIx n z with
  | none => (-1000000001, s)
  | some k => if sd s k then (nI (cntS (fallS s k) n), fallS s k) else (-1000000002, s)
def riseS (s : Nat → Int32) (k : Nat) : Nat → Int32 := upd (upd (upd s (6 + 7 * k + 6) (nI 0)) (6 + 7 * k + 2) (nI 0)) (6 + 7 * k + 4) (nI 0)
def raisesP (s : Nat → Int32) (n : Nat) (z : Int32) : Int32 × (Nat → Int32) := match hIx n z with
  | none => (-1000000001, s)
  | some k => if sd s k then (-1000000002, s) else (nI (cntS (riseS s k) n), riseS s k)
theorem kX7_fells : mKV RX7 yX7_fells cX7_fells 2 (some .int) 1 := ⟨tIns_X7_fells, tSel_X7_fells, tIni_X7, tCod_X7_fells, by decide +kernel⟩
set_option maxHeartbeats 4000000 in
set_option maxRecDepth 100000 in
theorem c_fells (l : Launch) (D : va_G) (cy : Nat → ClassId) (Z : (Nat → Prop) → State → Heap → Prop) (hzo : zOK Z) {h0 : Nat} {a q : Nat → Nat} {C : (Nat → Int32) → (Nat → Int32) → (Nat → Nat → Int32) → (Nat → Nat → Int32) → va_W} (hC : mLens (cy 0) h0 a q C) (v s : Nat → Int32) (r x : Nat → Nat → Int32) (n : Nat) (hn : s 0 = nI n) (hn9 : n ≤ 9) (z : Int32) : GM l D cy Z yX7_fells (zW yX7_fells cX7_fells 2 (some .int)) { frames := 3, cells := 0, slots := 0, locals := 65 } [.ref (h0), .int (z)] (C v s r x) (fun res w2 => res = some (.int (fellsP s n z).1) ∧ ∃ x2, w2 = C v (fellsP s n z).2 r x2) 0 0 := by
  refine g_entry (cc := cX7_fells) (maxL := 2) (by decide) rfl (Nat.le_of_ble_eq_true rfl) ?_
  intro κ hN hX hR
  have hX : GX κ cy Z cX7_fells (Cond.code yX7_fells cX7_fells 2 (some .int) :: zT) RX7 { frames := 3, cells := 0, slots := 0, locals := 65 } := hX
  show GW κ 0 0 _ 0 [(0, .ref (h0)), (1, .int (z))] []
  refine g_aload_n hX 0 rfl rfl dX7_fells_0 ?_
  refine g_iload_n hX 1 rfl rfl dX7_fells_1 ?_
  refine m_callD hX hzo hC [.int (z)] [] (c_isHouseN _ _ _ _ hzo hC v s r x n hn (z)) kX7_isHouse tMet_X7_133 rfl rfl (Nat.le_of_ble_eq_true rfl) (Nat.le_of_ble_eq_true rfl) ⟨Nat.le_of_ble_eq_true rfl, Nat.le_of_ble_eq_true rfl⟩ rfl rfl (Nat.le_of_ble_eq_true rfl) dX7_fells_2 ?_
  refine g_ifb_ne hX 11 (by decide) dX7_fells_5 (fun c5 => ?_) (fun c5 => ?_)
  · obtain ⟨k, hk, rfl⟩ := hB_t (by omega) c5
    refine g_aload_n hX 0 rfl rfl dX7_fells_11 ?_
    refine g_iload_n hX 1 rfl rfl dX7_fells_12 ?_
    refine m_callD hX hzo hC [.int (nI (k))] [] (c_stands _ _ _ _ hzo hC v s r x (k) (by omega)) kX7_stands tMet_X7_119 rfl rfl (Nat.le_of_ble_eq_true rfl) (Nat.le_of_ble_eq_true rfl) ⟨Nat.le_of_ble_eq_true rfl, Nat.le_of_ble_eq_true rfl⟩ rfl rfl (Nat.le_of_ble_eq_true rfl) dX7_fells_13 ?_
    refine g_ifb_ne hX 22 (by decide) dX7_fells_16 (fun c16 => ?_) (fun c16 => ?_)
    · refine g_aload_n hX 0 rfl rfl dX7_fells_22 ?_
      refine g_iload_n hX 1 rfl rfl dX7_fells_23 ?_
      refine m_callD hX hzo hC [.int (nI (k))] [] (c_falls _ _ _ _ hzo hC v s r x (k) (by omega)) kX7_falls tMet_X7_153 rfl rfl (Nat.le_of_ble_eq_true rfl) (Nat.le_of_ble_eq_true rfl) ⟨Nat.le_of_ble_eq_true rfl, Nat.le_of_ble_eq_true rfl⟩ rfl rfl (Nat.le_of_ble_eq_true rfl) dX7_fells_24 ?_
      refine g_aload_n hX 0 rfl rfl dX7_fells_27 ?_
      refine m_callD hX hzo hC [] [] (c_allStanding _ _ _ _ hzo hC v (fallS s (k)) r x n (show (fallS s k) 0 = nI n by rw [fallS_0 _ _ _ (by decide)]; exact hn) hn9) kX7_allStanding tMet_X7_123 rfl rfl (Nat.le_of_ble_eq_true rfl) (Nat.le_of_ble_eq_true rfl) ⟨Nat.le_of_ble_eq_true rfl, Nat.le_of_ble_eq_true rfl⟩ rfl rfl (Nat.le_of_ble_eq_true rfl) dX7_fells_28 ?_
      refine g_top (y := .int (nI (maskN (sd (fallS s (k))) n))) (congrArg Value.int (mask_nI _ n (by omega))) ?_
      refine s_call hX hzo [.int (nI (maskN (sd (fallS s (k))) n))] [] (c_manyIn _ _ _ _ _ (maskN (sd (fallS s (k))) n) (maskN_512 _ hn9)) kX7_manyIn tMet_X7_157 rfl rfl (Nat.le_of_ble_eq_true rfl) (Nat.le_of_ble_eq_true rfl) ⟨Nat.le_of_ble_eq_true rfl, Nat.le_of_ble_eq_true rfl⟩ rfl rfl (Nat.le_of_ble_eq_true rfl) dX7_fells_31 ?_
      have E : fellsP s n (nI k) = (nI (pcN (maskN (sd (fallS s (k))) n)), (fallS s (k))) := by rw [fellsP, hIx_k (by omega) hk]; show (if _ then _ else _) = _; rw [if_pos c16]; rfl
      exact g_retiP hR ⟨by rw [E], x, by rw [E]⟩ dX7_fells_34
    · refine g_ldc hX (v := -1000000002) (zu tCon_X7_152 rfl) dX7_fells_19 ?_
      have E : fellsP s n (nI k) = ((-1000000002), s) := by rw [fellsP, hIx_k (by omega) hk]; show (if _ then _ else _) = _; rw [if_neg (bne c16)]
      exact g_retiP hR ⟨by rw [E], x, by rw [E]⟩ dX7_fells_21
  · refine g_ldc hX (v := -1000000001) (zu tCon_X7_100 rfl) dX7_fells_8 ?_
    have E : fellsP s n z = ((-1000000001), s) := by rw [fellsP, hIx_f c5]
    exact g_retiP hR ⟨by rw [E], x, by rw [E]⟩ dX7_fells_10
theorem kX7_raises : mKV RX7 yX7_raises cX7_raises 2 (some .int) 1 := ⟨tIns_X7_raises, tSel_X7_raises, tIni_X7, tCod_X7_raises, by decide +kernel⟩
set_option maxHeartbeats 4000000 in
set_option maxRecDepth 100000 in
theorem c_raises (l : Launch) (D : va_G) (cy : Nat → ClassId) (Z : (Nat → Prop) → State → Heap → Prop) (hzo : zOK Z) {h0 : Nat} {a q : Nat → Nat} {C : (Nat → Int32) → (Nat → Int32) → (Nat → Nat → Int32) → (Nat → Nat → Int32) → va_W} (hC : mLens (cy 0) h0 a q C) (v s : Nat → Int32) (r x : Nat → Nat → Int32) (n : Nat) (hn : s 0 = nI n) (hn9 : n ≤ 9) (z : Int32) : GM l D cy Z yX7_raises (zW yX7_raises cX7_raises 2 (some .int)) { frames := 3, cells := 0, slots := 0, locals := 65 } [.ref (h0), .int (z)] (C v s r x) (fun res w2 => res = some (.int (raisesP s n z).1) ∧ ∃ x2, w2 = C v (raisesP s n z).2 r x2) 0 0 := by
  refine g_entry (cc := cX7_raises) (maxL := 2) (by decide) rfl (Nat.le_of_ble_eq_true rfl) ?_
  intro κ hN hX hR
  have hX : GX κ cy Z cX7_raises (Cond.code yX7_raises cX7_raises 2 (some .int) :: zT) RX7 { frames := 3, cells := 0, slots := 0, locals := 65 } := hX
  show GW κ 0 0 _ 0 [(0, .ref (h0)), (1, .int (z))] []
  refine g_aload_n hX 0 rfl rfl dX7_raises_0 ?_
  refine g_iload_n hX 1 rfl rfl dX7_raises_1 ?_
  refine m_callD hX hzo hC [.int (z)] [] (c_isHouseN _ _ _ _ hzo hC v s r x n hn (z)) kX7_isHouse tMet_X7_133 rfl rfl (Nat.le_of_ble_eq_true rfl) (Nat.le_of_ble_eq_true rfl) ⟨Nat.le_of_ble_eq_true rfl, Nat.le_of_ble_eq_true rfl⟩ rfl rfl (Nat.le_of_ble_eq_true rfl) dX7_raises_2 ?_
  refine g_ifb_ne hX 11 (by decide) dX7_raises_5 (fun c5 => ?_) (fun c5 => ?_)
  · obtain ⟨k, hk, rfl⟩ := hB_t (by omega) c5
    refine g_aload_n hX 0 rfl rfl dX7_raises_11 ?_
    refine g_iload_n hX 1 rfl rfl dX7_raises_12 ?_
    refine m_callD hX hzo hC [.int (nI (k))] [] (c_stands _ _ _ _ hzo hC v s r x (k) (by omega)) kX7_stands tMet_X7_119 rfl rfl (Nat.le_of_ble_eq_true rfl) (Nat.le_of_ble_eq_true rfl) ⟨Nat.le_of_ble_eq_true rfl, Nat.le_of_ble_eq_true rfl⟩ rfl rfl (Nat.le_of_ble_eq_true rfl) dX7_raises_13 ?_
    refine g_ifb_eq hX 22 (by decide) dX7_raises_16 (fun c16 => ?_) (fun c16 => ?_)
    · refine g_aload_n hX 0 rfl rfl dX7_raises_22 ?_
      refine g_iload_n hX 1 rfl rfl dX7_raises_23 ?_
      refine g_bipush hX (v := nI 6) (by decide) dX7_raises_24 ?_
      refine g_iconst hX (v := nI 0) rfl dX7_raises_26 ?_
      refine m_callD hX hzo hC [.int (nI (k)), .int (nI (6)), .int (nI (0))] [] (c_sets _ _ _ _ hzo hC v s r x (k) (6) (by omega) (nI (0))) kX7_sets tMet_X7_80 rfl rfl (Nat.le_of_ble_eq_true rfl) (Nat.le_of_ble_eq_true rfl) ⟨Nat.le_of_ble_eq_true rfl, Nat.le_of_ble_eq_true rfl⟩ rfl rfl (Nat.le_of_ble_eq_true rfl) dX7_raises_27 ?_
      refine g_aload_n hX 0 rfl rfl dX7_raises_30 ?_
      refine g_iload_n hX 1 rfl rfl dX7_raises_31 ?_
      refine g_iconst hX (v := nI 2) rfl dX7_raises_32 ?_
      refine g_iconst hX (v := nI 0) rfl dX7_raises_33 ?_
      refine m_callD hX hzo hC [.int (nI (k)), .int (nI (2)), .int (nI (0))] [] (c_sets _ _ _ _ hzo hC v (upd s (6 + 7 * (k) + (6)) (nI (0))) r x (k) (2) (by omega) (nI (0))) kX7_sets tMet_X7_80 rfl rfl (Nat.le_of_ble_eq_true rfl) (Nat.le_of_ble_eq_true rfl) ⟨Nat.le_of_ble_eq_true rfl, Nat.le_of_ble_eq_true rfl⟩ rfl rfl (Nat.le_of_ble_eq_true rfl) dX7_raises_34 ?_
      refine g_aload_n hX 0 rfl rfl dX7_raises_37 ?_
      refine g_iload_n hX 1 rfl rfl dX7_raises_38 ?_
      refine g_iconst hX (v := nI 4) rfl dX7_raises_39 ?_
      refine g_iconst hX (v := nI 0) rfl dX7_raises_40 ?_
      refine m_callD hX hzo hC [.int (nI (k)), .int (nI (4)), .int (nI (0))] [] (c_sets _ _ _ _ hzo hC v (upd (upd s (6 + 7 * (k) + (6)) (nI (0))) (6 + 7 * (k) + (2)) (nI (0))) r x (k) (4) (by omega) (nI (0))) kX7_sets tMet_X7_80 rfl rfl (Nat.le_of_ble_eq_true rfl) (Nat.le_of_ble_eq_true rfl) ⟨Nat.le_of_ble_eq_true rfl, Nat.le_of_ble_eq_true rfl⟩ rfl rfl (Nat.le_of_ble_eq_true rfl) dX7_raises_41 ?_
      refine g_aload_n hX 0 rfl rfl dX7_raises_44 ?_
      refine m_callD hX hzo hC [] [] (c_allStanding _ _ _ _ hzo hC v (upd (upd (upd s (6 + 7 * (k) + (6)) (nI (0))) (6 + 7 * (k) + (2)) (nI (0))) (6 + 7 * (k) + (4)) (nI (0))) r x n (show (riseS s k) 0 = nI n by rw [riseS, pk_un (by omega), pk_un (by omega), pk_un (by omega)]; exact hn) hn9) kX7_allStanding tMet_X7_123 rfl rfl (Nat.le_of_ble_eq_true rfl) (Nat.le_of_ble_eq_true rfl) ⟨Nat.le_of_ble_eq_true rfl, Nat.le_of_ble_eq_true rfl⟩ rfl rfl (Nat.le_of_ble_eq_true rfl) dX7_raises_45 ?_
      refine g_top (y := .int (nI (maskN (sd (upd (upd (upd s (6 + 7 * (k) + (6)) (nI (0))) (6 + 7 * (k) + (2)) (nI (0))) (6 + 7 * (k) + (4)) (nI (0)))) n))) (congrArg Value.int (mask_nI _ n (by omega))) ?_
      refine s_call hX hzo [.int (nI (maskN (sd (upd (upd (upd s (6 + 7 * (k) + (6)) (nI (0))) (6 + 7 * (k) + (2)) (nI (0))) (6 + 7 * (k) + (4)) (nI (0)))) n))] [] (c_manyIn _ _ _ _ _ (maskN (sd (upd (upd (upd s (6 + 7 * (k) + (6)) (nI (0))) (6 + 7 * (k) + (2)) (nI (0))) (6 + 7 * (k) + (4)) (nI (0)))) n) (maskN_512 _ hn9)) kX7_manyIn tMet_X7_157 rfl rfl (Nat.le_of_ble_eq_true rfl) (Nat.le_of_ble_eq_true rfl) ⟨Nat.le_of_ble_eq_true rfl, Nat.le_of_ble_eq_true rfl⟩ rfl rfl (Nat.le_of_ble_eq_true rfl) dX7_raises_48 ?_
      have E : raisesP s n (nI k) = (nI (pcN (maskN (sd (upd (upd (upd s (6 + 7 * (k) + (6)) (nI (0))) (6 + 7 * (k) + (2)) (nI (0))) (6 + 7 * (k) + (4)) (nI (0)))) n)), (upd (upd (upd s (6 + 7 * (k) + (6)) (nI (0))) (6 + 7 * (k) + (2)) (nI (0))) (6 + 7 * (k) + (4)) (nI (0)))) := by rw [raisesP, hIx_k (by omega) hk]; show (if _ then _ else _) = _; rw [if_neg (bne c16)]; rfl
      exact g_retiP hR ⟨by rw [E], x, by rw [E]⟩ dX7_raises_51
    · refine g_ldc hX (v := -1000000002) (zu tCon_X7_152 rfl) dX7_raises_19 ?_
      have E : raisesP s n (nI k) = ((-1000000002), s) := by rw [raisesP, hIx_k (by omega) hk]; show (if _ then _ else _) = _; rw [if_pos c16]
      exact g_retiP hR ⟨by rw [E], x, by rw [E]⟩ dX7_raises_21
  · refine g_ldc hX (v := -1000000001) (zu tCon_X7_100 rfl) dX7_raises_8 ?_
    have E : raisesP s n z = ((-1000000001), s) := by rw [raisesP, hIx_f c5]
    exact g_retiP hR ⟨by rw [E], x, by rw [E]⟩ dX7_raises_10
def snowP (s : Nat → Int32) (z : Int32) : Int32 × (Nat → Int32) := if inB z (-20) 20 then (s 4, upd s 4 z) else (-1000000001, s)
theorem kX7_snow : mKV RX7 yX7_snow cX7_snow 2 (some .int) 1 := ⟨tIns_X7_snow, tSel_X7_snow, tIni_X7, tCod_X7_snow, by decide +kernel⟩
set_option maxHeartbeats 4000000 in
set_option maxRecDepth 100000 in
theorem c_snow (l : Launch) (D : va_G) (cy : Nat → ClassId) (Z : (Nat → Prop) → State → Heap → Prop) (hzo : zOK Z) {h0 : Nat} {a q : Nat → Nat} {C : (Nat → Int32) → (Nat → Int32) → (Nat → Nat → Int32) → (Nat → Nat → Int32) → va_W} (hC : mLens (cy 0) h0 a q C) (v s : Nat → Int32) (r x : Nat → Nat → Int32) (z : Int32) : GM l D cy Z yX7_snow (zW yX7_snow cX7_snow 2 (some .int)) { frames := 1, cells := 0, slots := 0, locals := 25 } [.ref (h0), .int (z)] (C v s r x) (fun res w2 => res = some (.int (snowP s z).1) ∧ ∃ x2, w2 = C v (snowP s z).2 r x2) 0 0 := by
  refine g_entry (cc := cX7_snow) (maxL := 2) (by decide) rfl (Nat.le_of_ble_eq_true rfl) ?_
  intro κ hN hX hR
  have hX : GX κ cy Z cX7_snow (Cond.code yX7_snow cX7_snow 2 (some .int) :: zT) RX7 { frames := 1, cells := 0, slots := 0, locals := 25 } := hX
  show GW κ 0 0 _ 0 [(0, .ref (h0)), (1, .int (z))] []
  refine g_iload_n hX 1 rfl rfl dX7_snow_0 ?_
  refine g_i2l hX dX7_snow_1 ?_
  refine g_ldc2 hX (v := Int32.toInt64 (-20)) (zu tCoL_X7_160 rfl) dX7_snow_2 ?_
  refine g_ldc2 hX (v := Int32.toInt64 (20)) (zu tCoL_X7_162 rfl) dX7_snow_5 ?_
  refine s_call hX hzo [.long (Int32.toInt64 (z)), .long (Int32.toInt64 ((-20))), .long (Int32.toInt64 ((20)))] [] (c_isIn _ _ _ _ _ (z) ((-20)) ((20))) kX7_isIn tMet_X7_71 rfl rfl (Nat.le_of_ble_eq_true rfl) (Nat.le_of_ble_eq_true rfl) ⟨Nat.le_of_ble_eq_true rfl, Nat.le_of_ble_eq_true rfl⟩ rfl rfl (Nat.le_of_ble_eq_true rfl) dX7_snow_8 ?_
  refine g_ifb_eq hX 23 (by decide) dX7_snow_11 (fun c11 => ?_) (fun c11 => ?_)
  · refine g_ldc hX (v := -1000000001) (zu tCon_X7_100 rfl) dX7_snow_23 ?_
    have E : snowP s z = ((-1000000001), s) := by rw [snowP, if_neg (bne c11)]
    exact g_retiP hR ⟨by rw [E], x, by rw [E]⟩ dX7_snow_25
  · refine g_aload_n hX 0 rfl rfl dX7_snow_14 ?_
    refine g_iconst hX (v := nI 4) rfl dX7_snow_15 ?_
    refine g_iload_n hX 1 rfl rfl dX7_snow_16 ?_
    refine m_callD hX hzo hC [.int (nI (4)), .int (z)] [] (c_becomes _ _ _ _ hzo hC v s r x (4) (by omega) (z)) kX7_becomes tMet_X7_149 rfl rfl (Nat.le_of_ble_eq_true rfl) (Nat.le_of_ble_eq_true rfl) ⟨Nat.le_of_ble_eq_true rfl, Nat.le_of_ble_eq_true rfl⟩ rfl rfl (Nat.le_of_ble_eq_true rfl) dX7_snow_17 ?_
    refine g_goto hX 25 (by decide) dX7_snow_20 ?_
    have E : snowP s z = ((s (4)), (upd s (4) (z))) := by rw [snowP, if_pos c11]
    exact g_retiP hR ⟨by rw [E], x, by rw [E]⟩ dX7_snow_25
theorem kX7_seed : mKV RX7 yX7_seed cX7_seed 2 (some .int) 1 := ⟨tIns_X7_seed, tSel_X7_seed, tIni_X7, tCod_X7_seed, by decide +kernel⟩
set_option maxHeartbeats 4000000 in
set_option maxRecDepth 100000 in
theorem c_seed (l : Launch) (D : va_G) (cy : Nat → ClassId) (Z : (Nat → Prop) → State → Heap → Prop) (hzo : zOK Z) {h0 : Nat} {a q : Nat → Nat} {C : (Nat → Int32) → (Nat → Int32) → (Nat → Nat → Int32) → (Nat → Nat → Int32) → va_W} (hC : mLens (cy 0) h0 a q C) (v s : Nat → Int32) (r x : Nat → Nat → Int32) (z : Int32) : GM l D cy Z yX7_seed (zW yX7_seed cX7_seed 2 (some .int)) { frames := 1, cells := 0, slots := 0, locals := 23 } [.ref (h0), .int (z)] (C v s r x) (fun res w2 => res = some (.int (((s 5, upd s 5 z) : Int32 × (Nat → Int32))).1) ∧ ∃ x2, w2 = C v (((s 5, upd s 5 z) : Int32 × (Nat → Int32))).2 r x2) 0 0 := by
  refine g_entry (cc := cX7_seed) (maxL := 2) (by decide) rfl (Nat.le_of_ble_eq_true rfl) ?_
  intro κ hN hX hR
  have hX : GX κ cy Z cX7_seed (Cond.code yX7_seed cX7_seed 2 (some .int) :: zT) RX7 { frames := 1, cells := 0, slots := 0, locals := 23 } := hX
  show GW κ 0 0 _ 0 [(0, .ref (h0)), (1, .int (z))] []
  refine g_aload_n hX 0 rfl rfl dX7_seed_0 ?_
  refine g_iconst hX (v := nI 5) rfl dX7_seed_1 ?_
  refine g_iload_n hX 1 rfl rfl dX7_seed_2 ?_
  refine m_callD hX hzo hC [.int (nI (5)), .int (z)] [] (c_becomes _ _ _ _ hzo hC v s r x (5) (by omega) (z)) kX7_becomes tMet_X7_149 rfl rfl (Nat.le_of_ble_eq_true rfl) (Nat.le_of_ble_eq_true rfl) ⟨Nat.le_of_ble_eq_true rfl, Nat.le_of_ble_eq_true rfl⟩ rfl rfl (Nat.le_of_ble_eq_true rfl) dX7_seed_3 ?_
  have E : (s 5, upd s 5 z) = ((s (5)), (upd s (5) (z))) := by rfl
  exact g_retiP hR ⟨by rw [E], x, by rw [E]⟩ dX7_seed_6
