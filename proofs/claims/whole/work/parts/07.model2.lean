/-- what the parts 1 .. 5 of a house may be -/
def mayB (m z : Int32) : Bool := if m = nI 1 then inB z 1 99 else if m = nI 2 then inB z (-50) 50 else if m = nI 3 then inB z 0 99 else if m = nI 4 then inB z 0 999 else if m = nI 5 then inB z 0 9 else false
theorem kX7_mayBe : mKS yX7_mayBe cX7_mayBe 2 (some .boolean) 2 := ⟨tSta_X7_mayBe, tIni_X7, tCod_X7_mayBe, by decide +kernel⟩
set_option maxHeartbeats 4000000 in
set_option maxRecDepth 100000 in
theorem c_mayBe (l : Launch) (D : va_G) (cy : Nat → ClassId) (Z : (Nat → Prop) → State → Heap → Prop) (hzo : zOK Z) (w : va_W) (m z : Int32) : GD l D cy Z yX7_mayBe (zW yX7_mayBe cX7_mayBe 2 (some .boolean)) { frames := 1, cells := 0, slots := 0, locals := 25 } [.int (m), .int (z)] w (some (.int (bI (mayB m z)))) w 0 0 := by
  refine g_entry (cc := cX7_mayBe) (maxL := 2) (by decide) rfl (Nat.le_of_ble_eq_true rfl) ?_
  intro κ hN hX hR
  have hX : GX κ cy Z cX7_mayBe (Cond.code yX7_mayBe cX7_mayBe 2 (some .boolean) :: zT) RX7 { frames := 1, cells := 0, slots := 0, locals := 25 } := hX
  show GW κ 0 0 _ 0 [(0, .int (m)), (1, .int (z))] []
  refine g_iload_n hX 0 rfl rfl dX7_mayBe_0 ?_
  rcases sw_in (m) 1 5 (by decide) with w1 | ⟨j1, w1a, w1b, w1⟩
  · refine g_tableOut hX 88 w1 (by decide) dX7_mayBe_1 ?_
    refine g_iconst hX (v := nI 0) rfl dX7_mayBe_88 ?_
    exact g_retz hR (by rw [mayB, if_neg (sw_out w1 1 (by decide) (by decide) (by decide)), if_neg (sw_out w1 2 (by decide) (by decide) (by decide)), if_neg (sw_out w1 3 (by decide) (by decide) (by decide)), if_neg (sw_out w1 4 (by decide) (by decide) (by decide)), if_neg (sw_out w1 5 (by decide) (by decide) (by decide))]; try rfl) rfl dX7_mayBe_89
  · have hj : j1 = 1 ∨ j1 = 2 ∨ j1 = 3 ∨ j1 = 4 ∨ j1 = 5 := by omega
    rcases hj with rfl | rfl | rfl | rfl | rfl
    · refine g_top (y := .int (nI 1)) (congrArg Value.int w1) ?_
      refine g_tableIn hX 36 (by decide) (by decide) rfl (by decide) dX7_mayBe_1 ?_
      refine g_iload_n hX 1 rfl rfl dX7_mayBe_36 ?_
      refine g_i2l hX dX7_mayBe_37 ?_
      refine g_lconst hX (v := Int32.toInt64 (1)) (by decide) dX7_mayBe_38 ?_
      refine g_ldc2 hX (v := Int32.toInt64 (99)) (zu tCoL_X7_84 rfl) dX7_mayBe_39 ?_
      refine s_call hX hzo [.long (Int32.toInt64 (z)), .long (Int32.toInt64 ((1))), .long (Int32.toInt64 ((99)))] [] (c_isIn _ _ _ _ _ (z) ((1)) ((99))) kX7_isIn tMet_X7_71 rfl rfl (Nat.le_of_ble_eq_true rfl) (Nat.le_of_ble_eq_true rfl) ⟨Nat.le_of_ble_eq_true rfl, Nat.le_of_ble_eq_true rfl⟩ rfl rfl (Nat.le_of_ble_eq_true rfl) dX7_mayBe_42 ?_
      exact g_retz hR (by rw [mayB, w1]; rfl) rfl dX7_mayBe_45
    · refine g_top (y := .int (nI 2)) (congrArg Value.int w1) ?_
      refine g_tableIn hX 46 (by decide) (by decide) rfl (by decide) dX7_mayBe_1 ?_
      refine g_iload_n hX 1 rfl rfl dX7_mayBe_46 ?_
      refine g_i2l hX dX7_mayBe_47 ?_
      refine g_ldc2 hX (v := Int32.toInt64 (-50)) (zu tCoL_X7_86 rfl) dX7_mayBe_48 ?_
      refine g_ldc2 hX (v := Int32.toInt64 (50)) (zu tCoL_X7_88 rfl) dX7_mayBe_51 ?_
      refine s_call hX hzo [.long (Int32.toInt64 (z)), .long (Int32.toInt64 ((-50))), .long (Int32.toInt64 ((50)))] [] (c_isIn _ _ _ _ _ (z) ((-50)) ((50))) kX7_isIn tMet_X7_71 rfl rfl (Nat.le_of_ble_eq_true rfl) (Nat.le_of_ble_eq_true rfl) ⟨Nat.le_of_ble_eq_true rfl, Nat.le_of_ble_eq_true rfl⟩ rfl rfl (Nat.le_of_ble_eq_true rfl) dX7_mayBe_54 ?_
      exact g_retz hR (by rw [mayB, w1]; rfl) rfl dX7_mayBe_57
    · refine g_top (y := .int (nI 3)) (congrArg Value.int w1) ?_
      refine g_tableIn hX 58 (by decide) (by decide) rfl (by decide) dX7_mayBe_1 ?_
      refine g_iload_n hX 1 rfl rfl dX7_mayBe_58 ?_
      refine g_i2l hX dX7_mayBe_59 ?_
      refine g_lconst hX (v := Int32.toInt64 (0)) (by decide) dX7_mayBe_60 ?_
      refine g_ldc2 hX (v := Int32.toInt64 (99)) (zu tCoL_X7_84 rfl) dX7_mayBe_61 ?_
      refine s_call hX hzo [.long (Int32.toInt64 (z)), .long (Int32.toInt64 ((0))), .long (Int32.toInt64 ((99)))] [] (c_isIn _ _ _ _ _ (z) ((0)) ((99))) kX7_isIn tMet_X7_71 rfl rfl (Nat.le_of_ble_eq_true rfl) (Nat.le_of_ble_eq_true rfl) ⟨Nat.le_of_ble_eq_true rfl, Nat.le_of_ble_eq_true rfl⟩ rfl rfl (Nat.le_of_ble_eq_true rfl) dX7_mayBe_64 ?_
      exact g_retz hR (by rw [mayB, w1]; rfl) rfl dX7_mayBe_67
    · refine g_top (y := .int (nI 4)) (congrArg Value.int w1) ?_
      refine g_tableIn hX 68 (by decide) (by decide) rfl (by decide) dX7_mayBe_1 ?_
      refine g_iload_n hX 1 rfl rfl dX7_mayBe_68 ?_
      refine g_i2l hX dX7_mayBe_69 ?_
      refine g_lconst hX (v := Int32.toInt64 (0)) (by decide) dX7_mayBe_70 ?_
      refine g_ldc2 hX (v := Int32.toInt64 (999)) (zu tCoL_X7_90 rfl) dX7_mayBe_71 ?_
      refine s_call hX hzo [.long (Int32.toInt64 (z)), .long (Int32.toInt64 ((0))), .long (Int32.toInt64 ((999)))] [] (c_isIn _ _ _ _ _ (z) ((0)) ((999))) kX7_isIn tMet_X7_71 rfl rfl (Nat.le_of_ble_eq_true rfl) (Nat.le_of_ble_eq_true rfl) ⟨Nat.le_of_ble_eq_true rfl, Nat.le_of_ble_eq_true rfl⟩ rfl rfl (Nat.le_of_ble_eq_true rfl) dX7_mayBe_74 ?_
      exact g_retz hR (by rw [mayB, w1]; rfl) rfl dX7_mayBe_77
    · refine g_top (y := .int (nI 5)) (congrArg Value.int w1) ?_
      refine g_tableIn hX 78 (by decide) (by decide) rfl (by decide) dX7_mayBe_1 ?_
      refine g_iload_n hX 1 rfl rfl dX7_mayBe_78 ?_
      refine g_i2l hX dX7_mayBe_79 ?_
      refine g_lconst hX (v := Int32.toInt64 (0)) (by decide) dX7_mayBe_80 ?_
      refine g_ldc2 hX (v := Int32.toInt64 (9)) (zu tCoL_X7_92 rfl) dX7_mayBe_81 ?_
      refine s_call hX hzo [.long (Int32.toInt64 (z)), .long (Int32.toInt64 ((0))), .long (Int32.toInt64 ((9)))] [] (c_isIn _ _ _ _ _ (z) ((0)) ((9))) kX7_isIn tMet_X7_71 rfl rfl (Nat.le_of_ble_eq_true rfl) (Nat.le_of_ble_eq_true rfl) ⟨Nat.le_of_ble_eq_true rfl, Nat.le_of_ble_eq_true rfl⟩ rfl rfl (Nat.le_of_ble_eq_true rfl) dX7_mayBe_84 ?_
      exact g_retz hR (by rw [mayB, w1]; rfl) rfl dX7_mayBe_87
/-- how many bits are set, of numbers under 512 -/
def pcN (m : Nat) : Nat := m % 2 + m / 2 % 2 + m / 4 % 2 + m / 8 % 2 + m / 16 % 2 + m / 32 % 2 + m / 64 % 2 + m / 128 % 2 + m / 256 % 2
theorem pcN_step : ∀ m, m < 512 → m ≠ 0 → pcN (m &&& (m - 1)) + 1 = pcN m ∧ m &&& (m - 1) < m := by decide +kernel
theorem nI_and (a b : Nat) : nI a &&& nI b = nI (a &&& b) := by
  apply Int32.toBitVec_inj.mp
  apply BitVec.eq_of_toNat_eq
  simp [nI, Int32.toBitVec_ofNat, BitVec.toNat_ofNat, Nat.and_mod_two_pow]
theorem kX7_manyIn : mKS yX7_manyIn cX7_manyIn 3 (some .int) 1 := ⟨tSta_X7_manyIn, tIni_X7, tCod_X7_manyIn, by decide +kernel⟩
set_option maxHeartbeats 4000000 in
set_option maxRecDepth 100000 in
theorem c_manyIn (l : Launch) (D : va_G) (cy : Nat → ClassId) (Z : (Nat → Prop) → State → Heap → Prop) (w : va_W) (m0 : Nat) (hm : m0 < 512) : GD l D cy Z yX7_manyIn (zW yX7_manyIn cX7_manyIn 3 (some .int)) { frames := 0, cells := 0, slots := 0, locals := 0 } [.int (nI (m0))] w (some (.int (nI (pcN m0)))) w 0 0 := by
  refine g_entry (cc := cX7_manyIn) (maxL := 3) (by decide) rfl (Nat.le_of_ble_eq_true rfl) ?_
  intro κ hN hX hR
  have hX : GX κ cy Z cX7_manyIn (Cond.code yX7_manyIn cX7_manyIn 3 (some .int) :: zT) RX7 { frames := 0, cells := 0, slots := 0, locals := 0 } := hX
  show GW κ 0 0 _ 0 [(0, .int (nI (m0)))] []
  have L : ∀ (m : Nat), m < 512 → ∀ k : Nat, k + pcN m = pcN m0 → GW κ 0 0 w 4 [(2, .int (nI (m))), (1, .int (nI (k))), (0, .int (nI (m0)))] [] := by
    intro m
    induction m using Nat.strongRecOn with
    | _ m ih =>
      intro hm k hk
      refine g_iload_n hX 0 rfl rfl dX7_manyIn_4 ?_
      refine g_ifN_eq hX (by omega) 20 (by decide) dX7_manyIn_5 (fun c5 => ?_) (fun c5 => ?_)
      · refine g_iload_n hX 1 rfl rfl dX7_manyIn_20 ?_
        exact g_reti hR (by rw [c5] at hk; rw [← hk]; rfl) rfl dX7_manyIn_21
      · refine g_iincN (n := 1) (lv2 := [(1, .int (nI (k + 1))), (2, .int (nI (m))), (0, .int (nI (m0)))]) hX 1 1 3 hN rfl (by decide) rfl dX7_manyIn_8 ?_
        refine g_iload_n hX 1 rfl rfl dX7_manyIn_11 ?_
        refine g_iload_n hX 1 rfl rfl dX7_manyIn_12 ?_
        refine g_iconst hX (v := nI 1) rfl dX7_manyIn_13 ?_
        refine g_isubN hX (by omega) dX7_manyIn_14 ?_
        refine g_iand hX dX7_manyIn_15 ?_
        refine g_istore_n (lv2 := [(2, .int ((nI (m) &&& nI ((m - 1))))), (1, .int (nI (k + 1))), (0, .int (nI (m0)))]) hX 2 3 hN rfl (by decide) rfl dX7_manyIn_16 ?_
        refine g_goto hX 4 (by decide) dX7_manyIn_17 ?_
        have e : nI m &&& nI (m - 1) = nI (m &&& (m - 1)) := nI_and _ _
        have P := pcN_step m hm c5
        rw [e]
        exact ih (m &&& (m - 1)) P.2 (by omega) (k + 1) (by omega)
  refine g_iconst hX (v := nI 0) rfl dX7_manyIn_0 ?_
  refine g_istore_n (lv2 := [(1, .int (nI (0))), (0, .int (nI (m0)))]) hX 1 3 hN rfl (by decide) rfl dX7_manyIn_1 ?_
  refine g_iload_n hX 1 rfl rfl dX7_manyIn_2 ?_
  refine g_istore_n (lv2 := [(2, .int (nI (m0))), (1, .int (nI (0))), (0, .int (nI (m0)))]) hX 2 3 hN rfl (by decide) rfl dX7_manyIn_3 ?_
  exact L m0 hm 0 (by omega)
/-- house k becomes this one -/
def houseS (s : Nat → Int32) (k : Nat) (a0 a1 a2 a3 : Int32) : Nat → Int32 := upd (upd (upd (upd (upd (upd (upd (upd s 0 (nI (k + 1))) (6 + 7 * k + 0) a0) (6 + 7 * k + 1) a1) (6 + 7 * k + 2) a2) (6 + 7 * k + 3) a3) (6 + 7 * k + 4) (nI 0)) (6 + 7 * k + 5) (nI 0)) (6 + 7 * k + 6) (nI 0)
theorem kX7_comes : mKV RX7 yX7_comes cX7_comes 6 none 4 := ⟨tIns_X7_comes, tSel_X7_comes, tIni_X7, tCod_X7_comes, by decide +kernel⟩
set_option maxHeartbeats 4000000 in
set_option maxRecDepth 100000 in
theorem c_comes (l : Launch) (D : va_G) (cy : Nat → ClassId) (Z : (Nat → Prop) → State → Heap → Prop) (hzo : zOK Z) {h0 : Nat} {a q : Nat → Nat} {C : (Nat → Int32) → (Nat → Int32) → (Nat → Nat → Int32) → (Nat → Nat → Int32) → va_W} (hC : mLens (cy 0) h0 a q C) (v s : Nat → Int32) (r x : Nat → Nat → Int32) (k : Nat) (hk : s 0 = nI k) (hk9 : k < 9) (a0 a1 a2 a3 : Int32) : GD l D cy Z yX7_comes (zW yX7_comes cX7_comes 6 none) { frames := 1, cells := 0, slots := 0, locals := 23 } [.ref (h0), .int (a0), .int (a1), .int (a2), .int (a3)] (C v s r x) none (C v (houseS s k a0 a1 a2 a3) r x) 0 0 := by
  refine g_entry (cc := cX7_comes) (maxL := 6) (by decide) rfl (Nat.le_of_ble_eq_true rfl) ?_
  intro κ hN hX hR
  have hX : GX κ cy Z cX7_comes (Cond.code yX7_comes cX7_comes 6 none :: zT) RX7 { frames := 1, cells := 0, slots := 0, locals := 23 } := hX
  show GW κ 0 0 _ 0 [(0, .ref (h0)), (1, .int (a0)), (2, .int (a1)), (3, .int (a2)), (4, .int (a3))] []
  refine g_aload_n hX 0 rfl rfl dX7_comes_0 ?_
  refine m_getA hX hC 0 (by decide) rfl tFld_X7_7 dX7_comes_1 ?_
  refine g_iconst hX (v := nI 0) rfl dX7_comes_4 ?_
  refine m0_aldN hX hC (by omega) dX7_comes_5 ?_
  refine g_top (y := .int (nI (k))) (congrArg Value.int hk) ?_
  refine g_istore (lv2 := [(5, .int (nI (k))), (0, .ref (h0)), (1, .int (a0)), (2, .int (a1)), (3, .int (a2)), (4, .int (a3))]) hX 5 6 hN (by decide) rfl dX7_comes_6 ?_
  refine g_aload_n hX 1 rfl rfl dX7_comes_8 ?_
  refine m_getA hX hC 0 (by decide) rfl tFld_X7_7 dX7_comes_9 ?_
  refine g_iconst hX (v := nI 0) rfl dX7_comes_12 ?_
  refine g_dup2 hX rfl rfl dX7_comes_13 ?_
  refine m0_aldN hX hC (by omega) dX7_comes_14 ?_
  refine g_top (y := .int (nI (k))) (congrArg Value.int hk) ?_
  refine g_iconst hX (v := nI 1) rfl dX7_comes_15 ?_
  refine g_iaddN hX dX7_comes_16 ?_
  refine m0_astN hX hC (by omega) dX7_comes_17 ?_
  refine g_aload_n hX 1 rfl rfl dX7_comes_18 ?_
  refine g_iload hX 0 rfl dX7_comes_19 ?_
  refine g_iconst hX (v := nI 0) rfl dX7_comes_21 ?_
  refine g_iload_n hX 2 rfl rfl dX7_comes_22 ?_
  refine m_callD hX hzo hC [.int (nI (k)), .int (nI (0)), .int (a0)] [] (c_sets _ _ _ _ hzo hC v (upd s (0) (nI ((k + 1)))) r x (k) (0) (by omega) (a0)) kX7_sets tMet_X7_80 rfl rfl (Nat.le_of_ble_eq_true rfl) (Nat.le_of_ble_eq_true rfl) ⟨Nat.le_of_ble_eq_true rfl, Nat.le_of_ble_eq_true rfl⟩ rfl rfl (Nat.le_of_ble_eq_true rfl) dX7_comes_23 ?_
  refine g_aload_n hX 1 rfl rfl dX7_comes_26 ?_
  refine g_iload hX 0 rfl dX7_comes_27 ?_
  refine g_iconst hX (v := nI 1) rfl dX7_comes_29 ?_
  refine g_iload_n hX 3 rfl rfl dX7_comes_30 ?_
  refine m_callD hX hzo hC [.int (nI (k)), .int (nI (1)), .int (a1)] [] (c_sets _ _ _ _ hzo hC v (upd (upd s (0) (nI ((k + 1)))) (6 + 7 * (k) + (0)) (a0)) r x (k) (1) (by omega) (a1)) kX7_sets tMet_X7_80 rfl rfl (Nat.le_of_ble_eq_true rfl) (Nat.le_of_ble_eq_true rfl) ⟨Nat.le_of_ble_eq_true rfl, Nat.le_of_ble_eq_true rfl⟩ rfl rfl (Nat.le_of_ble_eq_true rfl) dX7_comes_31 ?_
  refine g_aload_n hX 1 rfl rfl dX7_comes_34 ?_
  refine g_iload hX 0 rfl dX7_comes_35 ?_
  refine g_iconst hX (v := nI 2) rfl dX7_comes_37 ?_
  refine g_iload_n hX 4 rfl rfl dX7_comes_38 ?_
  refine m_callD hX hzo hC [.int (nI (k)), .int (nI (2)), .int (a2)] [] (c_sets _ _ _ _ hzo hC v (upd (upd (upd s (0) (nI ((k + 1)))) (6 + 7 * (k) + (0)) (a0)) (6 + 7 * (k) + (1)) (a1)) r x (k) (2) (by omega) (a2)) kX7_sets tMet_X7_80 rfl rfl (Nat.le_of_ble_eq_true rfl) (Nat.le_of_ble_eq_true rfl) ⟨Nat.le_of_ble_eq_true rfl, Nat.le_of_ble_eq_true rfl⟩ rfl rfl (Nat.le_of_ble_eq_true rfl) dX7_comes_39 ?_
  refine g_aload_n hX 1 rfl rfl dX7_comes_42 ?_
  refine g_iload hX 0 rfl dX7_comes_43 ?_
  refine g_iconst hX (v := nI 3) rfl dX7_comes_45 ?_
  refine g_iload hX 5 rfl dX7_comes_46 ?_
  refine m_callD hX hzo hC [.int (nI (k)), .int (nI (3)), .int (a3)] [] (c_sets _ _ _ _ hzo hC v (upd (upd (upd (upd s (0) (nI ((k + 1)))) (6 + 7 * (k) + (0)) (a0)) (6 + 7 * (k) + (1)) (a1)) (6 + 7 * (k) + (2)) (a2)) r x (k) (3) (by omega) (a3)) kX7_sets tMet_X7_80 rfl rfl (Nat.le_of_ble_eq_true rfl) (Nat.le_of_ble_eq_true rfl) ⟨Nat.le_of_ble_eq_true rfl, Nat.le_of_ble_eq_true rfl⟩ rfl rfl (Nat.le_of_ble_eq_true rfl) dX7_comes_48 ?_
  refine g_aload_n hX 1 rfl rfl dX7_comes_51 ?_
  refine g_iload hX 0 rfl dX7_comes_52 ?_
  refine g_iconst hX (v := nI 4) rfl dX7_comes_54 ?_
  refine g_iconst hX (v := nI 0) rfl dX7_comes_55 ?_
  refine m_callD hX hzo hC [.int (nI (k)), .int (nI (4)), .int (nI (0))] [] (c_sets _ _ _ _ hzo hC v (upd (upd (upd (upd (upd s (0) (nI ((k + 1)))) (6 + 7 * (k) + (0)) (a0)) (6 + 7 * (k) + (1)) (a1)) (6 + 7 * (k) + (2)) (a2)) (6 + 7 * (k) + (3)) (a3)) r x (k) (4) (by omega) (nI (0))) kX7_sets tMet_X7_80 rfl rfl (Nat.le_of_ble_eq_true rfl) (Nat.le_of_ble_eq_true rfl) ⟨Nat.le_of_ble_eq_true rfl, Nat.le_of_ble_eq_true rfl⟩ rfl rfl (Nat.le_of_ble_eq_true rfl) dX7_comes_56 ?_
  refine g_aload_n hX 1 rfl rfl dX7_comes_59 ?_
  refine g_iload hX 0 rfl dX7_comes_60 ?_
  refine g_iconst hX (v := nI 5) rfl dX7_comes_62 ?_
  refine g_iconst hX (v := nI 0) rfl dX7_comes_63 ?_
  refine m_callD hX hzo hC [.int (nI (k)), .int (nI (5)), .int (nI (0))] [] (c_sets _ _ _ _ hzo hC v (upd (upd (upd (upd (upd (upd s (0) (nI ((k + 1)))) (6 + 7 * (k) + (0)) (a0)) (6 + 7 * (k) + (1)) (a1)) (6 + 7 * (k) + (2)) (a2)) (6 + 7 * (k) + (3)) (a3)) (6 + 7 * (k) + (4)) (nI (0))) r x (k) (5) (by omega) (nI (0))) kX7_sets tMet_X7_80 rfl rfl (Nat.le_of_ble_eq_true rfl) (Nat.le_of_ble_eq_true rfl) ⟨Nat.le_of_ble_eq_true rfl, Nat.le_of_ble_eq_true rfl⟩ rfl rfl (Nat.le_of_ble_eq_true rfl) dX7_comes_64 ?_
  refine g_aload_n hX 1 rfl rfl dX7_comes_67 ?_
  refine g_iload hX 0 rfl dX7_comes_68 ?_
  refine g_bipush hX (v := nI 6) (by decide) dX7_comes_70 ?_
  refine g_iconst hX (v := nI 0) rfl dX7_comes_72 ?_
  refine m_callD hX hzo hC [.int (nI (k)), .int (nI (6)), .int (nI (0))] [] (c_sets _ _ _ _ hzo hC v (upd (upd (upd (upd (upd (upd (upd s (0) (nI ((k + 1)))) (6 + 7 * (k) + (0)) (a0)) (6 + 7 * (k) + (1)) (a1)) (6 + 7 * (k) + (2)) (a2)) (6 + 7 * (k) + (3)) (a3)) (6 + 7 * (k) + (4)) (nI (0))) (6 + 7 * (k) + (5)) (nI (0))) r x (k) (6) (by omega) (nI (0))) kX7_sets tMet_X7_80 rfl rfl (Nat.le_of_ble_eq_true rfl) (Nat.le_of_ble_eq_true rfl) ⟨Nat.le_of_ble_eq_true rfl, Nat.le_of_ble_eq_true rfl⟩ rfl rfl (Nat.le_of_ble_eq_true rfl) dX7_comes_73 ?_
  exact g_retv hR rfl dX7_comes_76
/-- a set of numbers under n, as bits -/
def maskI (p : Nat → Bool) : Nat → Int32
  | 0 => nI 0
  | k + 1 => maskI p k ||| (if p k then nI 1 <<< (nI k &&& 31) else nI 0)
theorem kX7_allStanding : mKV RX7 yX7_allStanding cX7_allStanding 3 (some .int) 0 := ⟨tIns_X7_allStanding, tSel_X7_allStanding, tIni_X7, tCod_X7_allStanding, by decide +kernel⟩
set_option maxHeartbeats 4000000 in
set_option maxRecDepth 100000 in
theorem c_allStanding (l : Launch) (D : va_G) (cy : Nat → ClassId) (Z : (Nat → Prop) → State → Heap → Prop) (hzo : zOK Z) {h0 : Nat} {a q : Nat → Nat} {C : (Nat → Int32) → (Nat → Int32) → (Nat → Nat → Int32) → (Nat → Nat → Int32) → va_W} (hC : mLens (cy 0) h0 a q C) (v s : Nat → Int32) (r x : Nat → Nat → Int32) (n : Nat) (hn : s 0 = nI n) (hn9 : n ≤ 9) : GD l D cy Z yX7_allStanding (zW yX7_allStanding cX7_allStanding 3 (some .int)) { frames := 2, cells := 0, slots := 0, locals := 43 } [.ref (h0)] (C v s r x) (some (.int (maskI (sd s) n))) (C v s r x) 0 0 := by
  refine g_entry (cc := cX7_allStanding) (maxL := 3) (by decide) rfl (Nat.le_of_ble_eq_true rfl) ?_
  intro κ hN hX hR
  have hX : GX κ cy Z cX7_allStanding (Cond.code yX7_allStanding cX7_allStanding 3 (some .int) :: zT) RX7 { frames := 2, cells := 0, slots := 0, locals := 43 } := hX
  show GW κ 0 0 _ 0 [(0, .ref (h0))] []
  have L : ∀ (f i : Nat), i ≤ n → n + 1 ≤ i + f → GW κ 0 0 (C v s r x) 4 [(2, .int (nI (i))), (1, .int (maskI (sd s) i)), (0, .ref (h0))] [] := by
    intro f
    induction f with
    | zero => intro i h1 h2; exact absurd h2 (by omega)
    | succ f ih =>
      intro i h1 h2
      refine g_iload_n hX 0 rfl rfl dX7_allStanding_4 ?_
      refine g_aload_n hX 2 rfl rfl dX7_allStanding_5 ?_
      refine m_getA hX hC 0 (by decide) rfl tFld_X7_7 dX7_allStanding_6 ?_
      refine g_iconst hX (v := nI 0) rfl dX7_allStanding_9 ?_
      refine m0_aldN hX hC (by omega) dX7_allStanding_10 ?_
      refine g_top (y := .int (nI (n))) (congrArg Value.int hn) ?_
      refine g_icmpN_ge hX (by omega) (by omega) 38 (by decide) dX7_allStanding_11 (fun c11 => ?_) (fun c11 => ?_)
      · refine g_iload_n hX 1 rfl rfl dX7_allStanding_38 ?_
        exact g_reti hR (by rw [show i = n from by omega]) rfl dX7_allStanding_39
      · refine g_iload_n hX 1 rfl rfl dX7_allStanding_14 ?_
        refine g_aload_n hX 2 rfl rfl dX7_allStanding_15 ?_
        refine g_iload_n hX 0 rfl rfl dX7_allStanding_16 ?_
        refine m_callD hX hzo hC [.int (nI (i))] [.int (maskI (sd s) i)] (c_stands _ _ _ _ hzo hC v s r x (i) (by omega)) kX7_stands tMet_X7_119 rfl rfl (Nat.le_of_ble_eq_true rfl) (Nat.le_of_ble_eq_true rfl) ⟨Nat.le_of_ble_eq_true rfl, Nat.le_of_ble_eq_true rfl⟩ rfl rfl (Nat.le_of_ble_eq_true rfl) dX7_allStanding_17 ?_
        refine g_ifb_eq hX 29 (by decide) dX7_allStanding_20 (fun c20 => ?_) (fun c20 => ?_)
        · refine g_iconst hX (v := nI 0) rfl dX7_allStanding_29 ?_
          refine g_ior hX dX7_allStanding_30 ?_
          refine g_istore_n (lv2 := [(1, .int ((maskI (sd s) i ||| nI (0)))), (2, .int (nI (i))), (0, .ref (h0))]) hX 1 3 hN rfl (by decide) rfl dX7_allStanding_31 ?_
          refine g_iincN (n := 1) (lv2 := [(2, .int (nI (i + 1))), (1, .int ((maskI (sd s) i ||| nI (0)))), (0, .ref (h0))]) hX 1 2 3 hN rfl (by decide) rfl dX7_allStanding_32 ?_
          refine g_goto hX 4 (by decide) dX7_allStanding_35 ?_
          have e : maskI (sd s) (i + 1) = (maskI (sd s) i ||| nI (0)) := (by rw [maskI, if_neg (by rw [c20]; decide)])
          have K := ih (i + 1) (by omega) (by omega)
          rw [e] at K
          exact K
        · refine g_iconst hX (v := nI 1) rfl dX7_allStanding_23 ?_
          refine g_iload_n hX 0 rfl rfl dX7_allStanding_24 ?_
          refine g_ishl hX dX7_allStanding_25 ?_
          refine g_goto hX 30 (by decide) dX7_allStanding_26 ?_
          refine g_ior hX dX7_allStanding_30 ?_
          refine g_istore_n (lv2 := [(1, .int ((maskI (sd s) i ||| (nI (1) <<< (nI (i) &&& 31))))), (2, .int (nI (i))), (0, .ref (h0))]) hX 1 3 hN rfl (by decide) rfl dX7_allStanding_31 ?_
          refine g_iincN (n := 1) (lv2 := [(2, .int (nI (i + 1))), (1, .int ((maskI (sd s) i ||| (nI (1) <<< (nI (i) &&& 31))))), (0, .ref (h0))]) hX 1 2 3 hN rfl (by decide) rfl dX7_allStanding_32 ?_
          refine g_goto hX 4 (by decide) dX7_allStanding_35 ?_
          have e : maskI (sd s) (i + 1) = (maskI (sd s) i ||| (nI (1) <<< (nI (i) &&& 31))) := (by rw [maskI, if_pos c20])
          have K := ih (i + 1) (by omega) (by omega)
          rw [e] at K
          exact K
  refine g_iconst hX (v := nI 0) rfl dX7_allStanding_0 ?_
  refine g_istore_n (lv2 := [(1, .int (nI (0))), (0, .ref (h0))]) hX 1 3 hN rfl (by decide) rfl dX7_allStanding_1 ?_
  refine g_iconst hX (v := nI 0) rfl dX7_allStanding_2 ?_
  refine g_istore_n (lv2 := [(2, .int (nI (0))), (1, .int (nI (0))), (0, .ref (h0))]) hX 2 3 hN rfl (by decide) rfl dX7_allStanding_3 ?_
  exact L (n + 1) 0 (by omega) (by omega)
def bearK (kd z : Int32) : Int32 := if kd = nI 1 then z + nI 5 else if kd = nI 2 then nI 2 * z else if kd = nI 3 then z + nI 5 else if kd = nI 4 then nI 2 * z else if kd = nI 5 then nI 999 else z
/-- what house k bears -/
def brs (s : Nat → Int32) (k : Nat) : Int32 := bearK (s (6 + 7 * k + 0)) (s (6 + 7 * k + 3) + nI 10 * s (6 + 7 * k + 5))
def worthK (kd z : Int32) : Int32 := if kd = nI 1 then z + nI 7 else if kd = nI 2 then nI 99 - z else if kd = nI 3 then nI 2 * (z + nI 7) else if kd = nI 4 then nI 94 - z else if kd = nI 5 then nI 6 else z
/-- what house k is worth -/
def wth (s : Nat → Int32) (k : Nat) : Int32 := worthK (s (6 + 7 * k + 0)) (s (6 + 7 * k + 3))
theorem kX7_bears : mKV RX7 yX7_bears cX7_bears 3 (some .int) 1 := ⟨tIns_X7_bears, tSel_X7_bears, tIni_X7, tCod_X7_bears, by decide +kernel⟩
set_option maxHeartbeats 4000000 in
set_option maxRecDepth 100000 in
theorem c_bears (l : Launch) (D : va_G) (cy : Nat → ClassId) (Z : (Nat → Prop) → State → Heap → Prop) (hzo : zOK Z) {h0 : Nat} {a q : Nat → Nat} {C : (Nat → Int32) → (Nat → Int32) → (Nat → Nat → Int32) → (Nat → Nat → Int32) → va_W} (hC : mLens (cy 0) h0 a q C) (v s : Nat → Int32) (r x : Nat → Nat → Int32) (k : Nat) (hk : k < 9) : GD l D cy Z yX7_bears (zW yX7_bears cX7_bears 3 (some .int)) { frames := 1, cells := 0, slots := 0, locals := 22 } [.ref (h0), .int (nI (k))] (C v s r x) (some (.int (brs s k))) (C v s r x) 0 0 := by
  refine g_entry (cc := cX7_bears) (maxL := 3) (by decide) rfl (Nat.le_of_ble_eq_true rfl) ?_
  intro κ hN hX hR
  have hX : GX κ cy Z cX7_bears (Cond.code yX7_bears cX7_bears 3 (some .int) :: zT) RX7 { frames := 1, cells := 0, slots := 0, locals := 22 } := hX
  show GW κ 0 0 _ 0 [(0, .ref (h0)), (1, .int (nI (k)))] []
  refine g_aload_n hX 0 rfl rfl dX7_bears_0 ?_
  refine g_iload_n hX 1 rfl rfl dX7_bears_1 ?_
  refine g_iconst hX (v := nI 3) rfl dX7_bears_2 ?_
  refine m_callD hX hzo hC [.int (nI (k)), .int (nI (3))] [] (c_of _ _ _ _ hzo hC v s r x (k) (3) (by omega)) kX7_of tMet_X7_75 rfl rfl (Nat.le_of_ble_eq_true rfl) (Nat.le_of_ble_eq_true rfl) ⟨Nat.le_of_ble_eq_true rfl, Nat.le_of_ble_eq_true rfl⟩ rfl rfl (Nat.le_of_ble_eq_true rfl) dX7_bears_3 ?_
  refine g_bipush hX (v := nI 10) (by decide) dX7_bears_6 ?_
  refine g_aload_n hX 0 rfl rfl dX7_bears_8 ?_
  refine g_iload_n hX 1 rfl rfl dX7_bears_9 ?_
  refine g_iconst hX (v := nI 5) rfl dX7_bears_10 ?_
  refine m_callD hX hzo hC [.int (nI (k)), .int (nI (5))] [.int (nI (10)), .int (s (6 + 7 * (k) + (3)))] (c_of _ _ _ _ hzo hC v s r x (k) (5) (by omega)) kX7_of tMet_X7_75 rfl rfl (Nat.le_of_ble_eq_true rfl) (Nat.le_of_ble_eq_true rfl) ⟨Nat.le_of_ble_eq_true rfl, Nat.le_of_ble_eq_true rfl⟩ rfl rfl (Nat.le_of_ble_eq_true rfl) dX7_bears_11 ?_
  refine g_imul hX dX7_bears_14 ?_
  refine g_iadd hX dX7_bears_15 ?_
  refine g_istore_n (lv2 := [(2, .int ((s (6 + 7 * (k) + (3)) + (nI (10) * s (6 + 7 * (k) + (5)))))), (0, .ref (h0)), (1, .int (nI (k)))]) hX 2 3 hN rfl (by decide) rfl dX7_bears_16 ?_
  refine g_aload_n hX 1 rfl rfl dX7_bears_17 ?_
  refine g_iload_n hX 2 rfl rfl dX7_bears_18 ?_
  refine g_iconst hX (v := nI 0) rfl dX7_bears_19 ?_
  refine m_callD hX hzo hC [.int (nI (k)), .int (nI (0))] [] (c_of _ _ _ _ hzo hC v s r x (k) (0) (by omega)) kX7_of tMet_X7_75 rfl rfl (Nat.le_of_ble_eq_true rfl) (Nat.le_of_ble_eq_true rfl) ⟨Nat.le_of_ble_eq_true rfl, Nat.le_of_ble_eq_true rfl⟩ rfl rfl (Nat.le_of_ble_eq_true rfl) dX7_bears_20 ?_
  rcases sw_in (s (6 + 7 * (k) + (0))) 1 5 (by decide) with w23 | ⟨j23, w23a, w23b, w23⟩
  · refine g_tableOut hX 68 w23 (by decide) dX7_bears_23 ?_
    refine g_iload_n hX 0 rfl rfl dX7_bears_68 ?_
    exact g_reti hR (by rw [brs, bearK, if_neg (sw_out w23 1 (by decide) (by decide) (by decide)), if_neg (sw_out w23 2 (by decide) (by decide) (by decide)), if_neg (sw_out w23 3 (by decide) (by decide) (by decide)), if_neg (sw_out w23 4 (by decide) (by decide) (by decide)), if_neg (sw_out w23 5 (by decide) (by decide) (by decide))]; try rfl) rfl dX7_bears_69
  · have hj : j23 = 1 ∨ j23 = 2 ∨ j23 = 3 ∨ j23 = 4 ∨ j23 = 5 := by omega
    rcases hj with rfl | rfl | rfl | rfl | rfl
    · refine g_top (y := .int (nI 1)) (congrArg Value.int w23) ?_
      refine g_tableIn hX 56 (by decide) (by decide) rfl (by decide) dX7_bears_23 ?_
      refine g_iload_n hX 0 rfl rfl dX7_bears_56 ?_
      refine g_iconst hX (v := nI 5) rfl dX7_bears_57 ?_
      refine g_iadd hX dX7_bears_58 ?_
      exact g_reti hR (by rw [brs, bearK, w23]; rfl) rfl dX7_bears_59
    · refine g_top (y := .int (nI 2)) (congrArg Value.int w23) ?_
      refine g_tableIn hX 60 (by decide) (by decide) rfl (by decide) dX7_bears_23 ?_
      refine g_iconst hX (v := nI 2) rfl dX7_bears_60 ?_
      refine g_iload_n hX 0 rfl rfl dX7_bears_61 ?_
      refine g_imul hX dX7_bears_62 ?_
      exact g_reti hR (by rw [brs, bearK, w23]; rfl) rfl dX7_bears_63
    · refine g_top (y := .int (nI 3)) (congrArg Value.int w23) ?_
      refine g_tableIn hX 56 (by decide) (by decide) rfl (by decide) dX7_bears_23 ?_
      refine g_iload_n hX 0 rfl rfl dX7_bears_56 ?_
      refine g_iconst hX (v := nI 5) rfl dX7_bears_57 ?_
      refine g_iadd hX dX7_bears_58 ?_
      exact g_reti hR (by rw [brs, bearK, w23]; rfl) rfl dX7_bears_59
    · refine g_top (y := .int (nI 4)) (congrArg Value.int w23) ?_
      refine g_tableIn hX 60 (by decide) (by decide) rfl (by decide) dX7_bears_23 ?_
      refine g_iconst hX (v := nI 2) rfl dX7_bears_60 ?_
      refine g_iload_n hX 0 rfl rfl dX7_bears_61 ?_
      refine g_imul hX dX7_bears_62 ?_
      exact g_reti hR (by rw [brs, bearK, w23]; rfl) rfl dX7_bears_63
    · refine g_top (y := .int (nI 5)) (congrArg Value.int w23) ?_
      refine g_tableIn hX 64 (by decide) (by decide) rfl (by decide) dX7_bears_23 ?_
      refine g_sipush hX (v := nI 999) (by decide) dX7_bears_64 ?_
      exact g_reti hR (by rw [brs, bearK, w23]; rfl) rfl dX7_bears_67
theorem kX7_worth : mKV RX7 yX7_worth cX7_worth 3 (some .int) 1 := ⟨tIns_X7_worth, tSel_X7_worth, tIni_X7, tCod_X7_worth, by decide +kernel⟩
set_option maxHeartbeats 4000000 in
set_option maxRecDepth 100000 in
theorem c_worth (l : Launch) (D : va_G) (cy : Nat → ClassId) (Z : (Nat → Prop) → State → Heap → Prop) (hzo : zOK Z) {h0 : Nat} {a q : Nat → Nat} {C : (Nat → Int32) → (Nat → Int32) → (Nat → Nat → Int32) → (Nat → Nat → Int32) → va_W} (hC : mLens (cy 0) h0 a q C) (v s : Nat → Int32) (r x : Nat → Nat → Int32) (k : Nat) (hk : k < 9) : GD l D cy Z yX7_worth (zW yX7_worth cX7_worth 3 (some .int)) { frames := 1, cells := 0, slots := 0, locals := 22 } [.ref (h0), .int (nI (k))] (C v s r x) (some (.int (wth s k))) (C v s r x) 0 0 := by
  refine g_entry (cc := cX7_worth) (maxL := 3) (by decide) rfl (Nat.le_of_ble_eq_true rfl) ?_
  intro κ hN hX hR
  have hX : GX κ cy Z cX7_worth (Cond.code yX7_worth cX7_worth 3 (some .int) :: zT) RX7 { frames := 1, cells := 0, slots := 0, locals := 22 } := hX
  show GW κ 0 0 _ 0 [(0, .ref (h0)), (1, .int (nI (k)))] []
  refine g_aload_n hX 0 rfl rfl dX7_worth_0 ?_
  refine g_iload_n hX 1 rfl rfl dX7_worth_1 ?_
  refine g_iconst hX (v := nI 3) rfl dX7_worth_2 ?_
  refine m_callD hX hzo hC [.int (nI (k)), .int (nI (3))] [] (c_of _ _ _ _ hzo hC v s r x (k) (3) (by omega)) kX7_of tMet_X7_75 rfl rfl (Nat.le_of_ble_eq_true rfl) (Nat.le_of_ble_eq_true rfl) ⟨Nat.le_of_ble_eq_true rfl, Nat.le_of_ble_eq_true rfl⟩ rfl rfl (Nat.le_of_ble_eq_true rfl) dX7_worth_3 ?_
  refine g_istore_n (lv2 := [(2, .int (s (6 + 7 * (k) + (3)))), (0, .ref (h0)), (1, .int (nI (k)))]) hX 2 3 hN rfl (by decide) rfl dX7_worth_6 ?_
  refine g_aload_n hX 1 rfl rfl dX7_worth_7 ?_
  refine g_iload_n hX 2 rfl rfl dX7_worth_8 ?_
  refine g_iconst hX (v := nI 0) rfl dX7_worth_9 ?_
  refine m_callD hX hzo hC [.int (nI (k)), .int (nI (0))] [] (c_of _ _ _ _ hzo hC v s r x (k) (0) (by omega)) kX7_of tMet_X7_75 rfl rfl (Nat.le_of_ble_eq_true rfl) (Nat.le_of_ble_eq_true rfl) ⟨Nat.le_of_ble_eq_true rfl, Nat.le_of_ble_eq_true rfl⟩ rfl rfl (Nat.le_of_ble_eq_true rfl) dX7_worth_10 ?_
  rcases sw_in (s (6 + 7 * (k) + (0))) 1 5 (by decide) with w13 | ⟨j13, w13a, w13b, w13⟩
  · refine g_tableOut hX 73 w13 (by decide) dX7_worth_13 ?_
    refine g_iload_n hX 0 rfl rfl dX7_worth_73 ?_
    exact g_reti hR (by rw [wth, worthK, if_neg (sw_out w13 1 (by decide) (by decide) (by decide)), if_neg (sw_out w13 2 (by decide) (by decide) (by decide)), if_neg (sw_out w13 3 (by decide) (by decide) (by decide)), if_neg (sw_out w13 4 (by decide) (by decide) (by decide)), if_neg (sw_out w13 5 (by decide) (by decide) (by decide))]; try rfl) rfl dX7_worth_74
  · have hj : j13 = 1 ∨ j13 = 2 ∨ j13 = 3 ∨ j13 = 4 ∨ j13 = 5 := by omega
    rcases hj with rfl | rfl | rfl | rfl | rfl
    · refine g_top (y := .int (nI 1)) (congrArg Value.int w13) ?_
      refine g_tableIn hX 48 (by decide) (by decide) rfl (by decide) dX7_worth_13 ?_
      refine g_iload_n hX 0 rfl rfl dX7_worth_48 ?_
      refine g_bipush hX (v := nI 7) (by decide) dX7_worth_49 ?_
      refine g_iadd hX dX7_worth_51 ?_
      exact g_reti hR (by rw [wth, worthK, w13]; rfl) rfl dX7_worth_52
    · refine g_top (y := .int (nI 2)) (congrArg Value.int w13) ?_
      refine g_tableIn hX 53 (by decide) (by decide) rfl (by decide) dX7_worth_13 ?_
      refine g_bipush hX (v := nI 99) (by decide) dX7_worth_53 ?_
      refine g_iload_n hX 0 rfl rfl dX7_worth_55 ?_
      refine g_isub hX dX7_worth_56 ?_
      exact g_reti hR (by rw [wth, worthK, w13]; rfl) rfl dX7_worth_57
    · refine g_top (y := .int (nI 3)) (congrArg Value.int w13) ?_
      refine g_tableIn hX 58 (by decide) (by decide) rfl (by decide) dX7_worth_13 ?_
      refine g_iconst hX (v := nI 2) rfl dX7_worth_58 ?_
      refine g_iload_n hX 0 rfl rfl dX7_worth_59 ?_
      refine g_bipush hX (v := nI 7) (by decide) dX7_worth_60 ?_
      refine g_iadd hX dX7_worth_62 ?_
      refine g_imul hX dX7_worth_63 ?_
      exact g_reti hR (by rw [wth, worthK, w13]; rfl) rfl dX7_worth_64
    · refine g_top (y := .int (nI 4)) (congrArg Value.int w13) ?_
      refine g_tableIn hX 65 (by decide) (by decide) rfl (by decide) dX7_worth_13 ?_
      refine g_bipush hX (v := nI 94) (by decide) dX7_worth_65 ?_
      refine g_iload_n hX 0 rfl rfl dX7_worth_67 ?_
      refine g_isub hX dX7_worth_68 ?_
      exact g_reti hR (by rw [wth, worthK, w13]; rfl) rfl dX7_worth_69
    · refine g_top (y := .int (nI 5)) (congrArg Value.int w13) ?_
      refine g_tableIn hX 70 (by decide) (by decide) rfl (by decide) dX7_worth_13 ?_
      refine g_bipush hX (v := nI 6) (by decide) dX7_worth_70 ?_
      exact g_reti hR (by rw [wth, worthK, w13]; rfl) rfl dX7_worth_72
