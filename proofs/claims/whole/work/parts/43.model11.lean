def nmF (a1 a2 : Int32) : Nat → Int32 := fun j => if j = 114 then a1 else if j = 100 then a2 else 0
def nmG (a1 a2 : Int32) : Nat → Int32 := fun j => if j = 99 then a1 else if j = 112 then a2 else 0
def feeP (s : Nat → Int32) (nt : Nat) : Int32 := match lastO s (nI 1) nt with
  | none => s 3
  | some t => wkV (nmF (s 3) (s 2)) s t
def fineK (s : Nat → Int32) (nt k : Nat) : Int32 := match lastO s (nI 2) nt with
  | none => s (6 + 7 * k + 4)
  | some t => wkV (nmG (s (6 + 7 * k + 4)) (s (6 + 7 * k + 5))) s t
def fineP (s : Nat → Int32) (nt n : Nat) (z : Int32) : Int32 := match hIx n z with
  | none => -1000000001
  | some k => fineK s nt k
theorem kX7_fee : mKV RX7 yX7_fee cX7_fee 2 (some .int) 0 := ⟨tIns_X7_fee, tSel_X7_fee, tIni_X7, tCod_X7_fee, by decide +kernel⟩
set_option maxHeartbeats 4000000 in
set_option maxRecDepth 100000 in
theorem c_fee (l : Launch) (D : va_G) (cy : Nat → ClassId) (Z : (Nat → Prop) → State → Heap → Prop) (hzo : zOK Z) {h0 : Nat} {a q : Nat → Nat} {C : (Nat → Int32) → (Nat → Int32) → (Nat → Nat → Int32) → (Nat → Nat → Int32) → va_W} (hC : mLens (cy 0) h0 a q C) (v s : Nat → Int32) (r x : Nat → Nat → Int32) (nt : Nat) (hnt : s 1 = nI nt) (hnt14 : nt ≤ 14) (htx : ∀ t, t < nt → textOK s t) : GM l D cy Z yX7_fee (zW yX7_fee cX7_fee 2 (some .int)) { frames := 2, cells := 0, slots := 0, locals := 47 } [.ref (h0)] (C v s r x) (fun res w2 => res = some (.int (feeP s nt)) ∧ ∃ x2, w2 = C v s r x2) 0 0 := by
  refine g_entry (cc := cX7_fee) (maxL := 2) (by decide) rfl (Nat.le_of_ble_eq_true rfl) ?_
  intro κ hN hX hR
  have hX : GX κ cy Z cX7_fee (Cond.code yX7_fee cX7_fee 2 (some .int) :: zT) RX7 { frames := 2, cells := 0, slots := 0, locals := 47 } := hX
  show GW κ 0 0 _ 0 [(0, .ref (h0))] []
  refine g_aload_n hX 0 rfl rfl dX7_fee_0 ?_
  refine g_iconst hX (v := nI 1) rfl dX7_fee_1 ?_
  refine m_callD hX hzo hC [.int (nI (1))] [] (c_counts _ _ _ _ hzo hC v s r x nt hnt hnt14 (nI (1))) kX7_counts tMet_X7_109 rfl rfl (Nat.le_of_ble_eq_true rfl) (Nat.le_of_ble_eq_true rfl) ⟨Nat.le_of_ble_eq_true rfl, Nat.le_of_ble_eq_true rfl⟩ rfl rfl (Nat.le_of_ble_eq_true rfl) dX7_fee_2 ?_
  rcases hO : lastO s (nI 1) nt with _ | j9
  · refine g_top (y := .int (-1)) rfl ?_
    refine g_istore_n (lv2 := [(1, .int ((-1))), (0, .ref (h0))]) hX 1 2 hN rfl (by decide) rfl dX7_fee_5 ?_
    refine g_iload_n hX 0 rfl rfl dX7_fee_6 ?_
    refine g_if_ge hX 17 (by decide) dX7_fee_7 (fun b => absurd b (by decide)) (fun b => ?_)
    refine g_aload_n hX 1 rfl rfl dX7_fee_10 ?_
    refine m_getA hX hC 0 (by decide) rfl tFld_X7_7 dX7_fee_11 ?_
    refine g_iconst hX (v := nI 3) rfl dX7_fee_14 ?_
    refine m0_aldN hX hC (by omega) dX7_fee_15 ?_
    exact g_retiP hR ⟨by rw [feeP, hO], x, rfl⟩ dX7_fee_16
  · have hj := lastO_some hO
    have hok := htx j9 hj.1
    refine g_top (y := .int (nI j9)) rfl ?_
    refine g_istore_n (lv2 := [(1, .int (nI (j9))), (0, .ref (h0))]) hX 1 2 hN rfl (by decide) rfl dX7_fee_5 ?_
    refine g_iload_n hX 0 rfl rfl dX7_fee_6 ?_
    refine g_ifN_ge hX (by omega) 17 (by decide) dX7_fee_7 ?_
    refine g_aload_n hX 1 rfl rfl dX7_fee_17 ?_
    refine m_getA hX hC 27 (by decide) rfl tFld_X7_55 dX7_fee_18 ?_
    refine g_bipush hX (v := nI 114) (by decide) dX7_fee_21 ?_
    refine g_aload_n hX 1 rfl rfl dX7_fee_23 ?_
    refine m_getA hX hC 0 (by decide) rfl tFld_X7_7 dX7_fee_24 ?_
    refine g_iconst hX (v := nI 3) rfl dX7_fee_27 ?_
    refine m0_aldN hX hC (by omega) dX7_fee_28 ?_
    refine mb_astN hX hC 27 rfl (show _ < mN 27 from by simp only [mN]; omega) (by decide) dX7_fee_29 ?_
    refine g_aload_n hX 1 rfl rfl dX7_fee_30 ?_
    refine m_getA hX hC 27 (by decide) rfl tFld_X7_55 dX7_fee_31 ?_
    refine g_bipush hX (v := nI 100) (by decide) dX7_fee_34 ?_
    refine g_aload_n hX 1 rfl rfl dX7_fee_36 ?_
    refine m_getA hX hC 0 (by decide) rfl tFld_X7_7 dX7_fee_37 ?_
    refine g_iconst hX (v := nI 2) rfl dX7_fee_40 ?_
    refine m0_aldN hX hC (by omega) dX7_fee_41 ?_
    refine mb_astN hX hC 27 rfl (show _ < mN 27 from by simp only [mN]; omega) (by decide) dX7_fee_42 ?_
    refine g_aload_n hX 1 rfl rfl dX7_fee_43 ?_
    refine g_iload_n hX 0 rfl rfl dX7_fee_44 ?_
    refine m_call hX hzo hC [.int (nI (j9))] [] (c_workedT _ _ _ _ hzo hC v s r (mU (mU x 27 (upd (x 27) (114) (s (3)))) 27 (upd ((mU x 27 (upd (x 27) (114) (s (3)))) 27) (100) (s (2)))) (j9) (by omega) hok) kX7_worked tMet_X7_113 rfl rfl (Nat.le_of_ble_eq_true rfl) (Nat.le_of_ble_eq_true rfl) ⟨Nat.le_of_ble_eq_true rfl, Nat.le_of_ble_eq_true rfl⟩ rfl (Nat.le_of_ble_eq_true rfl) dX7_fee_45 ?_
    rintro _ _ ⟨rfl, x45, k45, rfl⟩
    show GW κ 0 0 (C v s r x45) 48 [(1, .int (nI (j9))), (0, .ref (h0))] [.int ((wkV ((mU (mU x 27 (upd (x 27) (114) (s (3)))) 27 (upd ((mU x 27 (upd (x 27) (114) (s (3)))) 27) (100) (s (2)))) 27) (s) (j9)))]
    have E : feeP s nt = (wkV ((mU (mU x 27 (upd (x 27) (114) (s (3)))) 27 (upd ((mU x 27 (upd (x 27) (114) (s (3)))) 27) (100) (s (2)))) 27) (s) (j9)) := by
      rw [feeP, hO]
      show wkV (nmF (s 3) (s 2)) s j9 = _
      simp only [mU_s]
      exact wkV_cong hok (fun j hj2 => by
        rw [hj.2] at hj2
        rcases hj2 with ⟨h, -⟩ | ⟨-, rfl | rfl⟩ | ⟨h, -⟩
        · exact absurd h (by decide)
        · rfl
        · rfl
        · exact absurd h (by decide))
    exact g_retiP hR ⟨by rw [E], x45, rfl⟩ dX7_fee_48
theorem kX7_fine : mKV RX7 yX7_fine cX7_fine 3 (some .int) 1 := ⟨tIns_X7_fine, tSel_X7_fine, tIni_X7, tCod_X7_fine, by decide +kernel⟩
set_option maxHeartbeats 4000000 in
set_option maxRecDepth 100000 in
theorem c_fine (l : Launch) (D : va_G) (cy : Nat → ClassId) (Z : (Nat → Prop) → State → Heap → Prop) (hzo : zOK Z) {h0 : Nat} {a q : Nat → Nat} {C : (Nat → Int32) → (Nat → Int32) → (Nat → Nat → Int32) → (Nat → Nat → Int32) → va_W} (hC : mLens (cy 0) h0 a q C) (v s : Nat → Int32) (r x : Nat → Nat → Int32) (nt : Nat) (hnt : s 1 = nI nt) (hnt14 : nt ≤ 14) (htx : ∀ t, t < nt → textOK s t) (n : Nat) (hn : s 0 = nI n) (hn9 : n ≤ 9) (z : Int32) : GM l D cy Z yX7_fine (zW yX7_fine cX7_fine 3 (some .int)) { frames := 2, cells := 0, slots := 0, locals := 47 } [.ref (h0), .int (z)] (C v s r x) (fun res w2 => res = some (.int (fineP s nt n z)) ∧ ∃ x2, w2 = C v s r x2) 0 0 := by
  refine g_entry (cc := cX7_fine) (maxL := 3) (by decide) rfl (Nat.le_of_ble_eq_true rfl) ?_
  intro κ hN hX hR
  have hX : GX κ cy Z cX7_fine (Cond.code yX7_fine cX7_fine 3 (some .int) :: zT) RX7 { frames := 2, cells := 0, slots := 0, locals := 47 } := hX
  show GW κ 0 0 _ 0 [(0, .ref (h0)), (1, .int (z))] []
  refine g_aload_n hX 0 rfl rfl dX7_fine_0 ?_
  refine g_iload_n hX 1 rfl rfl dX7_fine_1 ?_
  refine m_callD hX hzo hC [.int (z)] [] (c_isHouseN _ _ _ _ hzo hC v s r x n hn (z)) kX7_isHouse tMet_X7_133 rfl rfl (Nat.le_of_ble_eq_true rfl) (Nat.le_of_ble_eq_true rfl) ⟨Nat.le_of_ble_eq_true rfl, Nat.le_of_ble_eq_true rfl⟩ rfl rfl (Nat.le_of_ble_eq_true rfl) dX7_fine_2 ?_
  refine g_ifb_ne hX 11 (by decide) dX7_fine_5 (fun c5 => ?_) (fun c5 => ?_)
  · obtain ⟨k, hk9, rfl⟩ := hB_t (by omega) c5
    refine g_aload_n hX 0 rfl rfl dX7_fine_11 ?_
    refine g_iconst hX (v := nI 2) rfl dX7_fine_12 ?_
    refine m_callD hX hzo hC [.int (nI (2))] [] (c_counts _ _ _ _ hzo hC v s r x nt hnt hnt14 (nI (2))) kX7_counts tMet_X7_109 rfl rfl (Nat.le_of_ble_eq_true rfl) (Nat.le_of_ble_eq_true rfl) ⟨Nat.le_of_ble_eq_true rfl, Nat.le_of_ble_eq_true rfl⟩ rfl rfl (Nat.le_of_ble_eq_true rfl) dX7_fine_13 ?_
    rcases hO : lastO s (nI 2) nt with _ | j9
    · refine g_top (y := .int (-1)) rfl ?_
      refine g_istore_n (lv2 := [(2, .int ((-1))), (0, .ref (h0)), (1, .int (nI (k)))]) hX 2 3 hN rfl (by decide) rfl dX7_fine_16 ?_
      refine g_iload_n hX 0 rfl rfl dX7_fine_17 ?_
      refine g_if_ge hX 28 (by decide) dX7_fine_18 (fun b => absurd b (by decide)) (fun b => ?_)
      refine g_aload_n hX 1 rfl rfl dX7_fine_21 ?_
      refine g_iload_n hX 2 rfl rfl dX7_fine_22 ?_
      refine g_iconst hX (v := nI 4) rfl dX7_fine_23 ?_
      refine m_callD hX hzo hC [.int (nI (k)), .int (nI (4))] [] (c_of _ _ _ _ hzo hC v s r x (k) (4) (by omega)) kX7_of tMet_X7_75 rfl rfl (Nat.le_of_ble_eq_true rfl) (Nat.le_of_ble_eq_true rfl) ⟨Nat.le_of_ble_eq_true rfl, Nat.le_of_ble_eq_true rfl⟩ rfl rfl (Nat.le_of_ble_eq_true rfl) dX7_fine_24 ?_
      exact g_retiP hR ⟨by rw [fineP, hIx_k (by omega) hk9]; show some (Value.int (s (6 + 7 * (k) + (4)))) = some (Value.int (fineK s nt k)); rw [fineK, hO], x, rfl⟩ dX7_fine_27
    · have hj := lastO_some hO
      have hok := htx j9 hj.1
      refine g_top (y := .int (nI j9)) rfl ?_
      refine g_istore_n (lv2 := [(2, .int (nI (j9))), (0, .ref (h0)), (1, .int (nI (k)))]) hX 2 3 hN rfl (by decide) rfl dX7_fine_16 ?_
      refine g_iload_n hX 0 rfl rfl dX7_fine_17 ?_
      refine g_ifN_ge hX (by omega) 28 (by decide) dX7_fine_18 ?_
      refine g_aload_n hX 1 rfl rfl dX7_fine_28 ?_
      refine m_getA hX hC 27 (by decide) rfl tFld_X7_55 dX7_fine_29 ?_
      refine g_bipush hX (v := nI 99) (by decide) dX7_fine_32 ?_
      refine g_aload_n hX 1 rfl rfl dX7_fine_34 ?_
      refine g_iload_n hX 2 rfl rfl dX7_fine_35 ?_
      refine g_iconst hX (v := nI 4) rfl dX7_fine_36 ?_
      refine m_callD hX hzo hC [.int (nI (k)), .int (nI (4))] [.int (nI (99)), .ref (a 27)] (c_of _ _ _ _ hzo hC v s r x (k) (4) (by omega)) kX7_of tMet_X7_75 rfl rfl (Nat.le_of_ble_eq_true rfl) (Nat.le_of_ble_eq_true rfl) ⟨Nat.le_of_ble_eq_true rfl, Nat.le_of_ble_eq_true rfl⟩ rfl rfl (Nat.le_of_ble_eq_true rfl) dX7_fine_37 ?_
      refine mb_astN hX hC 27 rfl (show _ < mN 27 from by simp only [mN]; omega) (by decide) dX7_fine_40 ?_
      refine g_aload_n hX 1 rfl rfl dX7_fine_41 ?_
      refine m_getA hX hC 27 (by decide) rfl tFld_X7_55 dX7_fine_42 ?_
      refine g_bipush hX (v := nI 112) (by decide) dX7_fine_45 ?_
      refine g_aload_n hX 1 rfl rfl dX7_fine_47 ?_
      refine g_iload_n hX 2 rfl rfl dX7_fine_48 ?_
      refine g_iconst hX (v := nI 5) rfl dX7_fine_49 ?_
      refine m_callD hX hzo hC [.int (nI (k)), .int (nI (5))] [.int (nI (112)), .ref (a 27)] (c_of _ _ _ _ hzo hC v s r (mU x 27 (upd (x 27) (99) (s (6 + 7 * (k) + (4))))) (k) (5) (by omega)) kX7_of tMet_X7_75 rfl rfl (Nat.le_of_ble_eq_true rfl) (Nat.le_of_ble_eq_true rfl) ⟨Nat.le_of_ble_eq_true rfl, Nat.le_of_ble_eq_true rfl⟩ rfl rfl (Nat.le_of_ble_eq_true rfl) dX7_fine_50 ?_
      refine mb_astN hX hC 27 rfl (show _ < mN 27 from by simp only [mN]; omega) (by decide) dX7_fine_53 ?_
      refine g_aload_n hX 1 rfl rfl dX7_fine_54 ?_
      refine g_iload_n hX 0 rfl rfl dX7_fine_55 ?_
      refine m_call hX hzo hC [.int (nI (j9))] [] (c_workedT _ _ _ _ hzo hC v s r (mU (mU x 27 (upd (x 27) (99) (s (6 + 7 * (k) + (4))))) 27 (upd ((mU x 27 (upd (x 27) (99) (s (6 + 7 * (k) + (4))))) 27) (112) (s (6 + 7 * (k) + (5))))) (j9) (by omega) hok) kX7_worked tMet_X7_113 rfl rfl (Nat.le_of_ble_eq_true rfl) (Nat.le_of_ble_eq_true rfl) ⟨Nat.le_of_ble_eq_true rfl, Nat.le_of_ble_eq_true rfl⟩ rfl (Nat.le_of_ble_eq_true rfl) dX7_fine_56 ?_
      rintro _ _ ⟨rfl, x56, k56, rfl⟩
      show GW κ 0 0 (C v s r x56) 59 [(2, .int (nI (j9))), (0, .ref (h0)), (1, .int (nI (k)))] [.int ((wkV ((mU (mU x 27 (upd (x 27) (99) (s (6 + 7 * (k) + (4))))) 27 (upd ((mU x 27 (upd (x 27) (99) (s (6 + 7 * (k) + (4))))) 27) (112) (s (6 + 7 * (k) + (5))))) 27) (s) (j9)))]
      have E : fineK s nt k = (wkV ((mU (mU x 27 (upd (x 27) (99) (s (6 + 7 * (k) + (4))))) 27 (upd ((mU x 27 (upd (x 27) (99) (s (6 + 7 * (k) + (4))))) 27) (112) (s (6 + 7 * (k) + (5))))) 27) (s) (j9)) := by
        rw [fineK, hO]
        show wkV (nmG (s (6 + 7 * k + 4)) (s (6 + 7 * k + 5))) s j9 = _
        simp only [mU_s]
        exact wkV_cong hok (fun j hj2 => by
          rw [hj.2] at hj2
          rcases hj2 with ⟨h, -⟩ | ⟨h, -⟩ | ⟨-, rfl | rfl⟩
          · exact absurd h (by decide)
          · exact absurd h (by decide)
          · rfl
          · rfl)
      exact g_retiP hR ⟨by rw [fineP, hIx_k (by omega) hk9]; show some (Value.int ((wkV ((mU (mU x 27 (upd (x 27) (99) (s (6 + 7 * (k) + (4))))) 27 (upd ((mU x 27 (upd (x 27) (99) (s (6 + 7 * (k) + (4))))) 27) (112) (s (6 + 7 * (k) + (5))))) 27) (s) (j9)))) = some (Value.int (fineK s nt k)); rw [E], x56, rfl⟩ dX7_fine_59
  · refine g_ldc hX (v := -1000000001) (zu tCon_X7_100 rfl) dX7_fine_8 ?_
    exact g_retiP hR ⟨by rw [fineP, hIx_f c5], x, rfl⟩ dX7_fine_10
noncomputable def fn_X7_fee (μ : Mg) : Option (Int32 × Mg) := cif (stOK μ.2.1 (tOf μ.2.1) (nOf μ.2.1)) (some (feeP μ.2.1 (tOf μ.2.1), μ))
theorem ct_X7_fee (l : Launch) (D : va_G) (cy : Nat → ClassId) (Z : (Nat → Prop) → State → Heap → Prop) (hzo : zOK Z) {h0 : Nat} {a q : Nat → Nat} {C : (Nat → Int32) → (Nat → Int32) → (Nat → Nat → Int32) → (Nat → Nat → Int32) → va_W} (hC : mLens (cy 0) h0 a q C) (μ μ2 : Mg) (x : Nat → Nat → Int32) (res : Int32) (h : fn_X7_fee  μ = some (res, μ2)) : GM l D cy Z yX7_fee (zW yX7_fee cX7_fee 2 (some .int)) { frames := 2, cells := 0, slots := 0, locals := 47 } [.ref h0] (C μ.1 μ.2.1 μ.2.2 x) (fun rs w2 => rs = some (.int res) ∧ ∃ x2, w2 = C μ2.1 μ2.2.1 μ2.2.2 x2) 0 0 := by
  obtain ⟨hp, e⟩ := cif_some h
  cases e
  exact c_fee l D cy Z hzo hC μ.1 μ.2.1 μ.2.2 x _ hp.1 hp.2.1 hp.2.2.1 
noncomputable def fn_X7_fine (z1 : Int32) (μ : Mg) : Option (Int32 × Mg) := cif (stOK μ.2.1 (tOf μ.2.1) (nOf μ.2.1)) (some (fineP μ.2.1 (tOf μ.2.1) (nOf μ.2.1) z1, μ))
theorem ct_X7_fine (l : Launch) (D : va_G) (cy : Nat → ClassId) (Z : (Nat → Prop) → State → Heap → Prop) (hzo : zOK Z) {h0 : Nat} {a q : Nat → Nat} {C : (Nat → Int32) → (Nat → Int32) → (Nat → Nat → Int32) → (Nat → Nat → Int32) → va_W} (hC : mLens (cy 0) h0 a q C) (z1 : Int32) (μ μ2 : Mg) (x : Nat → Nat → Int32) (res : Int32) (h : fn_X7_fine z1 μ = some (res, μ2)) : GM l D cy Z yX7_fine (zW yX7_fine cX7_fine 3 (some .int)) { frames := 2, cells := 0, slots := 0, locals := 47 } [.ref h0, .int z1] (C μ.1 μ.2.1 μ.2.2 x) (fun rs w2 => rs = some (.int res) ∧ ∃ x2, w2 = C μ2.1 μ2.2.1 μ2.2.2 x2) 0 0 := by
  obtain ⟨hp, e⟩ := cif_some h
  cases e
  exact c_fine l D cy Z hzo hC μ.1 μ.2.1 μ.2.2 x _ hp.1 hp.2.1 hp.2.2.1 _ hp.2.2.2.1 hp.2.2.2.2 z1
