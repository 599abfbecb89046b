/-- rows but for what is laid by, set aside, carried, due -/
def rk (r r2 : Nat → Nat → Int32) : Prop := ∀ j, j ≠ 2 → j ≠ 14 → j ≠ 29 → j ≠ 32 → r2 j = r j
theorem rk_r (r : Nat → Nat → Int32) : rk r r := fun _ _ _ _ _ => rfl
theorem cp_back {s s0 f : Nat → Int32} (h1 : ∀ j, j < 69 → f j = s0 j) (h2 : ∀ j, 69 ≤ j → s j = s0 j) : cpN 69 f s = s0 := by
  funext k
  rw [cpN]
  split
  · exact h1 k (by assumption)
  · exact h2 k (by omega)
theorem itS_hi (s : Nat → Int32) (nt n : Nat) (hn : n ≤ 9) (k : Nat) : ∀ j, 69 ≤ j → itS s nt n k j = s j := fun j hj => itS_out s nt n hn j (by omega) (by omega) (by omega) k
/-- all that stand stand behind so many days -/
def keepB (s : Nat → Int32) (nt n m : Nat) : Bool := decide (maskI (sd (itS s nt n m)) n = maskI (sd s) n)
theorem c_laysBackT (l : Launch) (D : va_G) (cy : Nat → ClassId) (Z : (Nat → Prop) → State → Heap → Prop) (hzo : zOK Z) {h0 : Nat} {a q : Nat → Nat} {C : (Nat → Int32) → (Nat → Int32) → (Nat → Nat → Int32) → (Nat → Nat → Int32) → va_W} (hC : mLens (cy 0) h0 a q C) (v s : Nat → Int32) (r x : Nat → Nat → Int32) (s0 : Nat → Int32) (h1 : ∀ j, j < 69 → r 14 j = s0 j) (h2 : ∀ j, 69 ≤ j → s j = s0 j) : GD l D cy Z yX7_laysBack (zW yX7_laysBack cX7_laysBack 2 none) { frames := 0, cells := 0, slots := 0, locals := 0 } [.ref h0] (C v s r x) none (C v s0 r x) 0 0 := by
  have h := c_laysBack l D cy Z hzo hC v s r x
  rw [cp_back h1 h2] at h
  exact h
theorem lb_1 (s : Nat → Int32) (r : Nat → Nat → Int32) : (∀ j, j < 69 → (mU r 14 (cpN 69 s (r 14))) 14 j = s j) ∧ rk r (mU r 14 (cpN 69 s (r 14))) := ⟨fun j hj => by rw [mU_s, cpN, if_pos hj], fun j _ h14 _ _ => mU_n r _ h14⟩
def behP (s : Nat → Int32) (nt n : Nat) (z y : Int32) : Int32 := if inB z 0 100 && inB y 0 (nI (2 + n)) then (if y = nI 0 then maskI (sd (itS s nt n z.toNatClampNeg)) n else if y = nI 1 then smS (itS s nt n z.toNatClampNeg) 4 n else if y = nI 2 then itS s nt n z.toNatClampNeg 3 else itS s nt n z.toNatClampNeg (6 + 7 * (y.toNatClampNeg - 3) + 2)) else -1000000001
theorem kX7_behind : mKV RX7 yX7_behind cX7_behind 4 (some .int) 2 := ⟨tIns_X7_behind, tSel_X7_behind, tIni_X7, tCod_X7_behind, by decide +kernel⟩
set_option maxHeartbeats 4000000 in
set_option maxRecDepth 100000 in
theorem c_behind (l : Launch) (D : va_G) (cy : Nat → ClassId) (Z : (Nat → Prop) → State → Heap → Prop) (hzo : zOK Z) {h0 : Nat} {a q : Nat → Nat} {C : (Nat → Int32) → (Nat → Int32) → (Nat → Nat → Int32) → (Nat → Nat → Int32) → va_W} (hC : mLens (cy 0) h0 a q C) (v s : Nat → Int32) (r x : Nat → Nat → Int32) (nt n : Nat) (hk : stOK s nt n) (z y : Int32) : GM l D cy Z yX7_behind (zW yX7_behind cX7_behind 4 (some .int)) { frames := 6, cells := 0, slots := 0, locals := 142 } [.ref (h0), .int (z), .int (y)] (C v s r x) (fun res w2 => res = some (.int (behP s nt n z y)) ∧ ∃ r2 x2, rk r r2 ∧ w2 = C v s r2 x2) 0 0 := by
  refine g_entry (cc := cX7_behind) (maxL := 4) (by decide) rfl (Nat.le_of_ble_eq_true rfl) ?_
  intro κ hN hX hR
  have hX : GX κ cy Z cX7_behind (Cond.code yX7_behind cX7_behind 4 (some .int) :: zT) RX7 { frames := 6, cells := 0, slots := 0, locals := 142 } := hX
  show GW κ 0 0 _ 0 [(0, .ref (h0)), (1, .int (z)), (2, .int (y))] []
  have hn9 := hk.2.2.2.2
  have hn := hk.2.2.2.1
  refine g_iload_n hX 1 rfl rfl dX7_behind_0 ?_
  refine g_i2l hX dX7_behind_1 ?_
  refine g_lconst hX (v := Int32.toInt64 (0)) (by decide) dX7_behind_2 ?_
  refine g_ldc2 hX (v := Int32.toInt64 (100)) (zu tCoL_X7_170 rfl) dX7_behind_3 ?_
  refine s_call hX hzo [.long (Int32.toInt64 (z)), .long (Int32.toInt64 ((0))), .long (Int32.toInt64 ((100)))] [] (c_isIn _ _ _ _ _ (z) ((0)) ((100))) kX7_isIn tMet_X7_71 rfl rfl (Nat.le_of_ble_eq_true rfl) (Nat.le_of_ble_eq_true rfl) ⟨Nat.le_of_ble_eq_true rfl, Nat.le_of_ble_eq_true rfl⟩ rfl rfl (Nat.le_of_ble_eq_true rfl) dX7_behind_6 ?_
  refine g_ifb_eq hX 30 (by decide) dX7_behind_9 (fun c9 => ?_) (fun c9 => ?_)
  · refine g_ldc hX (v := -1000000001) (zu tCon_X7_100 rfl) dX7_behind_30 ?_
    have E : behP s nt n z y = (-1000000001) := by rw [behP, if_neg (by rw [c9]; simp)]
    exact g_retiP hR ⟨by rw [E]; try rfl, r, x, (rk_r r), rfl⟩ dX7_behind_32
  · obtain ⟨m, hm1, hm9, rfl⟩ := inB_t (lo := 0) (hi := 100) (by decide) (by decide) c9
    refine g_iload_n hX 2 rfl rfl dX7_behind_12 ?_
    refine g_i2l hX dX7_behind_13 ?_
    refine g_lconst hX (v := Int32.toInt64 (0)) (by decide) dX7_behind_14 ?_
    refine g_iconst hX (v := nI 2) rfl dX7_behind_15 ?_
    refine g_aload_n hX 0 rfl rfl dX7_behind_16 ?_
    refine m_getA hX hC 0 (by decide) rfl tFld_X7_7 dX7_behind_17 ?_
    refine g_iconst hX (v := nI 0) rfl dX7_behind_20 ?_
    refine m0_aldN hX hC (by omega) dX7_behind_21 ?_
    refine g_top (y := .int (nI (n))) (congrArg Value.int hn) ?_
    refine g_iaddN hX dX7_behind_22 ?_
    refine g_i2l hX dX7_behind_23 ?_
    refine s_call hX hzo [.long (Int32.toInt64 (y)), .long (Int32.toInt64 ((0))), .long (Int32.toInt64 (nI ((2 + n))))] [] (c_isIn _ _ _ _ _ (y) ((0)) (nI ((2 + n)))) kX7_isIn tMet_X7_71 rfl rfl (Nat.le_of_ble_eq_true rfl) (Nat.le_of_ble_eq_true rfl) ⟨Nat.le_of_ble_eq_true rfl, Nat.le_of_ble_eq_true rfl⟩ rfl rfl (Nat.le_of_ble_eq_true rfl) dX7_behind_24 ?_
    refine g_ifb_ne hX 33 (by decide) dX7_behind_27 (fun c27 => ?_) (fun c27 => ?_)
    · obtain ⟨u, hu1, hu9, rfl⟩ := inB_t (lo := 0) (hi := 2 + n) (by omega) (by omega) c27
      refine g_aload_n hX 0 rfl rfl dX7_behind_33 ?_
      refine m_callD hX hzo hC [] [] (c_laysBy _ _ _ _ hzo hC v s r x) kX7_laysBy tMet_X7_181 rfl rfl (Nat.le_of_ble_eq_true rfl) (Nat.le_of_ble_eq_true rfl) ⟨Nat.le_of_ble_eq_true rfl, Nat.le_of_ble_eq_true rfl⟩ rfl rfl (Nat.le_of_ble_eq_true rfl) dX7_behind_34 ?_
      obtain ⟨r1, er1⟩ : ∃ r1, r1 = mU r 14 (cpN 69 s (r 14)) := ⟨_, rfl⟩
      rw [← er1]
      obtain ⟨hb1, hrk⟩ : (∀ j, j < 69 → r1 14 j = s j) ∧ rk r r1 := by rw [er1]; exact lb_1 s r
      clear er1
      refine g_aload_n hX 0 rfl rfl dX7_behind_37 ?_
      refine g_iload_n hX 1 rfl rfl dX7_behind_38 ?_
      refine m_call hX hzo hC [.int (nI (m))] [] (c_goesOnMany _ _ _ _ hzo hC v s r1 x nt n hk (m) (by omega)) kX7_goesOnMany tMet_X7_184 rfl rfl (Nat.le_of_ble_eq_true rfl) (Nat.le_of_ble_eq_true rfl) ⟨Nat.le_of_ble_eq_true rfl, Nat.le_of_ble_eq_true rfl⟩ rfl (Nat.le_of_ble_eq_true rfl) dX7_behind_39 ?_
      rintro _ _ ⟨rfl, x39, rfl⟩
      show GW κ 0 0 (C v (itS s nt n (m)) r1 x39) 42 [(0, .ref (h0)), (1, .int (nI (m))), (2, .int (nI (u)))] []
      refine g_iload_n hX 2 rfl rfl dX7_behind_42 ?_
      refine g_ifN_ne hX (by omega) 53 (by decide) dX7_behind_43 (fun c43 => ?_) (fun c43 => ?_)
      · refine g_iload_n hX 2 rfl rfl dX7_behind_53 ?_
        refine g_iconst hX (v := nI 1) rfl dX7_behind_54 ?_
        refine g_icmpN_ne hX (by omega) (by omega) 66 (by decide) dX7_behind_55 (fun c55 => ?_) (fun c55 => ?_)
        · refine g_iload_n hX 2 rfl rfl dX7_behind_66 ?_
          refine g_iconst hX (v := nI 2) rfl dX7_behind_67 ?_
          refine g_icmpN_ne hX (by omega) (by omega) 80 (by decide) dX7_behind_68 (fun c68 => ?_) (fun c68 => ?_)
          · refine g_aload_n hX 0 rfl rfl dX7_behind_80 ?_
            refine g_iload_n hX 2 rfl rfl dX7_behind_81 ?_
            refine g_iconst hX (v := nI 3) rfl dX7_behind_82 ?_
            refine g_isubN hX (by omega) dX7_behind_83 ?_
            refine g_iconst hX (v := nI 2) rfl dX7_behind_84 ?_
            refine m_callD hX hzo hC [.int (nI ((u - 3))), .int (nI (2))] [] (c_of _ _ _ _ hzo hC v (itS s nt n (m)) r1 x39 ((u - 3)) (2) (by omega)) kX7_of tMet_X7_75 rfl rfl (Nat.le_of_ble_eq_true rfl) (Nat.le_of_ble_eq_true rfl) ⟨Nat.le_of_ble_eq_true rfl, Nat.le_of_ble_eq_true rfl⟩ rfl rfl (Nat.le_of_ble_eq_true rfl) dX7_behind_85 ?_
            refine g_istore_n (lv2 := [(3, .int ((itS s nt n (m)) (6 + 7 * ((u - 3)) + (2)))), (0, .ref (h0)), (1, .int (nI (m))), (2, .int (nI (u)))]) hX 3 4 hN rfl (by decide) rfl dX7_behind_88 ?_
            refine g_aload_n hX 1 rfl rfl dX7_behind_89 ?_
            refine m_callD hX hzo hC [] [] (c_laysBackT _ _ _ _ hzo hC v (itS s nt n (m)) r1 x39 s hb1 (itS_hi s nt n hn9 m)) kX7_laysBack tMet_X7_187 rfl rfl (Nat.le_of_ble_eq_true rfl) (Nat.le_of_ble_eq_true rfl) ⟨Nat.le_of_ble_eq_true rfl, Nat.le_of_ble_eq_true rfl⟩ rfl rfl (Nat.le_of_ble_eq_true rfl) dX7_behind_90 ?_
            refine g_iload_n hX 0 rfl rfl dX7_behind_93 ?_
            have E : behP s nt n (nI m) (nI u) = (itS s nt n (m)) (6 + 7 * ((u - 3)) + (2)) := by rw [behP, if_pos (by rw [c9, c27]; rfl), nI_clamp (by omega)]; rw [if_neg (fun h => c43 ((nI_eq (by omega) (by decide)).mp h)), if_neg (fun h => c55 ((nI_eq (by omega) (by decide)).mp h)), if_neg (fun h => c68 ((nI_eq (by omega) (by decide)).mp h)), nI_clamp (by omega)]
            exact g_retiP hR ⟨by rw [E]; try rfl, r1, x39, hrk, rfl⟩ dX7_behind_94
          · refine g_aload_n hX 0 rfl rfl dX7_behind_71 ?_
            refine m_getA hX hC 0 (by decide) rfl tFld_X7_7 dX7_behind_72 ?_
            refine g_iconst hX (v := nI 3) rfl dX7_behind_75 ?_
            refine m0_aldN hX hC (by omega) dX7_behind_76 ?_
            refine g_goto hX 88 (by decide) dX7_behind_77 ?_
            refine g_istore_n (lv2 := [(3, .int ((itS s nt n (m)) (3))), (0, .ref (h0)), (1, .int (nI (m))), (2, .int (nI (u)))]) hX 3 4 hN rfl (by decide) rfl dX7_behind_88 ?_
            refine g_aload_n hX 1 rfl rfl dX7_behind_89 ?_
            refine m_callD hX hzo hC [] [] (c_laysBackT _ _ _ _ hzo hC v (itS s nt n (m)) r1 x39 s hb1 (itS_hi s nt n hn9 m)) kX7_laysBack tMet_X7_187 rfl rfl (Nat.le_of_ble_eq_true rfl) (Nat.le_of_ble_eq_true rfl) ⟨Nat.le_of_ble_eq_true rfl, Nat.le_of_ble_eq_true rfl⟩ rfl rfl (Nat.le_of_ble_eq_true rfl) dX7_behind_90 ?_
            refine g_iload_n hX 0 rfl rfl dX7_behind_93 ?_
            have E : behP s nt n (nI m) (nI u) = (itS s nt n (m)) (3) := by rw [behP, if_pos (by rw [c9, c27]; rfl), nI_clamp (by omega)]; rw [if_neg (fun h => c43 ((nI_eq (by omega) (by decide)).mp h)), if_neg (fun h => c55 ((nI_eq (by omega) (by decide)).mp h)), if_pos (by rw [c68])]
            exact g_retiP hR ⟨by rw [E]; try rfl, r1, x39, hrk, rfl⟩ dX7_behind_94
        · refine g_aload_n hX 0 rfl rfl dX7_behind_58 ?_
          refine g_iconst hX (v := nI 4) rfl dX7_behind_59 ?_
          refine m_callD hX hzo hC [.int (nI (4))] [] (c_allOf _ _ _ _ hzo hC v (itS s nt n (m)) r1 x39 n (stOK_it hk m).2.2.2.1 hn9 (4) (by omega)) kX7_allOf tMet_X7_175 rfl rfl (Nat.le_of_ble_eq_true rfl) (Nat.le_of_ble_eq_true rfl) ⟨Nat.le_of_ble_eq_true rfl, Nat.le_of_ble_eq_true rfl⟩ rfl rfl (Nat.le_of_ble_eq_true rfl) dX7_behind_60 ?_
          refine g_goto hX 88 (by decide) dX7_behind_63 ?_
          refine g_istore_n (lv2 := [(3, .int ((smS (itS s nt n (m)) (4) n))), (0, .ref (h0)), (1, .int (nI (m))), (2, .int (nI (u)))]) hX 3 4 hN rfl (by decide) rfl dX7_behind_88 ?_
          refine g_aload_n hX 1 rfl rfl dX7_behind_89 ?_
          refine m_callD hX hzo hC [] [] (c_laysBackT _ _ _ _ hzo hC v (itS s nt n (m)) r1 x39 s hb1 (itS_hi s nt n hn9 m)) kX7_laysBack tMet_X7_187 rfl rfl (Nat.le_of_ble_eq_true rfl) (Nat.le_of_ble_eq_true rfl) ⟨Nat.le_of_ble_eq_true rfl, Nat.le_of_ble_eq_true rfl⟩ rfl rfl (Nat.le_of_ble_eq_true rfl) dX7_behind_90 ?_
          refine g_iload_n hX 0 rfl rfl dX7_behind_93 ?_
          have E : behP s nt n (nI m) (nI u) = (smS (itS s nt n (m)) (4) n) := by rw [behP, if_pos (by rw [c9, c27]; rfl), nI_clamp (by omega)]; rw [if_neg (fun h => c43 ((nI_eq (by omega) (by decide)).mp h)), if_pos (by rw [c55])]
          exact g_retiP hR ⟨by rw [E]; try rfl, r1, x39, hrk, rfl⟩ dX7_behind_94
      · refine g_aload_n hX 0 rfl rfl dX7_behind_46 ?_
        refine m_callD hX hzo hC [] [] (c_allStanding _ _ _ _ hzo hC v (itS s nt n (m)) r1 x39 n (stOK_it hk m).2.2.2.1 hn9) kX7_allStanding tMet_X7_123 rfl rfl (Nat.le_of_ble_eq_true rfl) (Nat.le_of_ble_eq_true rfl) ⟨Nat.le_of_ble_eq_true rfl, Nat.le_of_ble_eq_true rfl⟩ rfl rfl (Nat.le_of_ble_eq_true rfl) dX7_behind_47 ?_
        refine g_goto hX 88 (by decide) dX7_behind_50 ?_
        refine g_istore_n (lv2 := [(3, .int ((maskI (sd (itS s nt n (m))) n))), (0, .ref (h0)), (1, .int (nI (m))), (2, .int (nI (u)))]) hX 3 4 hN rfl (by decide) rfl dX7_behind_88 ?_
        refine g_aload_n hX 1 rfl rfl dX7_behind_89 ?_
        refine m_callD hX hzo hC [] [] (c_laysBackT _ _ _ _ hzo hC v (itS s nt n (m)) r1 x39 s hb1 (itS_hi s nt n hn9 m)) kX7_laysBack tMet_X7_187 rfl rfl (Nat.le_of_ble_eq_true rfl) (Nat.le_of_ble_eq_true rfl) ⟨Nat.le_of_ble_eq_true rfl, Nat.le_of_ble_eq_true rfl⟩ rfl rfl (Nat.le_of_ble_eq_true rfl) dX7_behind_90 ?_
        refine g_iload_n hX 0 rfl rfl dX7_behind_93 ?_
        have E : behP s nt n (nI m) (nI u) = (maskI (sd (itS s nt n (m))) n) := by rw [behP, if_pos (by rw [c9, c27]; rfl), nI_clamp (by omega)]; rw [if_pos (by rw [c43])]
        exact g_retiP hR ⟨by rw [E]; try rfl, r1, x39, hrk, rfl⟩ dX7_behind_94
    · refine g_ldc hX (v := -1000000001) (zu tCon_X7_100 rfl) dX7_behind_30 ?_
      have E : behP s nt n (nI m) y = (-1000000001) := by rw [behP, if_neg (by rw [c27]; simp)]
      exact g_retiP hR ⟨by rw [E]; try rfl, r, x, (rk_r r), rfl⟩ dX7_behind_32
/-- the first day k, k + 1 .. behind which another set stands -/
def lsO (s : Nat → Int32) (nt n : Nat) : Nat → Nat → Option Nat
  | 0, _ => none
  | f + 1, k => if maskI (sd (itS s nt n k)) n = maskI (sd s) n then lsO s nt n f (k + 1) else some k
def noneI : Option Nat → Int32
  | none => -1000000005
  | some k => nI k
theorem kX7_lasts : mKV RX7 yX7_lasts cX7_lasts 4 (some .int) 0 := ⟨tIns_X7_lasts, tSel_X7_lasts, tIni_X7, tCod_X7_lasts, by decide +kernel⟩
set_option maxHeartbeats 4000000 in
set_option maxRecDepth 100000 in
theorem c_lasts (l : Launch) (D : va_G) (cy : Nat → ClassId) (Z : (Nat → Prop) → State → Heap → Prop) (hzo : zOK Z) {h0 : Nat} {a q : Nat → Nat} {C : (Nat → Int32) → (Nat → Int32) → (Nat → Nat → Int32) → (Nat → Nat → Int32) → va_W} (hC : mLens (cy 0) h0 a q C) (v s : Nat → Int32) (r x : Nat → Nat → Int32) (nt n : Nat) (hk : stOK s nt n) : GM l D cy Z yX7_lasts (zW yX7_lasts cX7_lasts 4 (some .int)) { frames := 5, cells := 0, slots := 0, locals := 120 } [.ref (h0)] (C v s r x) (fun res w2 => res = some (.int (noneI (lsO s nt n 300 1))) ∧ ∃ r2 x2, rk r r2 ∧ w2 = C v s r2 x2) 0 0 := by
  refine g_entry (cc := cX7_lasts) (maxL := 4) (by decide) rfl (Nat.le_of_ble_eq_true rfl) ?_
  intro κ hN hX hR
  have hX : GX κ cy Z cX7_lasts (Cond.code yX7_lasts cX7_lasts 4 (some .int) :: zT) RX7 { frames := 5, cells := 0, slots := 0, locals := 120 } := hX
  show GW κ 0 0 _ 0 [(0, .ref (h0))] []
  have hn9 := hk.2.2.2.2
  have hn := hk.2.2.2.1
  refine g_aload_n hX 0 rfl rfl dX7_lasts_0 ?_
  refine m_callD hX hzo hC [] [] (c_laysBy _ _ _ _ hzo hC v s r x) kX7_laysBy tMet_X7_181 rfl rfl (Nat.le_of_ble_eq_true rfl) (Nat.le_of_ble_eq_true rfl) ⟨Nat.le_of_ble_eq_true rfl, Nat.le_of_ble_eq_true rfl⟩ rfl rfl (Nat.le_of_ble_eq_true rfl) dX7_lasts_1 ?_
  obtain ⟨r1, er1⟩ : ∃ r1, r1 = mU r 14 (cpN 69 s (r 14)) := ⟨_, rfl⟩
  rw [← er1]
  obtain ⟨hb1, hrk⟩ : (∀ j, j < 69 → r1 14 j = s j) ∧ rk r r1 := by rw [er1]; exact lb_1 s r
  clear er1
  have L : ∀ (f j : Nat) (x9 : Nat → Nat → Int32), j + f = 300 → lsO s nt n f (j + 1) = lsO s nt n 300 1 → GW κ 0 0 (C v (itS s nt n j) r1 x9) 13 [(3, .int (nI (j + 1))), (2, .int ((-1))), (1, .int ((maskI (sd s) n))), (0, .ref (h0))] [] := by
    intro f
    induction f with
    | zero =>
      intro j x9 h1 hE
      refine g_iload_n hX 0 rfl rfl dX7_lasts_13 ?_
      refine g_sipush hX (v := nI 300) (by decide) dX7_lasts_14 ?_
      refine g_icmpN_gt hX (by omega) (by omega) 48 (by decide) dX7_lasts_17 (fun c17 => ?_) (fun c17 => absurd c17 (by omega))
      refine g_aload_n hX 3 rfl rfl dX7_lasts_48 ?_
      refine m_callD hX hzo hC [] [] (c_laysBackT _ _ _ _ hzo hC v (itS s nt n j) r1 x9 s hb1 (itS_hi s nt n hn9 _)) kX7_laysBack tMet_X7_187 rfl rfl (Nat.le_of_ble_eq_true rfl) (Nat.le_of_ble_eq_true rfl) ⟨Nat.le_of_ble_eq_true rfl, Nat.le_of_ble_eq_true rfl⟩ rfl rfl (Nat.le_of_ble_eq_true rfl) dX7_lasts_49 ?_
      refine g_iload_n hX 1 rfl rfl dX7_lasts_52 ?_
      refine s_call hX hzo [.int ((-1))] [] (c_orNone _ _ _ _ _ ((-1))) kX7_orNone tMet_X7_190 rfl rfl (Nat.le_of_ble_eq_true rfl) (Nat.le_of_ble_eq_true rfl) ⟨Nat.le_of_ble_eq_true rfl, Nat.le_of_ble_eq_true rfl⟩ rfl rfl (Nat.le_of_ble_eq_true rfl) dX7_lasts_53 ?_
      have E : noneI (lsO s nt n 300 1) = (if (-1) < 0 then -1000000005 else (-1)) := by rw [← hE]; rfl
      exact g_retiP hR ⟨by rw [E]; try rfl, r1, x9, hrk, rfl⟩ dX7_lasts_56
    | succ f ih =>
      intro j x9 h1 hE
      refine g_iload_n hX 0 rfl rfl dX7_lasts_13 ?_
      refine g_sipush hX (v := nI 300) (by decide) dX7_lasts_14 ?_
      refine g_icmpN_gt hX (by omega) (by omega) 48 (by decide) dX7_lasts_17 (fun c17 => absurd c17 (by omega)) (fun c17 => ?_)
      refine g_iload_n hX 1 rfl rfl dX7_lasts_20 ?_
      refine g_if_ge hX 48 (by decide) dX7_lasts_21 (fun c21 => absurd c21 (by decide)) (fun c21 => ?_)
      refine g_aload_n hX 3 rfl rfl dX7_lasts_24 ?_
      refine m_call hX hzo hC [] [] (c_goesOnK _ _ _ _ hzo hC v (itS s nt n j) r1 x9 nt n (stOK_it hk j)) kX7_goesOn tMet_X7_172 rfl rfl (Nat.le_of_ble_eq_true rfl) (Nat.le_of_ble_eq_true rfl) ⟨Nat.le_of_ble_eq_true rfl, Nat.le_of_ble_eq_true rfl⟩ rfl (Nat.le_of_ble_eq_true rfl) dX7_lasts_25 ?_
      rintro _ _ ⟨rfl, x25, rfl⟩
      show GW κ 0 0 (C v (itS s nt n (j + 1)) r1 x25) 28 [(3, .int (nI (j + 1))), (2, .int ((-1))), (1, .int ((maskI (sd s) n))), (0, .ref (h0))] []
      refine g_aload_n hX 3 rfl rfl dX7_lasts_28 ?_
      refine m_callD hX hzo hC [] [] (c_allStanding _ _ _ _ hzo hC v (itS s nt n (j + 1)) r1 x25 n (stOK_it hk (j + 1)).2.2.2.1 hn9) kX7_allStanding tMet_X7_123 rfl rfl (Nat.le_of_ble_eq_true rfl) (Nat.le_of_ble_eq_true rfl) ⟨Nat.le_of_ble_eq_true rfl, Nat.le_of_ble_eq_true rfl⟩ rfl rfl (Nat.le_of_ble_eq_true rfl) dX7_lasts_29 ?_
      refine g_iload_n hX 2 rfl rfl dX7_lasts_32 ?_
      refine g_icmp_eq hX 40 (by decide) dX7_lasts_33 (fun c33 => ?_) (fun c33 => ?_)
      · refine g_iconst hX (v := -1) (by decide) dX7_lasts_40 ?_
        refine g_istore_n (lv2 := [(2, .int ((-1))), (3, .int (nI (j + 1))), (1, .int ((maskI (sd s) n))), (0, .ref (h0))]) hX 2 4 hN rfl (by decide) rfl dX7_lasts_41 ?_
        refine g_iincN (n := 1) (lv2 := [(3, .int (nI (j + 1 + 1))), (2, .int ((-1))), (1, .int ((maskI (sd s) n))), (0, .ref (h0))]) hX 1 3 4 hN rfl (by decide) rfl dX7_lasts_42 ?_
        refine g_goto hX 13 (by decide) dX7_lasts_45 ?_
        exact ih (j + 1) x25 (by omega) (by rw [← hE, lsO, if_pos c33])
      · refine g_iload_n hX 0 rfl rfl dX7_lasts_36 ?_
        refine g_goto hX 41 (by decide) dX7_lasts_37 ?_
        refine g_istore_n (lv2 := [(2, .int (nI (j + 1))), (3, .int (nI (j + 1))), (1, .int ((maskI (sd s) n))), (0, .ref (h0))]) hX 2 4 hN rfl (by decide) rfl dX7_lasts_41 ?_
        refine g_iincN (n := 1) (lv2 := [(3, .int (nI (j + 1 + 1))), (2, .int (nI (j + 1))), (1, .int ((maskI (sd s) n))), (0, .ref (h0))]) hX 1 3 4 hN rfl (by decide) rfl dX7_lasts_42 ?_
        refine g_goto hX 13 (by decide) dX7_lasts_45 ?_
        refine g_iload_n hX 0 rfl rfl dX7_lasts_13 ?_
        refine g_sipush hX (v := nI 300) (by decide) dX7_lasts_14 ?_
        refine g_icmpN_gt hX (by omega) (by omega) 48 (by decide) dX7_lasts_17 (fun c17 => ?_) (fun c17 => ?_)
        · refine g_aload_n hX 3 rfl rfl dX7_lasts_48 ?_
          refine m_callD hX hzo hC [] [] (c_laysBackT _ _ _ _ hzo hC v (itS s nt n (j + 1)) r1 x25 s hb1 (itS_hi s nt n hn9 _)) kX7_laysBack tMet_X7_187 rfl rfl (Nat.le_of_ble_eq_true rfl) (Nat.le_of_ble_eq_true rfl) ⟨Nat.le_of_ble_eq_true rfl, Nat.le_of_ble_eq_true rfl⟩ rfl rfl (Nat.le_of_ble_eq_true rfl) dX7_lasts_49 ?_
          refine g_iload_n hX 1 rfl rfl dX7_lasts_52 ?_
          refine s_call hX hzo [.int (nI (j + 1))] [] (c_orNone _ _ _ _ _ (nI (j + 1))) kX7_orNone tMet_X7_190 rfl rfl (Nat.le_of_ble_eq_true rfl) (Nat.le_of_ble_eq_true rfl) ⟨Nat.le_of_ble_eq_true rfl, Nat.le_of_ble_eq_true rfl⟩ rfl rfl (Nat.le_of_ble_eq_true rfl) dX7_lasts_53 ?_
          have E : noneI (lsO s nt n 300 1) = (if nI (j + 1) < 0 then -1000000005 else nI (j + 1)) := by rw [← hE, lsO, if_neg c33]; show nI (j + 1) = _; rw [if_neg (nI_pos (by omega))]
          exact g_retiP hR ⟨by rw [E]; try rfl, r1, x25, hrk, rfl⟩ dX7_lasts_56
        · refine g_iload_n hX 1 rfl rfl dX7_lasts_20 ?_
          refine g_ifN_ge hX (by omega) 48 (by decide) dX7_lasts_21 ?_
          refine g_aload_n hX 3 rfl rfl dX7_lasts_48 ?_
          refine m_callD hX hzo hC [] [] (c_laysBackT _ _ _ _ hzo hC v (itS s nt n (j + 1)) r1 x25 s hb1 (itS_hi s nt n hn9 _)) kX7_laysBack tMet_X7_187 rfl rfl (Nat.le_of_ble_eq_true rfl) (Nat.le_of_ble_eq_true rfl) ⟨Nat.le_of_ble_eq_true rfl, Nat.le_of_ble_eq_true rfl⟩ rfl rfl (Nat.le_of_ble_eq_true rfl) dX7_lasts_49 ?_
          refine g_iload_n hX 1 rfl rfl dX7_lasts_52 ?_
          refine s_call hX hzo [.int (nI (j + 1))] [] (c_orNone _ _ _ _ _ (nI (j + 1))) kX7_orNone tMet_X7_190 rfl rfl (Nat.le_of_ble_eq_true rfl) (Nat.le_of_ble_eq_true rfl) ⟨Nat.le_of_ble_eq_true rfl, Nat.le_of_ble_eq_true rfl⟩ rfl rfl (Nat.le_of_ble_eq_true rfl) dX7_lasts_53 ?_
          have E : noneI (lsO s nt n 300 1) = (if nI (j + 1) < 0 then -1000000005 else nI (j + 1)) := by rw [← hE, lsO, if_neg c33]; show nI (j + 1) = _; rw [if_neg (nI_pos (by omega))]
          exact g_retiP hR ⟨by rw [E]; try rfl, r1, x25, hrk, rfl⟩ dX7_lasts_56
  refine g_aload_n hX 0 rfl rfl dX7_lasts_4 ?_
  refine m_callD hX hzo hC [] [] (c_allStanding _ _ _ _ hzo hC v s r1 x n hn hn9) kX7_allStanding tMet_X7_123 rfl rfl (Nat.le_of_ble_eq_true rfl) (Nat.le_of_ble_eq_true rfl) ⟨Nat.le_of_ble_eq_true rfl, Nat.le_of_ble_eq_true rfl⟩ rfl rfl (Nat.le_of_ble_eq_true rfl) dX7_lasts_5 ?_
  refine g_istore_n (lv2 := [(1, .int ((maskI (sd s) n))), (0, .ref (h0))]) hX 1 4 hN rfl (by decide) rfl dX7_lasts_8 ?_
  refine g_iconst hX (v := -1) (by decide) dX7_lasts_9 ?_
  refine g_istore_n (lv2 := [(2, .int ((-1))), (1, .int ((maskI (sd s) n))), (0, .ref (h0))]) hX 2 4 hN rfl (by decide) rfl dX7_lasts_10 ?_
  refine g_iconst hX (v := nI 1) rfl dX7_lasts_11 ?_
  refine g_istore_n (lv2 := [(3, .int (nI (1))), (2, .int ((-1))), (1, .int ((maskI (sd s) n))), (0, .ref (h0))]) hX 3 4 hN rfl (by decide) rfl dX7_lasts_12 ?_
  exact L 300 0 x (by omega) rfl
def takP (s : Nat → Int32) (nt n : Nat) (z y : Int32) : Int32 := match hIx n z with
  | none => -1000000001
  | some k => if inB y 1 60 then (if sd s k then (maskI (sd (itS s nt n y.toNatClampNeg)) n &&& (maskI (sd (itS (fallS s k) nt n y.toNatClampNeg)) n ^^^ (-1))) &&& ((nI 1 <<< (nI k &&& 31)) ^^^ (-1)) else -1000000002) else -1000000001
theorem stOK_fall {s : Nat → Int32} {nt n k : Nat} (h : stOK s nt n) (hk : k < 9) : stOK (fallS s k) nt n := stOK_cong (fun j hj => fallS_out s k j hk (by omega)) (fallS_out s k 0 hk (by omega)) (fallS_out s k 1 hk (by omega)) h
theorem kX7_taken : mKV RX7 yX7_taken cX7_taken 5 (some .int) 2 := ⟨tIns_X7_taken, tSel_X7_taken, tIni_X7, tCod_X7_taken, by decide +kernel⟩
set_option maxHeartbeats 4000000 in
set_option maxRecDepth 100000 in
theorem c_taken (l : Launch) (D : va_G) (cy : Nat → ClassId) (Z : (Nat → Prop) → State → Heap → Prop) (hzo : zOK Z) {h0 : Nat} {a q : Nat → Nat} {C : (Nat → Int32) → (Nat → Int32) → (Nat → Nat → Int32) → (Nat → Nat → Int32) → va_W} (hC : mLens (cy 0) h0 a q C) (v s : Nat → Int32) (r x : Nat → Nat → Int32) (nt n : Nat) (hk : stOK s nt n) (z y : Int32) : GM l D cy Z yX7_taken (zW yX7_taken cX7_taken 5 (some .int)) { frames := 6, cells := 0, slots := 0, locals := 142 } [.ref (h0), .int (z), .int (y)] (C v s r x) (fun res w2 => res = some (.int (takP s nt n z y)) ∧ ∃ r2 x2, rk r r2 ∧ w2 = C v s r2 x2) 0 0 := by
  refine g_entry (cc := cX7_taken) (maxL := 5) (by decide) rfl (Nat.le_of_ble_eq_true rfl) ?_
  intro κ hN hX hR
  have hX : GX κ cy Z cX7_taken (Cond.code yX7_taken cX7_taken 5 (some .int) :: zT) RX7 { frames := 6, cells := 0, slots := 0, locals := 142 } := hX
  show GW κ 0 0 _ 0 [(0, .ref (h0)), (1, .int (z)), (2, .int (y))] []
  have hn9 := hk.2.2.2.2
  have hn := hk.2.2.2.1
  refine g_aload_n hX 0 rfl rfl dX7_taken_0 ?_
  refine g_iload_n hX 1 rfl rfl dX7_taken_1 ?_
  refine m_callD hX hzo hC [.int (z)] [] (c_isHouseN _ _ _ _ hzo hC v s r x n hn (z)) kX7_isHouse tMet_X7_133 rfl rfl (Nat.le_of_ble_eq_true rfl) (Nat.le_of_ble_eq_true rfl) ⟨Nat.le_of_ble_eq_true rfl, Nat.le_of_ble_eq_true rfl⟩ rfl rfl (Nat.le_of_ble_eq_true rfl) dX7_taken_2 ?_
  refine g_ifb_eq hX 20 (by decide) dX7_taken_5 (fun c5 => ?_) (fun c5 => ?_)
  · refine g_ldc hX (v := -1000000001) (zu tCon_X7_100 rfl) dX7_taken_20 ?_
    have E : takP s nt n z y = (-1000000001) := by rw [takP, hIx_f c5]
    exact g_retiP hR ⟨by rw [E]; try rfl, r, x, (rk_r r), rfl⟩ dX7_taken_22
  · obtain ⟨k, hk9, rfl⟩ := hB_t (by omega) c5
    refine g_iload_n hX 2 rfl rfl dX7_taken_8 ?_
    refine g_i2l hX dX7_taken_9 ?_
    refine g_lconst hX (v := Int32.toInt64 (1)) (by decide) dX7_taken_10 ?_
    refine g_ldc2 hX (v := Int32.toInt64 (60)) (zu tCoL_X7_193 rfl) dX7_taken_11 ?_
    refine s_call hX hzo [.long (Int32.toInt64 (y)), .long (Int32.toInt64 ((1))), .long (Int32.toInt64 ((60)))] [] (c_isIn _ _ _ _ _ (y) ((1)) ((60))) kX7_isIn tMet_X7_71 rfl rfl (Nat.le_of_ble_eq_true rfl) (Nat.le_of_ble_eq_true rfl) ⟨Nat.le_of_ble_eq_true rfl, Nat.le_of_ble_eq_true rfl⟩ rfl rfl (Nat.le_of_ble_eq_true rfl) dX7_taken_14 ?_
    refine g_ifb_ne hX 23 (by decide) dX7_taken_17 (fun c17 => ?_) (fun c17 => ?_)
    · obtain ⟨m, hm1, hm9, rfl⟩ := inB_t (lo := 1) (hi := 60) (by decide) (by decide) c17
      refine g_aload_n hX 0 rfl rfl dX7_taken_23 ?_
      refine g_iload_n hX 1 rfl rfl dX7_taken_24 ?_
      refine m_callD hX hzo hC [.int (nI (k))] [] (c_stands _ _ _ _ hzo hC v s r x (k) (by omega)) kX7_stands tMet_X7_119 rfl rfl (Nat.le_of_ble_eq_true rfl) (Nat.le_of_ble_eq_true rfl) ⟨Nat.le_of_ble_eq_true rfl, Nat.le_of_ble_eq_true rfl⟩ rfl rfl (Nat.le_of_ble_eq_true rfl) dX7_taken_25 ?_
      refine g_ifb_ne hX 34 (by decide) dX7_taken_28 (fun c28 => ?_) (fun c28 => ?_)
      · refine g_aload_n hX 0 rfl rfl dX7_taken_34 ?_
        refine m_callD hX hzo hC [] [] (c_laysBy _ _ _ _ hzo hC v s r x) kX7_laysBy tMet_X7_181 rfl rfl (Nat.le_of_ble_eq_true rfl) (Nat.le_of_ble_eq_true rfl) ⟨Nat.le_of_ble_eq_true rfl, Nat.le_of_ble_eq_true rfl⟩ rfl rfl (Nat.le_of_ble_eq_true rfl) dX7_taken_35 ?_
        obtain ⟨r1, er1⟩ : ∃ r1, r1 = mU r 14 (cpN 69 s (r 14)) := ⟨_, rfl⟩
        rw [← er1]
        obtain ⟨hb1, hrk⟩ : (∀ j, j < 69 → r1 14 j = s j) ∧ rk r r1 := by rw [er1]; exact lb_1 s r
        clear er1
        refine g_aload_n hX 0 rfl rfl dX7_taken_38 ?_
        refine g_iload_n hX 2 rfl rfl dX7_taken_39 ?_
        refine m_call hX hzo hC [.int (nI (m))] [] (c_goesOnMany _ _ _ _ hzo hC v s r1 x nt n hk (m) (by omega)) kX7_goesOnMany tMet_X7_184 rfl rfl (Nat.le_of_ble_eq_true rfl) (Nat.le_of_ble_eq_true rfl) ⟨Nat.le_of_ble_eq_true rfl, Nat.le_of_ble_eq_true rfl⟩ rfl (Nat.le_of_ble_eq_true rfl) dX7_taken_40 ?_
        rintro _ _ ⟨rfl, x40, rfl⟩
        show GW κ 0 0 (C v (itS s nt n (m)) r1 x40) 43 [(0, .ref (h0)), (1, .int (nI (k))), (2, .int (nI (m)))] []
        refine g_aload_n hX 0 rfl rfl dX7_taken_43 ?_
        refine m_callD hX hzo hC [] [] (c_allStanding _ _ _ _ hzo hC v (itS s nt n (m)) r1 x40 n (stOK_it hk m).2.2.2.1 hn9) kX7_allStanding tMet_X7_123 rfl rfl (Nat.le_of_ble_eq_true rfl) (Nat.le_of_ble_eq_true rfl) ⟨Nat.le_of_ble_eq_true rfl, Nat.le_of_ble_eq_true rfl⟩ rfl rfl (Nat.le_of_ble_eq_true rfl) dX7_taken_44 ?_
        refine g_istore_n (lv2 := [(3, .int ((maskI (sd (itS s nt n (m))) n))), (0, .ref (h0)), (1, .int (nI (k))), (2, .int (nI (m)))]) hX 3 5 hN rfl (by decide) rfl dX7_taken_47 ?_
        refine g_aload_n hX 1 rfl rfl dX7_taken_48 ?_
        refine m_callD hX hzo hC [] [] (c_laysBackT _ _ _ _ hzo hC v (itS s nt n (m)) r1 x40 s hb1 (itS_hi s nt n hn9 m)) kX7_laysBack tMet_X7_187 rfl rfl (Nat.le_of_ble_eq_true rfl) (Nat.le_of_ble_eq_true rfl) ⟨Nat.le_of_ble_eq_true rfl, Nat.le_of_ble_eq_true rfl⟩ rfl rfl (Nat.le_of_ble_eq_true rfl) dX7_taken_49 ?_
        refine g_aload_n hX 1 rfl rfl dX7_taken_52 ?_
        refine g_iload_n hX 2 rfl rfl dX7_taken_53 ?_
        refine m_callD hX hzo hC [.int (nI (k))] [] (c_falls _ _ _ _ hzo hC v s r1 x40 (k) (by omega)) kX7_falls tMet_X7_153 rfl rfl (Nat.le_of_ble_eq_true rfl) (Nat.le_of_ble_eq_true rfl) ⟨Nat.le_of_ble_eq_true rfl, Nat.le_of_ble_eq_true rfl⟩ rfl rfl (Nat.le_of_ble_eq_true rfl) dX7_taken_54 ?_
        refine g_aload_n hX 1 rfl rfl dX7_taken_57 ?_
        refine g_iload_n hX 3 rfl rfl dX7_taken_58 ?_
        refine m_call hX hzo hC [.int (nI (m))] [] (c_goesOnMany _ _ _ _ hzo hC v (fallS s (k)) r1 x40 nt n (stOK_fall hk (by omega)) (m) (by omega)) kX7_goesOnMany tMet_X7_184 rfl rfl (Nat.le_of_ble_eq_true rfl) (Nat.le_of_ble_eq_true rfl) ⟨Nat.le_of_ble_eq_true rfl, Nat.le_of_ble_eq_true rfl⟩ rfl (Nat.le_of_ble_eq_true rfl) dX7_taken_59 ?_
        rintro _ _ ⟨rfl, x59, rfl⟩
        show GW κ 0 0 (C v (itS (fallS s (k)) nt n (m)) r1 x59) 62 [(3, .int ((maskI (sd (itS s nt n (m))) n))), (0, .ref (h0)), (1, .int (nI (k))), (2, .int (nI (m)))] []
        refine g_iload_n hX 0 rfl rfl dX7_taken_62 ?_
        refine g_aload_n hX 1 rfl rfl dX7_taken_63 ?_
        refine m_callD hX hzo hC [] [.int ((maskI (sd (itS s nt n (m))) n))] (c_allStanding _ _ _ _ hzo hC v (itS (fallS s (k)) nt n (m)) r1 x59 n (stOK_it (stOK_fall hk (by omega)) m).2.2.2.1 hn9) kX7_allStanding tMet_X7_123 rfl rfl (Nat.le_of_ble_eq_true rfl) (Nat.le_of_ble_eq_true rfl) ⟨Nat.le_of_ble_eq_true rfl, Nat.le_of_ble_eq_true rfl⟩ rfl rfl (Nat.le_of_ble_eq_true rfl) dX7_taken_64 ?_
        refine g_iconst hX (v := -1) (by decide) dX7_taken_67 ?_
        refine g_ixor hX dX7_taken_68 ?_
        refine g_iand hX dX7_taken_69 ?_
        refine g_iconst hX (v := nI 1) rfl dX7_taken_70 ?_
        refine g_iload_n hX 2 rfl rfl dX7_taken_71 ?_
        refine g_ishl hX dX7_taken_72 ?_
        refine g_iconst hX (v := -1) (by decide) dX7_taken_73 ?_
        refine g_ixor hX dX7_taken_74 ?_
        refine g_iand hX dX7_taken_75 ?_
        refine g_istore (lv2 := [(4, .int ((((maskI (sd (itS s nt n (m))) n) &&& ((maskI (sd (itS (fallS s (k)) nt n (m))) n) ^^^ (-1))) &&& ((nI (1) <<< (nI (k) &&& 31)) ^^^ (-1))))), (3, .int ((maskI (sd (itS s nt n (m))) n))), (0, .ref (h0)), (1, .int (nI (k))), (2, .int (nI (m)))]) hX 4 5 hN (by decide) rfl dX7_taken_76 ?_
        refine g_aload_n hX 2 rfl rfl dX7_taken_78 ?_
        refine m_callD hX hzo hC [] [] (c_laysBackT _ _ _ _ hzo hC v (itS (fallS s (k)) nt n (m)) r1 x59 s hb1 (fun j hj => (itS_hi (fallS s k) nt n hn9 m j hj).trans (fallS_out s k j (by omega) (by omega)))) kX7_laysBack tMet_X7_187 rfl rfl (Nat.le_of_ble_eq_true rfl) (Nat.le_of_ble_eq_true rfl) ⟨Nat.le_of_ble_eq_true rfl, Nat.le_of_ble_eq_true rfl⟩ rfl rfl (Nat.le_of_ble_eq_true rfl) dX7_taken_79 ?_
        refine g_iload hX 0 rfl dX7_taken_82 ?_
        have E : takP s nt n (nI k) (nI m) = (((maskI (sd (itS s nt n (m))) n) &&& ((maskI (sd (itS (fallS s (k)) nt n (m))) n) ^^^ (-1))) &&& ((nI (1) <<< (nI (k) &&& 31)) ^^^ (-1))) := by rw [takP, hIx_k (by omega) hk9]; show (if _ then _ else _) = _; rw [if_pos c17, nI_clamp (by omega), if_pos c28]
        exact g_retiP hR ⟨by rw [E]; try rfl, r1, x59, hrk, rfl⟩ dX7_taken_84
      · refine g_ldc hX (v := -1000000002) (zu tCon_X7_152 rfl) dX7_taken_31 ?_
        have E : takP s nt n (nI k) (nI m) = (-1000000002) := by rw [takP, hIx_k (by omega) hk9]; show (if _ then _ else _) = _; rw [if_pos c17, nI_clamp (by omega), if_neg (bne c28)]
        exact g_retiP hR ⟨by rw [E]; try rfl, r, x, (rk_r r), rfl⟩ dX7_taken_33
    · refine g_ldc hX (v := -1000000001) (zu tCon_X7_100 rfl) dX7_taken_20 ?_
      have E : takP s nt n (nI k) y = (-1000000001) := by rw [takP, hIx_k (by omega) hk9]; show (if _ then _ else _) = _; rw [if_neg (bne c17)]
      exact g_retiP hR ⟨by rw [E]; try rfl, r, x, (rk_r r), rfl⟩ dX7_taken_22
theorem kX7_keeps : mKV RX7 yX7_keeps cX7_keeps 4 (some .boolean) 1 := ⟨tIns_X7_keeps, tSel_X7_keeps, tIni_X7, tCod_X7_keeps, by decide +kernel⟩
set_option maxHeartbeats 4000000 in
set_option maxRecDepth 100000 in
theorem c_keeps (l : Launch) (D : va_G) (cy : Nat → ClassId) (Z : (Nat → Prop) → State → Heap → Prop) (hzo : zOK Z) {h0 : Nat} {a q : Nat → Nat} {C : (Nat → Int32) → (Nat → Int32) → (Nat → Nat → Int32) → (Nat → Nat → Int32) → va_W} (hC : mLens (cy 0) h0 a q C) (v s : Nat → Int32) (r x : Nat → Nat → Int32) (nt n : Nat) (hk : stOK s nt n) (m : Nat) (hm : m ≤ 100) (s0 : Nat → Int32) (h1 : ∀ j, j < 69 → r 14 j = s0 j) (h2 : ∀ j, 69 ≤ j → s j = s0 j) : GM l D cy Z yX7_keeps (zW yX7_keeps cX7_keeps 4 (some .boolean)) { frames := 6, cells := 0, slots := 0, locals := 142 } [.ref (h0), .int (nI (m))] (C v s r x) (fun res w2 => res = some (.int (bI (keepB s nt n m))) ∧ ∃ x2, w2 = C v s0 r x2) 0 0 := by
  refine g_entry (cc := cX7_keeps) (maxL := 4) (by decide) rfl (Nat.le_of_ble_eq_true rfl) ?_
  intro κ hN hX hR
  have hX : GX κ cy Z cX7_keeps (Cond.code yX7_keeps cX7_keeps 4 (some .boolean) :: zT) RX7 { frames := 6, cells := 0, slots := 0, locals := 142 } := hX
  show GW κ 0 0 _ 0 [(0, .ref (h0)), (1, .int (nI (m)))] []
  have hn9 := hk.2.2.2.2
  refine g_aload_n hX 0 rfl rfl dX7_keeps_0 ?_
  refine m_callD hX hzo hC [] [] (c_allStanding _ _ _ _ hzo hC v s r x n hk.2.2.2.1 hn9) kX7_allStanding tMet_X7_123 rfl rfl (Nat.le_of_ble_eq_true rfl) (Nat.le_of_ble_eq_true rfl) ⟨Nat.le_of_ble_eq_true rfl, Nat.le_of_ble_eq_true rfl⟩ rfl rfl (Nat.le_of_ble_eq_true rfl) dX7_keeps_1 ?_
  refine g_istore_n (lv2 := [(2, .int ((maskI (sd s) n))), (0, .ref (h0)), (1, .int (nI (m)))]) hX 2 4 hN rfl (by decide) rfl dX7_keeps_4 ?_
  refine g_aload_n hX 1 rfl rfl dX7_keeps_5 ?_
  refine g_iload_n hX 2 rfl rfl dX7_keeps_6 ?_
  refine m_call hX hzo hC [.int (nI (m))] [] (c_goesOnMany _ _ _ _ hzo hC v s r x nt n hk (m) (by omega)) kX7_goesOnMany tMet_X7_184 rfl rfl (Nat.le_of_ble_eq_true rfl) (Nat.le_of_ble_eq_true rfl) ⟨Nat.le_of_ble_eq_true rfl, Nat.le_of_ble_eq_true rfl⟩ rfl (Nat.le_of_ble_eq_true rfl) dX7_keeps_7 ?_
  rintro _ _ ⟨rfl, x7, rfl⟩
  show GW κ 0 0 (C v (itS s nt n (m)) r x7) 10 [(2, .int ((maskI (sd s) n))), (0, .ref (h0)), (1, .int (nI (m)))] []
  refine g_aload_n hX 1 rfl rfl dX7_keeps_10 ?_
  refine m_callD hX hzo hC [] [] (c_allStanding _ _ _ _ hzo hC v (itS s nt n (m)) r x7 n (stOK_it hk m).2.2.2.1 hn9) kX7_allStanding tMet_X7_123 rfl rfl (Nat.le_of_ble_eq_true rfl) (Nat.le_of_ble_eq_true rfl) ⟨Nat.le_of_ble_eq_true rfl, Nat.le_of_ble_eq_true rfl⟩ rfl rfl (Nat.le_of_ble_eq_true rfl) dX7_keeps_11 ?_
  refine g_iload_n hX 0 rfl rfl dX7_keeps_14 ?_
  refine g_icmp_ne hX 22 (by decide) dX7_keeps_15 (fun c15 => ?_) (fun c15 => ?_)
  · refine g_iconst hX (v := nI 0) rfl dX7_keeps_22 ?_
    refine g_istore_n (lv2 := [(3, .int (nI (0))), (2, .int ((maskI (sd s) n))), (0, .ref (h0)), (1, .int (nI (m)))]) hX 3 4 hN rfl (by decide) rfl dX7_keeps_23 ?_
    refine g_aload_n hX 2 rfl rfl dX7_keeps_24 ?_
    refine m_callD hX hzo hC [] [] (c_laysBackT _ _ _ _ hzo hC v (itS s nt n (m)) r x7 s0 h1 (fun j hj => (itS_hi s nt n hn9 m j hj).trans (h2 j hj))) kX7_laysBack tMet_X7_187 rfl rfl (Nat.le_of_ble_eq_true rfl) (Nat.le_of_ble_eq_true rfl) ⟨Nat.le_of_ble_eq_true rfl, Nat.le_of_ble_eq_true rfl⟩ rfl rfl (Nat.le_of_ble_eq_true rfl) dX7_keeps_25 ?_
    refine g_iload_n hX 0 rfl rfl dX7_keeps_28 ?_
    have E : keepB s nt n m = false := by rw [keepB]; exact decide_eq_false c15
    rw [show nI 0 = bI (keepB s nt n m) from by rw [E]; rfl]
    exact g_retzP hR ⟨rfl, x7, rfl⟩ dX7_keeps_29
  · refine g_iconst hX (v := nI 1) rfl dX7_keeps_18 ?_
    refine g_goto hX 23 (by decide) dX7_keeps_19 ?_
    refine g_istore_n (lv2 := [(3, .int (nI (1))), (2, .int ((maskI (sd s) n))), (0, .ref (h0)), (1, .int (nI (m)))]) hX 3 4 hN rfl (by decide) rfl dX7_keeps_23 ?_
    refine g_aload_n hX 2 rfl rfl dX7_keeps_24 ?_
    refine m_callD hX hzo hC [] [] (c_laysBackT _ _ _ _ hzo hC v (itS s nt n (m)) r x7 s0 h1 (fun j hj => (itS_hi s nt n hn9 m j hj).trans (h2 j hj))) kX7_laysBack tMet_X7_187 rfl rfl (Nat.le_of_ble_eq_true rfl) (Nat.le_of_ble_eq_true rfl) ⟨Nat.le_of_ble_eq_true rfl, Nat.le_of_ble_eq_true rfl⟩ rfl rfl (Nat.le_of_ble_eq_true rfl) dX7_keeps_25 ?_
    refine g_iload_n hX 0 rfl rfl dX7_keeps_28 ?_
    have E : keepB s nt n m = true := by rw [keepB]; exact decide_eq_true c15
    rw [show nI 1 = bI (keepB s nt n m) from by rw [E]; rfl]
    exact g_retzP hR ⟨rfl, x7, rfl⟩ dX7_keeps_29
