/-- house k falls -/
def fallS (s : Nat → Int32) (k : Nat) : Nat → Int32 := upd (upd s (6 + 7 * k + 6) (nI 1)) (6 + 7 * k + 5) (nI 0)
theorem kX7_falls : mKV RX7 yX7_falls cX7_falls 2 none 1 := ⟨tIns_X7_falls, tSel_X7_falls, tIni_X7, tCod_X7_falls, by decide +kernel⟩
set_option maxHeartbeats 4000000 in
set_option maxRecDepth 100000 in
theorem c_falls (l : Launch) (D : va_G) (cy : Nat → ClassId) (Z : (Nat → Prop) → State → Heap → Prop) (hzo : zOK Z) {h0 : Nat} {a q : Nat → Nat} {C : (Nat → Int32) → (Nat → Int32) → (Nat → Nat → Int32) → (Nat → Nat → Int32) → va_W} (hC : mLens (cy 0) h0 a q C) (v s : Nat → Int32) (r x : Nat → Nat → Int32) (k : Nat) (hk : k < 9) : GD l D cy Z yX7_falls (zW yX7_falls cX7_falls 2 none) { frames := 1, cells := 0, slots := 0, locals := 23 } [.ref (h0), .int (nI (k))] (C v s r x) none (C v (fallS s k) r x) 0 0 := by
  refine g_entry (cc := cX7_falls) (maxL := 2) (by decide) rfl (Nat.le_of_ble_eq_true rfl) ?_
  intro κ hN hX hR
  have hX : GX κ cy Z cX7_falls (Cond.code yX7_falls cX7_falls 2 none :: zT) RX7 { frames := 1, cells := 0, slots := 0, locals := 23 } := hX
  show GW κ 0 0 _ 0 [(0, .ref (h0)), (1, .int (nI (k)))] []
  refine g_aload_n hX 0 rfl rfl dX7_falls_0 ?_
  refine g_iload_n hX 1 rfl rfl dX7_falls_1 ?_
  refine g_bipush hX (v := nI 6) (by decide) dX7_falls_2 ?_
  refine g_iconst hX (v := nI 1) rfl dX7_falls_4 ?_
  refine m_callD hX hzo hC [.int (nI (k)), .int (nI (6)), .int (nI (1))] [] (c_sets _ _ _ _ hzo hC v s r x (k) (6) (by omega) (nI (1))) kX7_sets tMet_X7_80 rfl rfl (Nat.le_of_ble_eq_true rfl) (Nat.le_of_ble_eq_true rfl) ⟨Nat.le_of_ble_eq_true rfl, Nat.le_of_ble_eq_true rfl⟩ rfl rfl (Nat.le_of_ble_eq_true rfl) dX7_falls_5 ?_
  refine g_aload_n hX 0 rfl rfl dX7_falls_8 ?_
  refine g_iload_n hX 1 rfl rfl dX7_falls_9 ?_
  refine g_iconst hX (v := nI 5) rfl dX7_falls_10 ?_
  refine g_iconst hX (v := nI 0) rfl dX7_falls_11 ?_
  refine m_callD hX hzo hC [.int (nI (k)), .int (nI (5)), .int (nI (0))] [] (c_sets _ _ _ _ hzo hC v (upd s (6 + 7 * (k) + (6)) (nI (1))) r x (k) (5) (by omega) (nI (0))) kX7_sets tMet_X7_80 rfl rfl (Nat.le_of_ble_eq_true rfl) (Nat.le_of_ble_eq_true rfl) ⟨Nat.le_of_ble_eq_true rfl, Nat.le_of_ble_eq_true rfl⟩ rfl rfl (Nat.le_of_ble_eq_true rfl) dX7_falls_12 ?_
  exact g_retv hR rfl dX7_falls_15
/-- whether house k, that stands, falls with the next one to which it leans; p0: those that stood at the day's beginning -/
def fwB (p0 : Nat → Bool) (s : Nat → Int32) (n k : Nat) : Bool := if nI 20 ≤ offI (s (6 + 7 * k + 2)) (nI 0) then (match (if s (6 + 7 * k + 2) ≤ 0 then nxL p0 k else nxR p0 (n - (k + 1)) (k + 1)) with | none => false | some o => !(sd s o)) else false
theorem kX7_fallsWith : mKV RX7 yX7_fallsWith cX7_fallsWith 5 (some .boolean) 2 := ⟨tIns_X7_fallsWith, tSel_X7_fallsWith, tIni_X7, tCod_X7_fallsWith, by decide +kernel⟩
set_option maxHeartbeats 4000000 in
set_option maxRecDepth 100000 in
theorem c_fallsWith (l : Launch) (D : va_G) (cy : Nat → ClassId) (Z : (Nat → Prop) → State → Heap → Prop) (hzo : zOK Z) {h0 : Nat} {a q : Nat → Nat} {C : (Nat → Int32) → (Nat → Int32) → (Nat → Nat → Int32) → (Nat → Nat → Int32) → va_W} (hC : mLens (cy 0) h0 a q C) (v s : Nat → Int32) (r x : Nat → Nat → Int32) (n : Nat) (hn : s 0 = nI n) (hn9 : n ≤ 9) (k : Nat) (hk : k < n) (p0 : Nat → Bool) : GD l D cy Z yX7_fallsWith (zW yX7_fallsWith cX7_fallsWith 5 (some .boolean)) { frames := 2, cells := 0, slots := 0, locals := 43 } [.ref (h0), .int (nI (k)), .int (maskI p0 n)] (C v s r x) (some (.int (bI (fwB p0 s n k)))) (C v s r x) 0 0 := by
  refine g_entry (cc := cX7_fallsWith) (maxL := 5) (by decide) rfl (Nat.le_of_ble_eq_true rfl) ?_
  intro κ hN hX hR
  have hX : GX κ cy Z cX7_fallsWith (Cond.code yX7_fallsWith cX7_fallsWith 5 (some .boolean) :: zT) RX7 { frames := 2, cells := 0, slots := 0, locals := 43 } := hX
  show GW κ 0 0 _ 0 [(0, .ref (h0)), (1, .int (nI (k))), (2, .int (maskI p0 n))] []
  refine g_aload_n hX 0 rfl rfl dX7_fallsWith_0 ?_
  refine g_iload_n hX 1 rfl rfl dX7_fallsWith_1 ?_
  refine g_iconst hX (v := nI 2) rfl dX7_fallsWith_2 ?_
  refine m_callD hX hzo hC [.int (nI (k)), .int (nI (2))] [] (c_of _ _ _ _ hzo hC v s r x (k) (2) (by omega)) kX7_of tMet_X7_75 rfl rfl (Nat.le_of_ble_eq_true rfl) (Nat.le_of_ble_eq_true rfl) ⟨Nat.le_of_ble_eq_true rfl, Nat.le_of_ble_eq_true rfl⟩ rfl rfl (Nat.le_of_ble_eq_true rfl) dX7_fallsWith_3 ?_
  refine g_istore_n (lv2 := [(3, .int (s (6 + 7 * (k) + (2)))), (0, .ref (h0)), (1, .int (nI (k))), (2, .int (maskI p0 n))]) hX 3 5 hN rfl (by decide) rfl dX7_fallsWith_6 ?_
  refine g_iload_n hX 0 rfl rfl dX7_fallsWith_7 ?_
  refine g_iconst hX (v := nI 0) rfl dX7_fallsWith_8 ?_
  refine s_call hX hzo [.int (s (6 + 7 * (k) + (2))), .int (nI (0))] [] (c_off _ _ _ _ _ (s (6 + 7 * (k) + (2))) (nI (0))) kX7_off tMet_X7_106 rfl rfl (Nat.le_of_ble_eq_true rfl) (Nat.le_of_ble_eq_true rfl) ⟨Nat.le_of_ble_eq_true rfl, Nat.le_of_ble_eq_true rfl⟩ rfl rfl (Nat.le_of_ble_eq_true rfl) dX7_fallsWith_9 ?_
  refine g_bipush hX (v := nI 20) (by decide) dX7_fallsWith_12 ?_
  refine g_icmp_ge hX 19 (by decide) dX7_fallsWith_14 (fun c14 => ?_) (fun c14 => ?_)
  · refine g_aload_n hX 1 rfl rfl dX7_fallsWith_19 ?_
    refine g_iload_n hX 2 rfl rfl dX7_fallsWith_20 ?_
    refine g_iload_n hX 0 rfl rfl dX7_fallsWith_21 ?_
    refine g_if_le hX 29 (by decide) dX7_fallsWith_22 (fun c22 => ?_) (fun c22 => ?_)
    · refine g_iconst hX (v := -1) (by decide) dX7_fallsWith_29 ?_
      refine g_iload_n hX 3 rfl rfl dX7_fallsWith_30 ?_
      refine m_callD hX hzo hC [.int (nI (k)), .int ((-1)), .int (maskI p0 n)] [] (c_nextL _ _ _ _ hzo hC v s r x n hn hn9 (k) (by omega) (maskI p0 n) p0 (fun o ho => mask_bit _ hn9 ho)) kX7_nextOf tMet_X7_127 rfl rfl (Nat.le_of_ble_eq_true rfl) (Nat.le_of_ble_eq_true rfl) ⟨Nat.le_of_ble_eq_true rfl, Nat.le_of_ble_eq_true rfl⟩ rfl rfl (Nat.le_of_ble_eq_true rfl) dX7_fallsWith_31 ?_
      refine g_istore (lv2 := [(4, .int ((optI (nxL p0 (k))))), (3, .int (s (6 + 7 * (k) + (2)))), (0, .ref (h0)), (1, .int (nI (k))), (2, .int (maskI p0 n))]) hX 4 5 hN (by decide) rfl dX7_fallsWith_34 ?_
      rcases ha : nxL p0 k with _ | a9
      · show GW κ 0 0 _ 36 [(4, .int ((-1))), (3, .int (s (6 + 7 * (k) + (2)))), (0, .ref (h0)), (1, .int (nI (k))), (2, .int (maskI p0 n))] []
        refine g_iload hX 0 rfl dX7_fallsWith_36 ?_
        refine g_if_lt hX 54 (by decide) dX7_fallsWith_38 (fun c38 => ?_) (fun c38 => absurd c38 (fun h => h (by decide)))
        refine g_iconst hX (v := nI 0) rfl dX7_fallsWith_54 ?_
        exact g_retz hR (bI_zero _ (by rw [fwB, if_pos c14, if_pos c22, ha])) rfl dX7_fallsWith_55
      · have hal := nxL_lt ha
        show GW κ 0 0 _ 36 [(4, .int (nI (a9))), (3, .int (s (6 + 7 * (k) + (2)))), (0, .ref (h0)), (1, .int (nI (k))), (2, .int (maskI p0 n))] []
        refine g_iload hX 0 rfl dX7_fallsWith_36 ?_
        refine g_ifN_lt hX (by omega) 54 (by decide) dX7_fallsWith_38 ?_
        refine g_aload_n hX 2 rfl rfl dX7_fallsWith_41 ?_
        refine g_iload hX 0 rfl dX7_fallsWith_42 ?_
        refine m_callD hX hzo hC [.int (nI (a9))] [] (c_stands _ _ _ _ hzo hC v s r x (a9) (by omega)) kX7_stands tMet_X7_119 rfl rfl (Nat.le_of_ble_eq_true rfl) (Nat.le_of_ble_eq_true rfl) ⟨Nat.le_of_ble_eq_true rfl, Nat.le_of_ble_eq_true rfl⟩ rfl rfl (Nat.le_of_ble_eq_true rfl) dX7_fallsWith_44 ?_
        refine g_ifb_ne hX 54 (by decide) dX7_fallsWith_47 (fun c47 => ?_) (fun c47 => ?_)
        · refine g_iconst hX (v := nI 0) rfl dX7_fallsWith_54 ?_
          exact g_retz hR (bI_zero _ (by rw [fwB, if_pos c14, if_pos c22, ha]; show (!(sd s a9)) = _; rw [c47]; rfl)) rfl dX7_fallsWith_55
        · refine g_iconst hX (v := nI 1) rfl dX7_fallsWith_50 ?_
          refine g_goto hX 55 (by decide) dX7_fallsWith_51 ?_
          exact g_retz hR (bI_one _ (by rw [fwB, if_pos c14, if_pos c22, ha]; show (!(sd s a9)) = _; rw [c47]; rfl)) rfl dX7_fallsWith_55
    · refine g_iconst hX (v := nI 1) rfl dX7_fallsWith_25 ?_
      refine g_goto hX 30 (by decide) dX7_fallsWith_26 ?_
      refine g_iload_n hX 3 rfl rfl dX7_fallsWith_30 ?_
      refine m_callD hX hzo hC [.int (nI (k)), .int (nI (1)), .int (maskI p0 n)] [] (c_nextR _ _ _ _ hzo hC v s r x n hn hn9 (k) (by omega) (maskI p0 n) p0 (fun o ho => mask_bit _ hn9 ho)) kX7_nextOf tMet_X7_127 rfl rfl (Nat.le_of_ble_eq_true rfl) (Nat.le_of_ble_eq_true rfl) ⟨Nat.le_of_ble_eq_true rfl, Nat.le_of_ble_eq_true rfl⟩ rfl rfl (Nat.le_of_ble_eq_true rfl) dX7_fallsWith_31 ?_
      refine g_istore (lv2 := [(4, .int ((optI (nxR p0 (n - ((k) + 1)) ((k) + 1))))), (3, .int (s (6 + 7 * (k) + (2)))), (0, .ref (h0)), (1, .int (nI (k))), (2, .int (maskI p0 n))]) hX 4 5 hN (by decide) rfl dX7_fallsWith_34 ?_
      rcases hb : nxR p0 (n - (k + 1)) (k + 1) with _ | b9
      · show GW κ 0 0 _ 36 [(4, .int ((-1))), (3, .int (s (6 + 7 * (k) + (2)))), (0, .ref (h0)), (1, .int (nI (k))), (2, .int (maskI p0 n))] []
        refine g_iload hX 0 rfl dX7_fallsWith_36 ?_
        refine g_if_lt hX 54 (by decide) dX7_fallsWith_38 (fun c38 => ?_) (fun c38 => absurd c38 (fun h => h (by decide)))
        refine g_iconst hX (v := nI 0) rfl dX7_fallsWith_54 ?_
        exact g_retz hR (bI_zero _ (by rw [fwB, if_pos c14, if_neg c22, hb])) rfl dX7_fallsWith_55
      · have hbl := nxR_lt hb
        show GW κ 0 0 _ 36 [(4, .int (nI (b9))), (3, .int (s (6 + 7 * (k) + (2)))), (0, .ref (h0)), (1, .int (nI (k))), (2, .int (maskI p0 n))] []
        refine g_iload hX 0 rfl dX7_fallsWith_36 ?_
        refine g_ifN_lt hX (by omega) 54 (by decide) dX7_fallsWith_38 ?_
        refine g_aload_n hX 2 rfl rfl dX7_fallsWith_41 ?_
        refine g_iload hX 0 rfl dX7_fallsWith_42 ?_
        refine m_callD hX hzo hC [.int (nI (b9))] [] (c_stands _ _ _ _ hzo hC v s r x (b9) (by omega)) kX7_stands tMet_X7_119 rfl rfl (Nat.le_of_ble_eq_true rfl) (Nat.le_of_ble_eq_true rfl) ⟨Nat.le_of_ble_eq_true rfl, Nat.le_of_ble_eq_true rfl⟩ rfl rfl (Nat.le_of_ble_eq_true rfl) dX7_fallsWith_44 ?_
        refine g_ifb_ne hX 54 (by decide) dX7_fallsWith_47 (fun c47 => ?_) (fun c47 => ?_)
        · refine g_iconst hX (v := nI 0) rfl dX7_fallsWith_54 ?_
          exact g_retz hR (bI_zero _ (by rw [fwB, if_pos c14, if_neg c22, hb]; show (!(sd s b9)) = _; rw [c47]; rfl)) rfl dX7_fallsWith_55
        · refine g_iconst hX (v := nI 1) rfl dX7_fallsWith_50 ?_
          refine g_goto hX 55 (by decide) dX7_fallsWith_51 ?_
          exact g_retz hR (bI_one _ (by rw [fwB, if_pos c14, if_neg c22, hb]; show (!(sd s b9)) = _; rw [c47]; rfl)) rfl dX7_fallsWith_55
  · refine g_iconst hX (v := nI 0) rfl dX7_fallsWith_17 ?_
    exact g_retz hR (bI_zero _ (by rw [fwB, if_neg c14])) rfl dX7_fallsWith_18
/-- house k cracks and moves, under the thrust t, bearing b -/
def cm1 (t b : Int32) (s : Nat → Int32) (k : Nat) : Nat → Int32 := if sd s k = true ∧ ¬ offI t (nI 0) - b ≤ 0 then upd (upd s (6 + 7 * k + 4) (heldI (s (6 + 7 * k + 4) + (offI t (nI 0) - b)) (nI 0) (nI 999))) (6 + 7 * k + 2) (heldI (s (6 + 7 * k + 2) + (if t ≤ 0 then -1 else nI 1)) (-50) (nI 50)) else s
def cmS (t b : Nat → Int32) (s : Nat → Int32) : Nat → (Nat → Int32)
  | 0 => s
  | k + 1 => cm1 (t k) (b k) (cmS t b s k) k
/-- house k falls by its cracks -/
def fc1 (s : Nat → Int32) (k : Nat) : Nat → Int32 := if sd s k = true ∧ nI 100 ≤ s (6 + 7 * k + 4) then fallS s k else s
def fcS (s : Nat → Int32) : Nat → (Nat → Int32)
  | 0 => s
  | k + 1 => fc1 (fcS s k) k
/-- a round of falls by neighbours -/
def fnB (p0 : Nat → Bool) (s : Nat → Int32) (n k : Nat) : Bool := sd s k && fwB p0 s n k
def fnS (p0 : Nat → Bool) (n : Nat) (s : Nat → Int32) : Nat → (Nat → Int32) × Bool
  | 0 => (s, false)
  | k + 1 => if fnB p0 (fnS p0 n s k).1 n k then (fallS (fnS p0 n s k).1 k, true) else fnS p0 n s k
/-- rounds, at most f of them, as long as one falls -/
def frS (p0 : Nat → Bool) (n : Nat) : Nat → (Nat → Int32) → (Nat → Int32)
  | 0, s => s
  | f + 1, s => if (fnS p0 n s n).2 then frS p0 n f (fnS p0 n s n).1 else (fnS p0 n s n).1
def prS (s : Nat → Int32) : Nat → Int32
  | 0 => nI 0
  | k + 1 => prS s k + s (6 + 7 * k + 5)
/-- the day's rent, the day's number -/
def reS (s : Nat → Int32) (n : Nat) : Nat → Int32 := upd (upd s 3 (s 3 + prS s n)) 2 (s 2 + nI 1)
/-- a day: houses and rent -/
def dayS (s : Nat → Int32) (nt n : Nat) : Nat → Int32 := reS (frS (sd s) n 10 (fcS (cmS (thS s nt n) (brs s) s n) n)) n
/-- how many stand -/
def stN (s : Nat → Int32) : Nat → Nat
  | 0 => 0
  | k + 1 => stN s k + (if sd s k then 1 else 0)
theorem stN_le (s : Nat → Int32) : ∀ k, stN s k ≤ k := by
  intro k
  induction k with
  | zero => exact Nat.le_refl 0
  | succ k ih => rw [stN]; split <;> omega
theorem fallS_0 (s : Nat → Int32) (k j : Nat) (h : j < 5) : fallS s k j = s j := by rw [fallS, pk_un (by omega), pk_un (by omega)]
theorem sd_fall (s : Nat → Int32) (k j : Nat) : sd (fallS s k) j = (sd s j && !decide (j = k)) := by
  by_cases h : j = k
  · subst h
    simp [sd, fallS, upd]; decide
  · have : fallS s k (6 + 7 * j + 6) = s (6 + 7 * j + 6) := by rw [fallS, pk_un (by omega), pk_un (by omega)]
    simp [sd, this, h]
theorem stN_fall (s : Nat → Int32) (k : Nat) (hk : sd s k = true) : ∀ n, stN (fallS s k) n + (if k < n then 1 else 0) = stN s n := by
  intro n
  induction n with
  | zero => rfl
  | succ n ih =>
    rw [stN, stN, sd_fall]
    by_cases h : n = k
    · subst h
      rw [if_neg (Nat.lt_irrefl _)] at ih
      simp [hk]; omega
    · by_cases h2 : k < n
      · rw [if_pos h2] at ih
        rw [if_pos (show k < n + 1 by omega)]
        simp [h]; omega
      · rw [if_neg h2] at ih
        rw [if_neg (show ¬ k < n + 1 by omega)]
        simp [h]; omega
theorem fnS_sd (p0 : Nat → Bool) (n : Nat) (s : Nat → Int32) : ∀ k, k ≤ n → stN (fnS p0 n s k).1 n + (if (fnS p0 n s k).2 then 1 else 0) ≤ stN s n := by
  intro k
  induction k with
  | zero => intro _; exact Nat.le_refl _
  | succ k ih =>
    intro hk
    have i1 := ih (by omega)
    rw [fnS]
    by_cases h : fnB p0 (fnS p0 n s k).1 n k = true
    · rw [if_pos h]
      have h2 : sd (fnS p0 n s k).1 k = true := by rw [fnB, Bool.and_eq_true] at h; exact h.1
      have e := stN_fall (fnS p0 n s k).1 k h2 n
      rw [if_pos (by omega)] at e
      show stN (fallS (fnS p0 n s k).1 k) n + 1 ≤ _
      split at i1 <;> omega
    · rw [if_neg h]; exact i1
theorem fnS_0 (p0 : Nat → Bool) (n : Nat) (s : Nat → Int32) (j : Nat) (hj : j < 5) : ∀ k, (fnS p0 n s k).1 j = s j := by
  intro k
  induction k with
  | zero => rfl
  | succ k ih =>
    rw [fnS]
    split
    · exact (fallS_0 _ k j hj).trans ih
    · exact ih
theorem fcS_0 (s : Nat → Int32) (j : Nat) (hj : j < 5) : ∀ k, fcS s k j = s j := by
  intro k
  induction k with
  | zero => rfl
  | succ k ih =>
    rw [fcS, fc1]
    split
    · exact (fallS_0 _ k j hj).trans ih
    · exact ih
theorem cmS_0 (t b s : Nat → Int32) (j : Nat) (hj : j < 5) : ∀ k, cmS t b s k j = s j := by
  intro k
  induction k with
  | zero => rfl
  | succ k ih =>
    rw [cmS, cm1]
    split
    · rw [pk_un (by omega), pk_un (by omega)]; exact ih
    · exact ih
theorem kX7_goesOn : mKV RX7 yX7_goesOn cX7_goesOn 5 none 0 := ⟨tIns_X7_goesOn, tSel_X7_goesOn, tIni_X7, tCod_X7_goesOn, by decide +kernel⟩
set_option maxHeartbeats 4000000 in
set_option maxRecDepth 100000 in
theorem c_goesOn (l : Launch) (D : va_G) (cy : Nat → ClassId) (Z : (Nat → Prop) → State → Heap → Prop) (hzo : zOK Z) {h0 : Nat} {a q : Nat → Nat} {C : (Nat → Int32) → (Nat → Int32) → (Nat → Nat → Int32) → (Nat → Nat → Int32) → va_W} (hC : mLens (cy 0) h0 a q C) (v s : Nat → Int32) (r x : Nat → Nat → Int32) (nt : Nat) (hnt : s 1 = nI nt) (hnt14 : nt ≤ 14) (htx : ∀ t, t < nt → textOK s t) (n : Nat) (hn : s 0 = nI n) (hn9 : n ≤ 9) : GM l D cy Z yX7_goesOn (zW yX7_goesOn cX7_goesOn 5 none) { frames := 4, cells := 0, slots := 0, locals := 96 } [.ref (h0)] (C v s r x) (fun res w2 => res = none ∧ ∃ x2, w2 = C v (dayS s nt n) r x2) 0 0 := by
  refine g_entry (cc := cX7_goesOn) (maxL := 5) (by decide) rfl (Nat.le_of_ble_eq_true rfl) ?_
  intro κ hN hX hR
  have hX : GX κ cy Z cX7_goesOn (Cond.code yX7_goesOn cX7_goesOn 5 none :: zT) RX7 { frames := 4, cells := 0, slots := 0, locals := 96 } := hX
  show GW κ 0 0 _ 0 [(0, .ref (h0))] []
  have J253 : ∀ (s9 : Nat → Int32) (x9 : Nat → Nat → Int32), s9 0 = nI n → reS s9 n = dayS s nt n → GW κ 0 0 (C v s9 r x9) 253 [(2, .int (nI 0)), (0, .ref h0)] [] := by
    intro s9 x9 hn9s hE
    have L : ∀ (f i : Nat), i ≤ n → n + 1 ≤ i + f → GW κ 0 0 (C v s9 r x9) 256 [(4, .int (nI (i))), (2, .int (prS s9 i)), (0, .ref (h0))] [] := by
      intro f
      induction f with
      | zero => intro i h1 h2; exact absurd h2 (by omega)
      | succ f ih =>
        intro i h1 h2
        refine g_iload hX 0 rfl dX7_goesOn_256 ?_
        refine g_aload_n hX 2 rfl rfl dX7_goesOn_258 ?_
        refine m_getA hX hC 0 (by decide) rfl tFld_X7_7 dX7_goesOn_259 ?_
        refine g_iconst hX (v := nI 0) rfl dX7_goesOn_262 ?_
        refine m0_aldN hX hC (by omega) dX7_goesOn_263 ?_
        refine g_top (y := .int (nI (n))) (congrArg Value.int hn9s) ?_
        refine g_icmpN_ge hX (by omega) (by omega) 283 (by decide) dX7_goesOn_264 (fun c264 => ?_) (fun c264 => ?_)
        · refine g_aload_n hX 2 rfl rfl dX7_goesOn_283 ?_
          refine m_getA hX hC 0 (by decide) rfl tFld_X7_7 dX7_goesOn_284 ?_
          refine g_iconst hX (v := nI 3) rfl dX7_goesOn_287 ?_
          refine g_dup2 hX rfl rfl dX7_goesOn_288 ?_
          refine m0_aldN hX hC (by omega) dX7_goesOn_289 ?_
          refine g_iload_n hX 1 rfl rfl dX7_goesOn_290 ?_
          refine g_iadd hX dX7_goesOn_291 ?_
          refine m0_astN hX hC (by omega) dX7_goesOn_292 ?_
          refine g_aload_n hX 2 rfl rfl dX7_goesOn_293 ?_
          refine m_getA hX hC 0 (by decide) rfl tFld_X7_7 dX7_goesOn_294 ?_
          refine g_iconst hX (v := nI 2) rfl dX7_goesOn_297 ?_
          refine g_dup2 hX rfl rfl dX7_goesOn_298 ?_
          refine m0_aldN hX hC (by omega) dX7_goesOn_299 ?_
          refine g_iconst hX (v := nI 1) rfl dX7_goesOn_300 ?_
          refine g_iadd hX dX7_goesOn_301 ?_
          refine m0_astN hX hC (by omega) dX7_goesOn_302 ?_
          exact g_retvP hR ⟨rfl, x9, by rw [← hE, show i = n from by omega]; rfl⟩ dX7_goesOn_303
        · refine g_iload_n hX 1 rfl rfl dX7_goesOn_267 ?_
          refine g_aload_n hX 2 rfl rfl dX7_goesOn_268 ?_
          refine g_iload hX 0 rfl dX7_goesOn_269 ?_
          refine g_iconst hX (v := nI 5) rfl dX7_goesOn_271 ?_
          refine m_callD hX hzo hC [.int (nI (i)), .int (nI (5))] [.int (prS s9 i)] (c_of _ _ _ _ hzo hC v s9 r x9 (i) (5) (by omega)) kX7_of tMet_X7_75 rfl rfl (Nat.le_of_ble_eq_true rfl) (Nat.le_of_ble_eq_true rfl) ⟨Nat.le_of_ble_eq_true rfl, Nat.le_of_ble_eq_true rfl⟩ rfl rfl (Nat.le_of_ble_eq_true rfl) dX7_goesOn_272 ?_
          refine g_iadd hX dX7_goesOn_275 ?_
          refine g_istore_n (lv2 := [(2, .int ((prS s9 i + s9 (6 + 7 * (i) + (5))))), (4, .int (nI (i))), (0, .ref (h0))]) hX 2 5 hN rfl (by decide) rfl dX7_goesOn_276 ?_
          refine g_iincN (n := 1) (lv2 := [(4, .int (nI (i + 1))), (2, .int ((prS s9 i + s9 (6 + 7 * (i) + (5))))), (0, .ref (h0))]) hX 1 4 5 hN rfl (by decide) rfl dX7_goesOn_277 ?_
          refine g_goto hX 256 (by decide) dX7_goesOn_280 ?_
          exact ih (i + 1) (by omega) (by omega)
    refine g_iconst hX (v := nI 0) rfl dX7_goesOn_253 ?_
    refine g_istore (lv2 := [(4, .int (nI (0))), (2, .int (nI (0))), (0, .ref (h0))]) hX 4 5 hN (by decide) rfl dX7_goesOn_254 ?_
    exact L (n + 1) 0 (by omega) (by omega)
  have J201 : ∀ (s8 : Nat → Int32) (x9 : Nat → Nat → Int32), s8 0 = nI n → GW κ 0 0 (C v (fnS (sd s) n s8 n).1 r x9) 197 [(3, .int (bI (fnS (sd s) n s8 n).2)), (1, .int (maskI (sd s) n)), (2, .int (nI 0)), (0, .ref h0)] [] → GW κ 0 0 (C v s8 r x9) 201 [(3, .int (nI 1)), (1, .int (maskI (sd s) n)), (2, .int (nI 0)), (0, .ref h0)] [] := by
    intro s8 x9 h80 H
    have L : ∀ (f i : Nat), i ≤ n → n + 1 ≤ i + f → GW κ 0 0 (C v (fnS (sd s) n s8 i).1 r x9) 206 [(4, .int (nI (i))), (3, .int (bI ((fnS (sd s) n s8 i).2))), (1, .int (maskI (sd s) n)), (2, .int (nI (0))), (0, .ref (h0))] [] := by
      intro f
      induction f with
      | zero => intro i h1 h2; exact absurd h2 (by omega)
      | succ f ih =>
        intro i h1 h2
        have hn9s : (fnS (sd s) n s8 i).1 0 = nI n := by rw [fnS_0 _ _ _ 0 (by decide)]; exact h80
        refine g_iload hX 0 rfl dX7_goesOn_206 ?_
        refine g_aload_n hX 4 rfl rfl dX7_goesOn_208 ?_
        refine m_getA hX hC 0 (by decide) rfl tFld_X7_7 dX7_goesOn_209 ?_
        refine g_iconst hX (v := nI 0) rfl dX7_goesOn_212 ?_
        refine m0_aldN hX hC (by omega) dX7_goesOn_213 ?_
        refine g_top (y := .int (nI (n))) (congrArg Value.int hn9s) ?_
        refine g_icmpN_ge hX (by omega) (by omega) 250 (by decide) dX7_goesOn_214 (fun c214 => ?_) (fun c214 => ?_)
        · refine g_lv [1, 2, 3, 4] rfl ?_
          refine g_goto hX 197 (by decide) dX7_goesOn_250 ?_
          rw [show i = n from by omega]
          exact H
        · refine g_aload_n hX 4 rfl rfl dX7_goesOn_217 ?_
          refine g_iload hX 0 rfl dX7_goesOn_218 ?_
          refine m_callD hX hzo hC [.int (nI (i))] [] (c_stands _ _ _ _ hzo hC v (fnS (sd s) n s8 i).1 r x9 (i) (by omega)) kX7_stands tMet_X7_119 rfl rfl (Nat.le_of_ble_eq_true rfl) (Nat.le_of_ble_eq_true rfl) ⟨Nat.le_of_ble_eq_true rfl, Nat.le_of_ble_eq_true rfl⟩ rfl rfl (Nat.le_of_ble_eq_true rfl) dX7_goesOn_220 ?_
          refine g_ifb_eq hX 244 (by decide) dX7_goesOn_223 (fun c223 => ?_) (fun c223 => ?_)
          · refine g_iincN (n := 1) (lv2 := [(4, .int (nI (i + 1))), (3, .int (bI ((fnS (sd s) n s8 i).2))), (1, .int (maskI (sd s) n)), (2, .int (nI (0))), (0, .ref (h0))]) hX 0 4 5 hN rfl (by decide) rfl dX7_goesOn_244 ?_
            refine g_goto hX 206 (by decide) dX7_goesOn_247 ?_
            have e : fnS (sd s) n s8 (i + 1) = fnS (sd s) n s8 i := by rw [fnS, if_neg (by rw [fnB, c223, Bool.false_and]; decide)]
            have K := ih (i + 1) (by omega) (by omega)
            rw [e] at K
            exact K
          · refine g_aload_n hX 4 rfl rfl dX7_goesOn_226 ?_
            refine g_iload hX 0 rfl dX7_goesOn_227 ?_
            refine g_iload_n hX 2 rfl rfl dX7_goesOn_229 ?_
            refine m_callD hX hzo hC [.int (nI (i)), .int (maskI (sd s) n)] [] (c_fallsWith _ _ _ _ hzo hC v (fnS (sd s) n s8 i).1 r x9 n hn9s hn9 (i) (by omega) (sd s)) kX7_fallsWith tMet_X7_167 rfl rfl (Nat.le_of_ble_eq_true rfl) (Nat.le_of_ble_eq_true rfl) ⟨Nat.le_of_ble_eq_true rfl, Nat.le_of_ble_eq_true rfl⟩ rfl rfl (Nat.le_of_ble_eq_true rfl) dX7_goesOn_230 ?_
            refine g_ifb_eq hX 244 (by decide) dX7_goesOn_233 (fun c233 => ?_) (fun c233 => ?_)
            · refine g_iincN (n := 1) (lv2 := [(4, .int (nI (i + 1))), (3, .int (bI ((fnS (sd s) n s8 i).2))), (1, .int (maskI (sd s) n)), (2, .int (nI (0))), (0, .ref (h0))]) hX 0 4 5 hN rfl (by decide) rfl dX7_goesOn_244 ?_
              refine g_goto hX 206 (by decide) dX7_goesOn_247 ?_
              have e : fnS (sd s) n s8 (i + 1) = fnS (sd s) n s8 i := by rw [fnS, if_neg (by rw [fnB, c223, c233]; decide)]
              have K := ih (i + 1) (by omega) (by omega)
              rw [e] at K
              exact K
            · refine g_aload_n hX 4 rfl rfl dX7_goesOn_236 ?_
              refine g_iload hX 0 rfl dX7_goesOn_237 ?_
              refine m_callD hX hzo hC [.int (nI (i))] [] (c_falls _ _ _ _ hzo hC v (fnS (sd s) n s8 i).1 r x9 (i) (by omega)) kX7_falls tMet_X7_153 rfl rfl (Nat.le_of_ble_eq_true rfl) (Nat.le_of_ble_eq_true rfl) ⟨Nat.le_of_ble_eq_true rfl, Nat.le_of_ble_eq_true rfl⟩ rfl rfl (Nat.le_of_ble_eq_true rfl) dX7_goesOn_239 ?_
              refine g_iconst hX (v := nI 1) rfl dX7_goesOn_242 ?_
              refine g_istore_n (lv2 := [(3, .int (nI (1))), (4, .int (nI (i))), (1, .int (maskI (sd s) n)), (2, .int (nI (0))), (0, .ref (h0))]) hX 3 5 hN rfl (by decide) rfl dX7_goesOn_243 ?_
              refine g_iincN (n := 1) (lv2 := [(4, .int (nI (i + 1))), (3, .int (nI (1))), (1, .int (maskI (sd s) n)), (2, .int (nI (0))), (0, .ref (h0))]) hX 1 4 5 hN rfl (by decide) rfl dX7_goesOn_244 ?_
              refine g_goto hX 206 (by decide) dX7_goesOn_247 ?_
              have e : fnS (sd s) n s8 (i + 1) = (fallS (fnS (sd s) n s8 i).1 i, true) := by rw [fnS, if_pos (by rw [fnB, c223, c233]; rfl)]
              have K := ih (i + 1) (by omega) (by omega)
              rw [e] at K
              exact K
    refine g_iconst hX (v := nI 0) rfl dX7_goesOn_201 ?_
    refine g_istore_n (lv2 := [(3, .int (nI (0))), (1, .int (maskI (sd s) n)), (2, .int (nI (0))), (0, .ref (h0))]) hX 3 5 hN rfl (by decide) rfl dX7_goesOn_202 ?_
    refine g_iconst hX (v := nI 0) rfl dX7_goesOn_203 ?_
    refine g_istore (lv2 := [(4, .int (nI (0))), (3, .int (nI (0))), (1, .int (maskI (sd s) n)), (2, .int (nI (0))), (0, .ref (h0))]) hX 4 5 hN (by decide) rfl dX7_goesOn_204 ?_
    exact L (n + 1) 0 (by omega) (by omega)
  have J197 : ∀ (f : Nat) (s8 : Nat → Int32) (x9 : Nat → Nat → Int32), s8 0 = nI n → stN s8 n < f → reS (frS (sd s) n f s8) n = dayS s nt n → GW κ 0 0 (C v s8 r x9) 197 [(3, .int (nI 1)), (1, .int (maskI (sd s) n)), (2, .int (nI 0)), (0, .ref h0)] [] := by
    intro f
    induction f with
    | zero => intro s8 x9 h80 h2; exact absurd h2 (Nat.not_lt_zero _)
    | succ f ih =>
      intro s8 x9 h80 h2 hE
      refine g_iload_n hX 0 rfl rfl dX7_goesOn_197 ?_
      refine g_ifN_eq hX (by decide) 253 (by decide) dX7_goesOn_198 (fun c => absurd c (by decide)) (fun _ => ?_)
      refine J201 s8 x9 h80 ?_
      have hle := fnS_sd (sd s) n s8 n (Nat.le_refl n)
      have h0' : (fnS (sd s) n s8 n).1 0 = nI n := by rw [fnS_0 _ _ _ 0 (by decide)]; exact h80
      rw [frS] at hE
      cases hm : (fnS (sd s) n s8 n).2 with
      | true =>
        rw [hm] at hE hle
        rw [if_pos rfl] at hE hle
        exact ih _ x9 h0' (by omega) hE
      | false =>
        rw [hm] at hE
        rw [if_neg (by decide)] at hE
        refine g_iload_n hX 0 rfl rfl dX7_goesOn_197 ?_
        refine g_ifb_eq hX 253 (by decide) dX7_goesOn_198 (fun _ => ?_) (fun c => absurd c (by decide))
        refine g_lv [2, 3] rfl ?_
        exact J253 _ x9 h0' hE
  have J153 : ∀ (s7 : Nat → Int32) (x9 : Nat → Nat → Int32), s7 0 = nI n → reS (frS (sd s) n 10 (fcS s7 n)) n = dayS s nt n → GW κ 0 0 (C v s7 r x9) 153 [(3, .int (nI n)), (1, .int (maskI (sd s) n)), (2, .int (nI 0)), (0, .ref h0)] [] := by
    intro s7 x9 h70 hE
    have L : ∀ (f i : Nat), i ≤ n → n + 1 ≤ i + f → GW κ 0 0 (C v (fcS s7 i) r x9) 155 [(3, .int (nI (i))), (1, .int (maskI (sd s) n)), (2, .int (nI (0))), (0, .ref (h0))] [] := by
      intro f
      induction f with
      | zero => intro i h1 h2; exact absurd h2 (by omega)
      | succ f ih =>
        intro i h1 h2
        have hn9s : fcS s7 i 0 = nI n := by rw [fcS_0 _ 0 (by decide)]; exact h70
        refine g_iload_n hX 0 rfl rfl dX7_goesOn_155 ?_
        refine g_aload_n hX 3 rfl rfl dX7_goesOn_156 ?_
        refine m_getA hX hC 0 (by decide) rfl tFld_X7_7 dX7_goesOn_157 ?_
        refine g_iconst hX (v := nI 0) rfl dX7_goesOn_160 ?_
        refine m0_aldN hX hC (by omega) dX7_goesOn_161 ?_
        refine g_top (y := .int (nI (n))) (congrArg Value.int hn9s) ?_
        refine g_icmpN_ge hX (by omega) (by omega) 195 (by decide) dX7_goesOn_162 (fun c162 => ?_) (fun c162 => ?_)
        · have hi : i = n := by omega
          subst hi
          refine g_iconst hX (v := nI 1) rfl dX7_goesOn_195 ?_
          refine g_istore_n (lv2 := [(3, .int (nI 1)), (1, .int (maskI (sd s) i)), (2, .int (nI 0)), (0, .ref h0)]) hX 3 5 hN rfl (by decide) rfl dX7_goesOn_196 ?_
          exact J197 10 _ x9 hn9s (Nat.lt_of_le_of_lt (stN_le _ _) (by omega)) hE
        · refine g_aload_n hX 3 rfl rfl dX7_goesOn_165 ?_
          refine g_iload_n hX 0 rfl rfl dX7_goesOn_166 ?_
          refine m_callD hX hzo hC [.int (nI (i))] [] (c_stands _ _ _ _ hzo hC v (fcS s7 i) r x9 (i) (by omega)) kX7_stands tMet_X7_119 rfl rfl (Nat.le_of_ble_eq_true rfl) (Nat.le_of_ble_eq_true rfl) ⟨Nat.le_of_ble_eq_true rfl, Nat.le_of_ble_eq_true rfl⟩ rfl rfl (Nat.le_of_ble_eq_true rfl) dX7_goesOn_167 ?_
          refine g_ifb_eq hX 189 (by decide) dX7_goesOn_170 (fun c170 => ?_) (fun c170 => ?_)
          · refine g_iincN (n := 1) (lv2 := [(3, .int (nI (i + 1))), (1, .int (maskI (sd s) n)), (2, .int (nI (0))), (0, .ref (h0))]) hX 0 3 5 hN rfl (by decide) rfl dX7_goesOn_189 ?_
            refine g_goto hX 155 (by decide) dX7_goesOn_192 ?_
            have e : fcS s7 (i + 1) = fcS s7 i := by rw [fcS, fc1, if_neg (fun h => by rw [c170] at h; exact absurd h.1 (by decide))]
            have K := ih (i + 1) (by omega) (by omega)
            rw [e] at K
            exact K
          · refine g_aload_n hX 3 rfl rfl dX7_goesOn_173 ?_
            refine g_iload_n hX 0 rfl rfl dX7_goesOn_174 ?_
            refine g_iconst hX (v := nI 4) rfl dX7_goesOn_175 ?_
            refine m_callD hX hzo hC [.int (nI (i)), .int (nI (4))] [] (c_of _ _ _ _ hzo hC v (fcS s7 i) r x9 (i) (4) (by omega)) kX7_of tMet_X7_75 rfl rfl (Nat.le_of_ble_eq_true rfl) (Nat.le_of_ble_eq_true rfl) ⟨Nat.le_of_ble_eq_true rfl, Nat.le_of_ble_eq_true rfl⟩ rfl rfl (Nat.le_of_ble_eq_true rfl) dX7_goesOn_176 ?_
            refine g_bipush hX (v := nI 100) (by decide) dX7_goesOn_179 ?_
            refine g_icmp_lt hX 189 (by decide) dX7_goesOn_181 (fun c181 => ?_) (fun c181 => ?_)
            · refine g_iincN (n := 1) (lv2 := [(3, .int (nI (i + 1))), (1, .int (maskI (sd s) n)), (2, .int (nI (0))), (0, .ref (h0))]) hX 0 3 5 hN rfl (by decide) rfl dX7_goesOn_189 ?_
              refine g_goto hX 155 (by decide) dX7_goesOn_192 ?_
              have e : fcS s7 (i + 1) = fcS s7 i := by rw [fcS, fc1, if_neg (fun h => Int32.not_lt.mpr h.2 c181)]
              have K := ih (i + 1) (by omega) (by omega)
              rw [e] at K
              exact K
            · refine g_aload_n hX 3 rfl rfl dX7_goesOn_184 ?_
              refine g_iload_n hX 0 rfl rfl dX7_goesOn_185 ?_
              refine m_callD hX hzo hC [.int (nI (i))] [] (c_falls _ _ _ _ hzo hC v (fcS s7 i) r x9 (i) (by omega)) kX7_falls tMet_X7_153 rfl rfl (Nat.le_of_ble_eq_true rfl) (Nat.le_of_ble_eq_true rfl) ⟨Nat.le_of_ble_eq_true rfl, Nat.le_of_ble_eq_true rfl⟩ rfl rfl (Nat.le_of_ble_eq_true rfl) dX7_goesOn_186 ?_
              refine g_iincN (n := 1) (lv2 := [(3, .int (nI (i + 1))), (1, .int (maskI (sd s) n)), (2, .int (nI (0))), (0, .ref (h0))]) hX 0 3 5 hN rfl (by decide) rfl dX7_goesOn_189 ?_
              refine g_goto hX 155 (by decide) dX7_goesOn_192 ?_
              have e : fcS s7 (i + 1) = fallS (fcS s7 i) i := by rw [fcS, fc1, if_pos ⟨c170, Int32.not_lt.mp c181⟩]
              have K := ih (i + 1) (by omega) (by omega)
              rw [e] at K
              exact K
    refine g_iconst hX (v := nI 0) rfl dX7_goesOn_153 ?_
    refine g_istore_n (lv2 := [(3, .int (nI (0))), (1, .int (maskI (sd s) n)), (2, .int (nI (0))), (0, .ref (h0))]) hX 3 5 hN rfl (by decide) rfl dX7_goesOn_154 ?_
    exact L (n + 1) 0 (by omega) (by omega)
  have J47 : ∀ (x9 : Nat → Nat → Int32), (∀ j, j < n → x9 12 j = thS s nt n j) → (∀ j, j < n → x9 13 j = brs s j) → GW κ 0 0 (C v s r x9) 47 [(3, .int (nI n)), (1, .int (maskI (sd s) n)), (2, .int (nI 0)), (0, .ref h0)] [] := by
    intro x9 ht1 hb1
    have L : ∀ (f i : Nat), i ≤ n → n + 1 ≤ i + f → GW κ 0 0 (C v (cmS (thS s nt n) (brs s) s i) r x9) 49 [(3, .int (nI (i))), (1, .int (maskI (sd s) n)), (2, .int (nI (0))), (0, .ref (h0))] [] := by
      intro f
      induction f with
      | zero => intro i h1 h2; exact absurd h2 (by omega)
      | succ f ih =>
        intro i h1 h2
        have hn9s : (cmS (thS s nt n) (brs s) s i) 0 = nI n := by rw [cmS_0 _ _ _ 0 (by decide)]; exact hn
        refine g_iload_n hX 0 rfl rfl dX7_goesOn_49 ?_
        refine g_aload_n hX 3 rfl rfl dX7_goesOn_50 ?_
        refine m_getA hX hC 0 (by decide) rfl tFld_X7_7 dX7_goesOn_51 ?_
        refine g_iconst hX (v := nI 0) rfl dX7_goesOn_54 ?_
        refine m0_aldN hX hC (by omega) dX7_goesOn_55 ?_
        refine g_top (y := .int (nI (n))) (congrArg Value.int hn9s) ?_
        refine g_icmpN_ge hX (by omega) (by omega) 153 (by decide) dX7_goesOn_56 (fun c56 => ?_) (fun c56 => ?_)
        · have hi : i = n := by omega
          subst hi
          exact J153 _ x9 hn9s rfl
        · refine g_aload_n hX 3 rfl rfl dX7_goesOn_59 ?_
          refine m_getA hX hC 12 (by decide) rfl tFld_X7_43 dX7_goesOn_60 ?_
          refine g_iload_n hX 0 rfl rfl dX7_goesOn_63 ?_
          refine mb_aldN hX hC 12 rfl (show _ < mN 12 from by simp only [mN]; omega) (by decide) dX7_goesOn_64 ?_
          refine g_top (y := .int ((thS s nt n i))) (congrArg Value.int (ht1 i (by omega))) ?_
          refine g_iconst hX (v := nI 0) rfl dX7_goesOn_65 ?_
          refine s_call hX hzo [.int ((thS s nt n i)), .int (nI (0))] [] (c_off _ _ _ _ _ ((thS s nt n i)) (nI (0))) kX7_off tMet_X7_106 rfl rfl (Nat.le_of_ble_eq_true rfl) (Nat.le_of_ble_eq_true rfl) ⟨Nat.le_of_ble_eq_true rfl, Nat.le_of_ble_eq_true rfl⟩ rfl rfl (Nat.le_of_ble_eq_true rfl) dX7_goesOn_66 ?_
          refine g_aload_n hX 3 rfl rfl dX7_goesOn_69 ?_
          refine m_getA hX hC 13 (by decide) rfl tFld_X7_46 dX7_goesOn_70 ?_
          refine g_iload_n hX 0 rfl rfl dX7_goesOn_73 ?_
          refine mb_aldN hX hC 13 rfl (show _ < mN 13 from by simp only [mN]; omega) (by decide) dX7_goesOn_74 ?_
          refine g_top (y := .int ((brs s i))) (congrArg Value.int (hb1 i (by omega))) ?_
          refine g_isub hX dX7_goesOn_75 ?_
          refine g_istore (lv2 := [(4, .int (((offI ((thS s nt n i)) (nI (0))) - (brs s i)))), (3, .int (nI (i))), (1, .int (maskI (sd s) n)), (2, .int (nI (0))), (0, .ref (h0))]) hX 4 5 hN (by decide) rfl dX7_goesOn_76 ?_
          refine g_aload_n hX 4 rfl rfl dX7_goesOn_78 ?_
          refine g_iload_n hX 1 rfl rfl dX7_goesOn_79 ?_
          refine m_callD hX hzo hC [.int (nI (i))] [] (c_stands _ _ _ _ hzo hC v (cmS (thS s nt n) (brs s) s i) r x9 (i) (by omega)) kX7_stands tMet_X7_119 rfl rfl (Nat.le_of_ble_eq_true rfl) (Nat.le_of_ble_eq_true rfl) ⟨Nat.le_of_ble_eq_true rfl, Nat.le_of_ble_eq_true rfl⟩ rfl rfl (Nat.le_of_ble_eq_true rfl) dX7_goesOn_80 ?_
          refine g_ifb_eq hX 147 (by decide) dX7_goesOn_83 (fun c83 => ?_) (fun c83 => ?_)
          · refine g_iincN (n := 1) (lv2 := [(3, .int (nI (i + 1))), (4, .int (((offI ((thS s nt n i)) (nI (0))) - (brs s i)))), (1, .int (maskI (sd s) n)), (2, .int (nI (0))), (0, .ref (h0))]) hX 1 3 5 hN rfl (by decide) rfl dX7_goesOn_147 ?_
            refine g_goto hX 49 (by decide) dX7_goesOn_150 ?_
            refine g_lv [0, 2, 3, 4] rfl ?_
            have e : cmS (thS s nt n) (brs s) s (i + 1) = cmS (thS s nt n) (brs s) s i := by rw [cmS, cm1, if_neg (fun h => by rw [c83] at h; exact absurd h.1 (by decide))]
            have K := ih (i + 1) (by omega) (by omega)
            rw [e] at K
            exact K
          · refine g_iload hX 0 rfl dX7_goesOn_86 ?_
            refine g_if_le hX 147 (by decide) dX7_goesOn_88 (fun c88 => ?_) (fun c88 => ?_)
            · refine g_iincN (n := 1) (lv2 := [(3, .int (nI (i + 1))), (4, .int (((offI ((thS s nt n i)) (nI (0))) - (brs s i)))), (1, .int (maskI (sd s) n)), (2, .int (nI (0))), (0, .ref (h0))]) hX 1 3 5 hN rfl (by decide) rfl dX7_goesOn_147 ?_
              refine g_goto hX 49 (by decide) dX7_goesOn_150 ?_
              refine g_lv [0, 2, 3, 4] rfl ?_
              have e : cmS (thS s nt n) (brs s) s (i + 1) = cmS (thS s nt n) (brs s) s i := by rw [cmS, cm1, if_neg (fun h => h.2 c88)]
              have K := ih (i + 1) (by omega) (by omega)
              rw [e] at K
              exact K
            · refine g_aload_n hX 4 rfl rfl dX7_goesOn_91 ?_
              refine g_iload_n hX 1 rfl rfl dX7_goesOn_92 ?_
              refine g_iconst hX (v := nI 4) rfl dX7_goesOn_93 ?_
              refine g_aload_n hX 4 rfl rfl dX7_goesOn_94 ?_
              refine g_iload_n hX 1 rfl rfl dX7_goesOn_95 ?_
              refine g_iconst hX (v := nI 4) rfl dX7_goesOn_96 ?_
              refine m_callD hX hzo hC [.int (nI (i)), .int (nI (4))] [.int (nI (4)), .int (nI (i)), .ref (h0)] (c_of _ _ _ _ hzo hC v (cmS (thS s nt n) (brs s) s i) r x9 (i) (4) (by omega)) kX7_of tMet_X7_75 rfl rfl (Nat.le_of_ble_eq_true rfl) (Nat.le_of_ble_eq_true rfl) ⟨Nat.le_of_ble_eq_true rfl, Nat.le_of_ble_eq_true rfl⟩ rfl rfl (Nat.le_of_ble_eq_true rfl) dX7_goesOn_97 ?_
              refine g_iload hX 0 rfl dX7_goesOn_100 ?_
              refine g_iadd hX dX7_goesOn_102 ?_
              refine g_iconst hX (v := nI 0) rfl dX7_goesOn_103 ?_
              refine g_sipush hX (v := nI 999) (by decide) dX7_goesOn_104 ?_
              refine s_call hX hzo [.int (((cmS (thS s nt n) (brs s) s i) (6 + 7 * (i) + (4)) + ((offI ((thS s nt n i)) (nI (0))) - (brs s i)))), .int (nI (0)), .int (nI (999))] [.int (nI (4)), .int (nI (i)), .ref (h0)] (c_held _ _ _ _ _ (((cmS (thS s nt n) (brs s) s i) (6 + 7 * (i) + (4)) + ((offI ((thS s nt n i)) (nI (0))) - (brs s i)))) (nI (0)) (nI (999))) kX7_held tMet_X7_116 rfl rfl (Nat.le_of_ble_eq_true rfl) (Nat.le_of_ble_eq_true rfl) ⟨Nat.le_of_ble_eq_true rfl, Nat.le_of_ble_eq_true rfl⟩ rfl rfl (Nat.le_of_ble_eq_true rfl) dX7_goesOn_107 ?_
              refine m_callD hX hzo hC [.int (nI (i)), .int (nI (4)), .int ((heldI (((cmS (thS s nt n) (brs s) s i) (6 + 7 * (i) + (4)) + ((offI ((thS s nt n i)) (nI (0))) - (brs s i)))) (nI (0)) (nI (999))))] [] (c_sets _ _ _ _ hzo hC v (cmS (thS s nt n) (brs s) s i) r x9 (i) (4) (by omega) ((heldI (((cmS (thS s nt n) (brs s) s i) (6 + 7 * (i) + (4)) + ((offI ((thS s nt n i)) (nI (0))) - (brs s i)))) (nI (0)) (nI (999))))) kX7_sets tMet_X7_80 rfl rfl (Nat.le_of_ble_eq_true rfl) (Nat.le_of_ble_eq_true rfl) ⟨Nat.le_of_ble_eq_true rfl, Nat.le_of_ble_eq_true rfl⟩ rfl rfl (Nat.le_of_ble_eq_true rfl) dX7_goesOn_110 ?_
              refine g_aload_n hX 4 rfl rfl dX7_goesOn_113 ?_
              refine g_iload_n hX 1 rfl rfl dX7_goesOn_114 ?_
              refine g_iconst hX (v := nI 2) rfl dX7_goesOn_115 ?_
              refine g_aload_n hX 4 rfl rfl dX7_goesOn_116 ?_
              refine g_iload_n hX 1 rfl rfl dX7_goesOn_117 ?_
              refine g_iconst hX (v := nI 2) rfl dX7_goesOn_118 ?_
              refine m_callD hX hzo hC [.int (nI (i)), .int (nI (2))] [.int (nI (2)), .int (nI (i)), .ref (h0)] (c_of _ _ _ _ hzo hC v (upd (cmS (thS s nt n) (brs s) s i) (6 + 7 * (i) + (4)) ((heldI (((cmS (thS s nt n) (brs s) s i) (6 + 7 * (i) + (4)) + ((offI ((thS s nt n i)) (nI (0))) - (brs s i)))) (nI (0)) (nI (999))))) r x9 (i) (2) (by omega)) kX7_of tMet_X7_75 rfl rfl (Nat.le_of_ble_eq_true rfl) (Nat.le_of_ble_eq_true rfl) ⟨Nat.le_of_ble_eq_true rfl, Nat.le_of_ble_eq_true rfl⟩ rfl rfl (Nat.le_of_ble_eq_true rfl) dX7_goesOn_119 ?_
              refine g_aload_n hX 4 rfl rfl dX7_goesOn_122 ?_
              refine m_getA hX hC 12 (by decide) rfl tFld_X7_43 dX7_goesOn_123 ?_
              refine g_iload_n hX 1 rfl rfl dX7_goesOn_126 ?_
              refine mb_aldN hX hC 12 rfl (show _ < mN 12 from by simp only [mN]; omega) (by decide) dX7_goesOn_127 ?_
              refine g_top (y := .int ((thS s nt n i))) (congrArg Value.int (ht1 i (by omega))) ?_
              refine g_if_le hX 135 (by decide) dX7_goesOn_128 (fun c128 => ?_) (fun c128 => ?_)
              · refine g_iconst hX (v := -1) (by decide) dX7_goesOn_135 ?_
                refine g_iadd hX dX7_goesOn_136 ?_
                refine g_bipush hX (v := -50) (by decide) dX7_goesOn_137 ?_
                refine g_bipush hX (v := nI 50) (by decide) dX7_goesOn_139 ?_
                refine s_call hX hzo [.int (((upd (cmS (thS s nt n) (brs s) s i) (6 + 7 * (i) + (4)) ((heldI (((cmS (thS s nt n) (brs s) s i) (6 + 7 * (i) + (4)) + ((offI ((thS s nt n i)) (nI (0))) - (brs s i)))) (nI (0)) (nI (999))))) (6 + 7 * (i) + (2)) + (-1))), .int ((-50)), .int (nI (50))] [.int (nI (2)), .int (nI (i)), .ref (h0)] (c_held _ _ _ _ _ (((upd (cmS (thS s nt n) (brs s) s i) (6 + 7 * (i) + (4)) ((heldI (((cmS (thS s nt n) (brs s) s i) (6 + 7 * (i) + (4)) + ((offI ((thS s nt n i)) (nI (0))) - (brs s i)))) (nI (0)) (nI (999))))) (6 + 7 * (i) + (2)) + (-1))) ((-50)) (nI (50))) kX7_held tMet_X7_116 rfl rfl (Nat.le_of_ble_eq_true rfl) (Nat.le_of_ble_eq_true rfl) ⟨Nat.le_of_ble_eq_true rfl, Nat.le_of_ble_eq_true rfl⟩ rfl rfl (Nat.le_of_ble_eq_true rfl) dX7_goesOn_141 ?_
                refine m_callD hX hzo hC [.int (nI (i)), .int (nI (2)), .int ((heldI (((upd (cmS (thS s nt n) (brs s) s i) (6 + 7 * (i) + (4)) ((heldI (((cmS (thS s nt n) (brs s) s i) (6 + 7 * (i) + (4)) + ((offI ((thS s nt n i)) (nI (0))) - (brs s i)))) (nI (0)) (nI (999))))) (6 + 7 * (i) + (2)) + (-1))) ((-50)) (nI (50))))] [] (c_sets _ _ _ _ hzo hC v (upd (cmS (thS s nt n) (brs s) s i) (6 + 7 * (i) + (4)) ((heldI (((cmS (thS s nt n) (brs s) s i) (6 + 7 * (i) + (4)) + ((offI ((thS s nt n i)) (nI (0))) - (brs s i)))) (nI (0)) (nI (999))))) r x9 (i) (2) (by omega) ((heldI (((upd (cmS (thS s nt n) (brs s) s i) (6 + 7 * (i) + (4)) ((heldI (((cmS (thS s nt n) (brs s) s i) (6 + 7 * (i) + (4)) + ((offI ((thS s nt n i)) (nI (0))) - (brs s i)))) (nI (0)) (nI (999))))) (6 + 7 * (i) + (2)) + (-1))) ((-50)) (nI (50))))) kX7_sets tMet_X7_80 rfl rfl (Nat.le_of_ble_eq_true rfl) (Nat.le_of_ble_eq_true rfl) ⟨Nat.le_of_ble_eq_true rfl, Nat.le_of_ble_eq_true rfl⟩ rfl rfl (Nat.le_of_ble_eq_true rfl) dX7_goesOn_144 ?_
                refine g_iincN (n := 1) (lv2 := [(3, .int (nI (i + 1))), (4, .int (((offI ((thS s nt n i)) (nI (0))) - (brs s i)))), (1, .int (maskI (sd s) n)), (2, .int (nI (0))), (0, .ref (h0))]) hX 1 3 5 hN rfl (by decide) rfl dX7_goesOn_147 ?_
                refine g_goto hX 49 (by decide) dX7_goesOn_150 ?_
                refine g_lv [0, 2, 3, 4] rfl ?_
                have e : cmS (thS s nt n) (brs s) s (i + 1) = (upd (upd (cmS (thS s nt n) (brs s) s i) (6 + 7 * (i) + (4)) ((heldI (((cmS (thS s nt n) (brs s) s i) (6 + 7 * (i) + (4)) + ((offI ((thS s nt n i)) (nI (0))) - (brs s i)))) (nI (0)) (nI (999))))) (6 + 7 * (i) + (2)) ((heldI (((upd (cmS (thS s nt n) (brs s) s i) (6 + 7 * (i) + (4)) ((heldI (((cmS (thS s nt n) (brs s) s i) (6 + 7 * (i) + (4)) + ((offI ((thS s nt n i)) (nI (0))) - (brs s i)))) (nI (0)) (nI (999))))) (6 + 7 * (i) + (2)) + (-1))) ((-50)) (nI (50))))) := by rw [cmS, cm1, if_pos ⟨c83, c88⟩, if_pos c128, pk_un (show 6 + 7 * i + 2 ≠ 6 + 7 * i + 4 by omega)]
                have K := ih (i + 1) (by omega) (by omega)
                rw [e] at K
                exact K
              · refine g_iconst hX (v := nI 1) rfl dX7_goesOn_131 ?_
                refine g_goto hX 136 (by decide) dX7_goesOn_132 ?_
                refine g_iadd hX dX7_goesOn_136 ?_
                refine g_bipush hX (v := -50) (by decide) dX7_goesOn_137 ?_
                refine g_bipush hX (v := nI 50) (by decide) dX7_goesOn_139 ?_
                refine s_call hX hzo [.int (((upd (cmS (thS s nt n) (brs s) s i) (6 + 7 * (i) + (4)) ((heldI (((cmS (thS s nt n) (brs s) s i) (6 + 7 * (i) + (4)) + ((offI ((thS s nt n i)) (nI (0))) - (brs s i)))) (nI (0)) (nI (999))))) (6 + 7 * (i) + (2)) + nI (1))), .int ((-50)), .int (nI (50))] [.int (nI (2)), .int (nI (i)), .ref (h0)] (c_held _ _ _ _ _ (((upd (cmS (thS s nt n) (brs s) s i) (6 + 7 * (i) + (4)) ((heldI (((cmS (thS s nt n) (brs s) s i) (6 + 7 * (i) + (4)) + ((offI ((thS s nt n i)) (nI (0))) - (brs s i)))) (nI (0)) (nI (999))))) (6 + 7 * (i) + (2)) + nI (1))) ((-50)) (nI (50))) kX7_held tMet_X7_116 rfl rfl (Nat.le_of_ble_eq_true rfl) (Nat.le_of_ble_eq_true rfl) ⟨Nat.le_of_ble_eq_true rfl, Nat.le_of_ble_eq_true rfl⟩ rfl rfl (Nat.le_of_ble_eq_true rfl) dX7_goesOn_141 ?_
                refine m_callD hX hzo hC [.int (nI (i)), .int (nI (2)), .int ((heldI (((upd (cmS (thS s nt n) (brs s) s i) (6 + 7 * (i) + (4)) ((heldI (((cmS (thS s nt n) (brs s) s i) (6 + 7 * (i) + (4)) + ((offI ((thS s nt n i)) (nI (0))) - (brs s i)))) (nI (0)) (nI (999))))) (6 + 7 * (i) + (2)) + nI (1))) ((-50)) (nI (50))))] [] (c_sets _ _ _ _ hzo hC v (upd (cmS (thS s nt n) (brs s) s i) (6 + 7 * (i) + (4)) ((heldI (((cmS (thS s nt n) (brs s) s i) (6 + 7 * (i) + (4)) + ((offI ((thS s nt n i)) (nI (0))) - (brs s i)))) (nI (0)) (nI (999))))) r x9 (i) (2) (by omega) ((heldI (((upd (cmS (thS s nt n) (brs s) s i) (6 + 7 * (i) + (4)) ((heldI (((cmS (thS s nt n) (brs s) s i) (6 + 7 * (i) + (4)) + ((offI ((thS s nt n i)) (nI (0))) - (brs s i)))) (nI (0)) (nI (999))))) (6 + 7 * (i) + (2)) + nI (1))) ((-50)) (nI (50))))) kX7_sets tMet_X7_80 rfl rfl (Nat.le_of_ble_eq_true rfl) (Nat.le_of_ble_eq_true rfl) ⟨Nat.le_of_ble_eq_true rfl, Nat.le_of_ble_eq_true rfl⟩ rfl rfl (Nat.le_of_ble_eq_true rfl) dX7_goesOn_144 ?_
                refine g_iincN (n := 1) (lv2 := [(3, .int (nI (i + 1))), (4, .int (((offI ((thS s nt n i)) (nI (0))) - (brs s i)))), (1, .int (maskI (sd s) n)), (2, .int (nI (0))), (0, .ref (h0))]) hX 1 3 5 hN rfl (by decide) rfl dX7_goesOn_147 ?_
                refine g_goto hX 49 (by decide) dX7_goesOn_150 ?_
                refine g_lv [0, 2, 3, 4] rfl ?_
                have e : cmS (thS s nt n) (brs s) s (i + 1) = (upd (upd (cmS (thS s nt n) (brs s) s i) (6 + 7 * (i) + (4)) ((heldI (((cmS (thS s nt n) (brs s) s i) (6 + 7 * (i) + (4)) + ((offI ((thS s nt n i)) (nI (0))) - (brs s i)))) (nI (0)) (nI (999))))) (6 + 7 * (i) + (2)) ((heldI (((upd (cmS (thS s nt n) (brs s) s i) (6 + 7 * (i) + (4)) ((heldI (((cmS (thS s nt n) (brs s) s i) (6 + 7 * (i) + (4)) + ((offI ((thS s nt n i)) (nI (0))) - (brs s i)))) (nI (0)) (nI (999))))) (6 + 7 * (i) + (2)) + nI (1))) ((-50)) (nI (50))))) := by rw [cmS, cm1, if_pos ⟨c83, c88⟩, if_neg c128, pk_un (show 6 + 7 * i + 2 ≠ 6 + 7 * i + 4 by omega)]
                have K := ih (i + 1) (by omega) (by omega)
                rw [e] at K
                exact K
    refine g_iconst hX (v := nI 0) rfl dX7_goesOn_47 ?_
    refine g_istore_n (lv2 := [(3, .int (nI (0))), (1, .int (maskI (sd s) n)), (2, .int (nI (0))), (0, .ref (h0))]) hX 3 5 hN rfl (by decide) rfl dX7_goesOn_48 ?_
    exact L (n + 1) 0 (by omega) (by omega)
  have L : ∀ (f i : Nat) (x9 : Nat → Nat → Int32), i ≤ n → n + 1 ≤ i + f → (∀ j, j < i → x9 12 j = thS s nt n j) → (∀ j, j < i → x9 13 j = brs s j) → GW κ 0 0 (C v s r x9) 9 [(3, .int (nI (i))), (1, .int (maskI (sd s) n)), (2, .int (nI (0))), (0, .ref (h0))] [] := by
    intro f
    induction f with
    | zero => intro i x9 h1 h2; exact absurd h2 (by omega)
    | succ f ih =>
      intro i x9 h1 h2 ht1 hb1
      refine g_iload_n hX 0 rfl rfl dX7_goesOn_9 ?_
      refine g_aload_n hX 3 rfl rfl dX7_goesOn_10 ?_
      refine m_getA hX hC 0 (by decide) rfl tFld_X7_7 dX7_goesOn_11 ?_
      refine g_iconst hX (v := nI 0) rfl dX7_goesOn_14 ?_
      refine m0_aldN hX hC (by omega) dX7_goesOn_15 ?_
      refine g_top (y := .int (nI (n))) (congrArg Value.int hn) ?_
      refine g_icmpN_ge hX (by omega) (by omega) 47 (by decide) dX7_goesOn_16 (fun c16 => ?_) (fun c16 => ?_)
      · have hi : i = n := by omega
        subst hi
        exact J47 x9 ht1 hb1
      · refine g_aload_n hX 3 rfl rfl dX7_goesOn_19 ?_
        refine m_getA hX hC 12 (by decide) rfl tFld_X7_43 dX7_goesOn_20 ?_
        refine g_iload_n hX 0 rfl rfl dX7_goesOn_23 ?_
        refine g_aload_n hX 3 rfl rfl dX7_goesOn_24 ?_
        refine g_iload_n hX 0 rfl rfl dX7_goesOn_25 ?_
        refine m_call hX hzo hC [.int (nI (i))] [.int (nI (i)), .ref (a 12)] (c_thrust _ _ _ _ hzo hC v s r x9 nt hnt hnt14 htx n hn hn9 (i) (by omega)) kX7_thrust tMet_X7_139 rfl rfl (Nat.le_of_ble_eq_true rfl) (Nat.le_of_ble_eq_true rfl) ⟨Nat.le_of_ble_eq_true rfl, Nat.le_of_ble_eq_true rfl⟩ rfl (Nat.le_of_ble_eq_true rfl) dX7_goesOn_26 ?_
        rintro _ _ ⟨rfl, x26, k26, rfl⟩
        show GW κ 0 0 _ 29 [(3, .int (nI (i))), (1, .int (maskI (sd s) n)), (2, .int (nI (0))), (0, .ref (h0))] [.int ((thS s nt n (i))), .int (nI (i)), .ref (a 12)]
        refine mb_astN hX hC 12 rfl (show _ < mN 12 from by simp only [mN]; omega) (by decide) dX7_goesOn_29 ?_
        refine g_aload_n hX 3 rfl rfl dX7_goesOn_30 ?_
        refine m_getA hX hC 13 (by decide) rfl tFld_X7_46 dX7_goesOn_31 ?_
        refine g_iload_n hX 0 rfl rfl dX7_goesOn_34 ?_
        refine g_aload_n hX 3 rfl rfl dX7_goesOn_35 ?_
        refine g_iload_n hX 0 rfl rfl dX7_goesOn_36 ?_
        refine m_callD hX hzo hC [.int (nI (i))] [.int (nI (i)), .ref (a 13)] (c_bears _ _ _ _ hzo hC v s r (mU x26 12 (upd (x26 12) (i) ((thS s nt n (i))))) (i) (by omega)) kX7_bears tMet_X7_136 rfl rfl (Nat.le_of_ble_eq_true rfl) (Nat.le_of_ble_eq_true rfl) ⟨Nat.le_of_ble_eq_true rfl, Nat.le_of_ble_eq_true rfl⟩ rfl rfl (Nat.le_of_ble_eq_true rfl) dX7_goesOn_37 ?_
        refine mb_astN hX hC 13 rfl (show _ < mN 13 from by simp only [mN]; omega) (by decide) dX7_goesOn_40 ?_
        refine g_iincN (n := 1) (lv2 := [(3, .int (nI (i + 1))), (1, .int (maskI (sd s) n)), (2, .int (nI (0))), (0, .ref (h0))]) hX 0 3 5 hN rfl (by decide) rfl dX7_goesOn_41 ?_
        refine g_goto hX 9 (by decide) dX7_goesOn_44 ?_
        refine ih (i + 1) (mU (mU x26 12 (upd (x26 12) (i) ((thS s nt n (i))))) 13 (upd ((mU x26 12 (upd (x26 12) (i) ((thS s nt n (i))))) 13) (i) ((brs s (i))))) (by omega) (by omega) (fun j hj => ?_) (fun j hj => ?_)
        · rw [mU_n _ _ (by decide), mU_s]
          by_cases h : j = i
          · subst h; exact pk_us
          · rw [pk_un h, k26.1]; exact ht1 j (by omega)
        · rw [mU_s, mU_n _ _ (by decide)]
          by_cases h : j = i
          · subst h; exact pk_us
          · rw [pk_un h, k26.2]; exact hb1 j (by omega)
  refine g_aload_n hX 0 rfl rfl dX7_goesOn_0 ?_
  refine m_callD hX hzo hC [] [] (c_allStanding _ _ _ _ hzo hC v s r x n hn hn9) kX7_allStanding tMet_X7_123 rfl rfl (Nat.le_of_ble_eq_true rfl) (Nat.le_of_ble_eq_true rfl) ⟨Nat.le_of_ble_eq_true rfl, Nat.le_of_ble_eq_true rfl⟩ rfl rfl (Nat.le_of_ble_eq_true rfl) dX7_goesOn_1 ?_
  refine g_istore_n (lv2 := [(1, .int ((maskI (sd s) n))), (0, .ref (h0))]) hX 1 5 hN rfl (by decide) rfl dX7_goesOn_4 ?_
  refine g_iconst hX (v := nI 0) rfl dX7_goesOn_5 ?_
  refine g_istore_n (lv2 := [(2, .int (nI (0))), (1, .int ((maskI (sd s) n))), (0, .ref (h0))]) hX 2 5 hN rfl (by decide) rfl dX7_goesOn_6 ?_
  refine g_iconst hX (v := nI 0) rfl dX7_goesOn_7 ?_
  refine g_istore_n (lv2 := [(3, .int (nI (0))), (2, .int (nI (0))), (1, .int ((maskI (sd s) n))), (0, .ref (h0))]) hX 3 5 hN rfl (by decide) rfl dX7_goesOn_8 ?_
  refine g_lv [0, 2, 1, 3] rfl ?_
  exact L (n + 1) 0 x (by omega) (by omega) (fun j hj => absurd hj (Nat.not_lt_zero _)) (fun j hj => absurd hj (Nat.not_lt_zero _))
