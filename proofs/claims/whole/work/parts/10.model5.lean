/-- how high the pile is behind k steps -/
def wkH (s : Nat → Int32) (b : Nat) : Nat → Option Nat
  | 0 => some 0
  | k + 1 => (wkH s b k).bind (fun h => if s (b + 4 + 2 * k) = nI 2 then (if s (b + 4 + 2 * k + 1) = nI 33 then (if 1 ≤ h then some h else none) else (if 2 ≤ h then some (h - 1) else none)) else some (h + 1))
theorem wkH_R {s : Nat → Int32} {b : Nat} (nm : Nat → Int32) : ∀ (k h : Nat), wkH s b k = some h → ∃ stk, wkR nm s b k = some stk ∧ stk.length = h := by
  intro k
  induction k with
  | zero => intro h e; cases e; exact ⟨[], rfl, rfl⟩
  | succ k ih =>
    intro h e
    rw [wkH] at e
    cases e1 : wkH s b k with
    | none => rw [e1] at e; cases e
    | some h1 =>
      rw [e1] at e
      obtain ⟨stk, e2, e3⟩ := ih h1 e1
      have e : (if s (b + 4 + 2 * k) = nI 2 then (if s (b + 4 + 2 * k + 1) = nI 33 then (if 1 ≤ h1 then some h1 else none) else (if 2 ≤ h1 then some (h1 - 1) else none)) else some (h1 + 1)) = some h := e
      rw [wkR, e2]
      show ∃ stk', wk1 nm _ _ stk = some stk' ∧ _
      by_cases c1 : s (b + 4 + 2 * k) = nI 2
      · rw [if_pos c1] at e
        by_cases c2 : s (b + 4 + 2 * k + 1) = nI 33
        · rw [if_pos c2] at e
          by_cases c3 : 1 ≤ h1
          · rw [if_pos c3] at e
            cases e
            match stk, e3, c3 with
            | [], e3, c3 => exact absurd c3 (by rw [← e3]; decide)
            | y :: t, e3, _ => exact ⟨_, wk1_not c1 c2, e3⟩
          · rw [if_neg c3] at e; cases e
        · rw [if_neg c2] at e
          by_cases c3 : 2 ≤ h1
          · rw [if_pos c3] at e
            cases e
            match stk, e3, c3 with
            | [], e3, c3 => exact absurd c3 (by rw [← e3]; decide)
            | [y], e3, c3 => exact absurd c3 (by rw [← e3]; simp)
            | y :: u :: t, e3, _ => exact ⟨_, wk1_join c1 c2, by rw [← e3]; rfl⟩
          · rw [if_neg c3] at e; cases e
      · rw [if_neg c1] at e
        cases e
        exact ⟨_, wk1_push c1, by rw [← e3]; rfl⟩
/-- the names that a key's text may use -/
def nmOK (key : Int32) (j : Nat) : Prop := (key = nI 0 ∧ (j = 119 ∨ j = 108 ∨ j = 99)) ∨ (key = nI 1 ∧ (j = 114 ∨ j = 100)) ∨ (key = nI 2 ∧ (j = 99 ∨ j = 112))
theorem nmOK_lt {key : Int32} {j : Nat} (h : nmOK key j) : j < 128 := by rcases h with ⟨-, h⟩ | ⟨-, h⟩ | ⟨-, h⟩ <;> omega
/-- text t is in order -/
def textOK (s : Nat → Int32) (t : Nat) : Prop := ∃ m : Nat, s (69 + 200 * t + 2) = nI m ∧ m ≤ 98 ∧ (∀ k, k ≤ m → ∃ h, wkH s (69 + 200 * t) k = some h ∧ h ≤ 99) ∧ wkH s (69 + 200 * t) m = some 1 ∧ (∀ k, k < m → ¬ s (69 + 200 * t + 4 + 2 * k) = nI 2 → ¬ s (69 + 200 * t + 4 + 2 * k) = 0 → ∃ j : Nat, s (69 + 200 * t + 4 + 2 * k + 1) = nI j ∧ nmOK (s (69 + 200 * t)) j)
/-- what text t gives with these names -/
def wkV (nm s : Nat → Int32) (t : Nat) : Int32 := match wkR nm s (69 + 200 * t) (s (69 + 200 * t + 2)).toNatClampNeg with
  | some (y :: _) => y
  | _ => 0
theorem wkV_of {s : Nat → Int32} {t m : Nat} (nm : Nat → Int32) (hm : s (69 + 200 * t + 2) = nI m) (hm98 : m ≤ 98) (h1 : wkH s (69 + 200 * t) m = some 1) : wkR nm s (69 + 200 * t) m = some [wkV nm s t] := by
  obtain ⟨stk, e1, e2⟩ := wkH_R nm m 1 h1
  match stk, e1, e2 with
  | [y], e1, _ => rw [wkV, hm, nI_clamp (by omega), e1]
/-- only the names that it uses count -/
theorem wkR_cong {s : Nat → Int32} {b m : Nat} {nm nm2 : Nat → Int32} (h : ∀ k, k < m → ¬ s (b + 4 + 2 * k) = nI 2 → ¬ s (b + 4 + 2 * k) = 0 → nm (s (b + 4 + 2 * k + 1)).toNatClampNeg = nm2 (s (b + 4 + 2 * k + 1)).toNatClampNeg) : ∀ k, k ≤ m → wkR nm s b k = wkR nm2 s b k := by
  intro k
  induction k with
  | zero => intro _; rfl
  | succ k ih =>
    intro hk
    rw [wkR, wkR, ih (by omega)]
    cases wkR nm2 s b k with
    | none => rfl
    | some stk =>
      show wk1 nm _ _ stk = wk1 nm2 _ _ stk
      by_cases c1 : s (b + 4 + 2 * k) = nI 2
      · unfold wk1; rw [if_pos c1, if_pos c1]
      · rw [wk1_push c1, wk1_push c1]
        by_cases c2 : s (b + 4 + 2 * k) = 0
        · rw [if_pos c2, if_pos c2]
        · rw [if_neg c2, if_neg c2, h k (by omega) c1 c2]
theorem wkV_cong {s : Nat → Int32} {t : Nat} {nm nm2 : Nat → Int32} (hok : textOK s t) (h : ∀ j, nmOK (s (69 + 200 * t)) j → nm j = nm2 j) : wkV nm s t = wkV nm2 s t := by
  obtain ⟨m, hm, hm98, h1, h2, h3⟩ := hok
  have e : wkR nm s (69 + 200 * t) m = wkR nm2 s (69 + 200 * t) m := wkR_cong (fun k hk c1 c2 => by
    obtain ⟨j, e1, e2⟩ := h3 k hk c1 c2
    rw [e1, nI_clamp (Nat.lt_trans (nmOK_lt e2) (by decide))]
    exact h j e2) m (Nat.le_refl m)
  rw [wkV, wkV, hm, nI_clamp (by omega), e]
theorem lastO_some {s : Nat → Int32} {key : Int32} : ∀ {n j : Nat}, lastO s key n = some j → j < n ∧ s (69 + 200 * j) = key := by
  intro n
  induction n with
  | zero => intro j h; cases h
  | succ n ih =>
    intro j h
    rw [lastO] at h
    by_cases c : s (69 + 200 * n) = key
    · rw [if_pos c] at h; cases h; exact ⟨Nat.lt_succ_self n, c⟩
    · rw [if_neg c] at h; obtain ⟨a, b⟩ := ih h; exact ⟨Nat.lt_succ_of_lt a, b⟩
theorem c_workedT (l : Launch) (D : va_G) (cy : Nat → ClassId) (Z : (Nat → Prop) → State → Heap → Prop) (hzo : zOK Z) {h0 : Nat} {a q : Nat → Nat} {C : (Nat → Int32) → (Nat → Int32) → (Nat → Nat → Int32) → (Nat → Nat → Int32) → va_W} (hC : mLens (cy 0) h0 a q C) (v s : Nat → Int32) (r x : Nat → Nat → Int32) (t : Nat) (ht : t < 14) (hok : textOK s t) : GM l D cy Z yX7_worked (zW yX7_worked cX7_worked 6 (some .int)) { frames := 1, cells := 0, slots := 0, locals := 22 } [.ref h0, .int (nI t)] (C v s r x) (fun res w2 => res = some (.int (wkV (x 27) s t)) ∧ ∃ x2, xk x x2 ∧ w2 = C v s r x2) 0 0 := by
  obtain ⟨m, hm, hm98, h1, h2, h3⟩ := hok
  refine c_worked l D cy Z hzo hC v s r x t m ht hm hm98 (fun k hk => ?_) (fun k hk c1 c2 => ?_) _ (wkV_of (x 27) hm hm98 h2)
  · obtain ⟨h, e1, e2⟩ := h1 k hk
    obtain ⟨stk, e3, e4⟩ := wkH_R (x 27) k h e1
    exact ⟨stk, e3, by omega⟩
  · obtain ⟨j, e1, e2⟩ := h3 k hk c1 c2
    rw [e1]
    exact vp_in_nI (nmOK_lt e2) (by decide)
def pushK (kd z : Int32) : Int32 := if kd = nI 1 then z / nI 2 else if kd = nI 2 then z + nI 4 else if kd = nI 3 then (if z / nI 2 ≤ nI 5 then nI 0 else z / nI 2 - nI 5) else if kd = nI 4 then nI 2 * (z + nI 4) else if kd = nI 5 then nI 0 else z
/-- the names of a push text -/
def nmP (a1 a2 a3 : Int32) : Nat → Int32 := fun j => if j = 119 then a1 else if j = 108 then a2 else if j = 99 then a3 else 0
/-- what pushes, before the kind: weight a1, lean a2, crack a3 -/
def pfS (s : Nat → Int32) (nt : Nat) (a1 a2 a3 : Int32) : Int32 := match lastO s (nI 0) nt with
  | none => a1 * a2 / nI 10
  | some t => heldI (wkV (nmP a1 a2 a3) s t) (nI 0) (nI 999)
/-- what house k pushes -/
def puS (s : Nat → Int32) (nt k : Nat) : Int32 := pushK (s (6 + 7 * k + 0)) (pfS s nt (s (6 + 7 * k + 1)) (offI (s (6 + 7 * k + 2)) (nI 0)) (s (6 + 7 * k + 4)))
theorem kX7_pushes : mKV RX7 yX7_pushes cX7_pushes 5 (some .int) 1 := ⟨tIns_X7_pushes, tSel_X7_pushes, tIni_X7, tCod_X7_pushes, by decide +kernel⟩
set_option maxHeartbeats 4000000 in
set_option maxRecDepth 100000 in
theorem c_pushes (l : Launch) (D : va_G) (cy : Nat → ClassId) (Z : (Nat → Prop) → State → Heap → Prop) (hzo : zOK Z) {h0 : Nat} {a q : Nat → Nat} {C : (Nat → Int32) → (Nat → Int32) → (Nat → Nat → Int32) → (Nat → Nat → Int32) → va_W} (hC : mLens (cy 0) h0 a q C) (v s : Nat → Int32) (r x : Nat → Nat → Int32) (nt : Nat) (hnt : s 1 = nI nt) (hnt14 : nt ≤ 14) (htx : ∀ t, t < nt → textOK s t) (k : Nat) (hk : k < 9) : GM l D cy Z yX7_pushes (zW yX7_pushes cX7_pushes 5 (some .int)) { frames := 2, cells := 0, slots := 0, locals := 47 } [.ref (h0), .int (nI (k))] (C v s r x) (fun res w2 => res = some (.int (puS s nt k)) ∧ ∃ x2, xk x x2 ∧ w2 = C v s r x2) 0 0 := by
  refine g_entry (cc := cX7_pushes) (maxL := 5) (by decide) rfl (Nat.le_of_ble_eq_true rfl) ?_
  intro κ hN hX hR
  have hX : GX κ cy Z cX7_pushes (Cond.code yX7_pushes cX7_pushes 5 (some .int) :: zT) RX7 { frames := 2, cells := 0, slots := 0, locals := 47 } := hX
  show GW κ 0 0 _ 0 [(0, .ref (h0)), (1, .int (nI (k)))] []
  have J : ∀ (z : Int32) (x9 : Nat → Nat → Int32), xk x x9 → pfS s nt (s (6 + 7 * k + 1)) (offI (s (6 + 7 * k + 2)) (nI 0)) (s (6 + 7 * k + 4)) = z → GW κ 0 0 (C v s r x9) 83 [(3, .int (z)), (2, .int ((offI (s (6 + 7 * k + 2)) (nI 0)))), (0, .ref (h0)), (1, .int (nI (k)))] [] := by
    intro z x9 hxk hz
    refine g_aload_n hX 2 rfl rfl dX7_pushes_83 ?_
    refine g_iload_n hX 3 rfl rfl dX7_pushes_84 ?_
    refine g_iconst hX (v := nI 0) rfl dX7_pushes_85 ?_
    refine m_callD hX hzo hC [.int (nI (k)), .int (nI (0))] [] (c_of _ _ _ _ hzo hC v s r x9 (k) (0) (by omega)) kX7_of tMet_X7_75 rfl rfl (Nat.le_of_ble_eq_true rfl) (Nat.le_of_ble_eq_true rfl) ⟨Nat.le_of_ble_eq_true rfl, Nat.le_of_ble_eq_true rfl⟩ rfl rfl (Nat.le_of_ble_eq_true rfl) dX7_pushes_86 ?_
    rcases sw_in (s (6 + 7 * (k) + (0))) 1 5 (by decide) with w89 | ⟨j89, w89a, w89b, w89⟩
    · refine g_tableOut hX 157 w89 (by decide) dX7_pushes_89 ?_
      refine g_iload_n hX 0 rfl rfl dX7_pushes_157 ?_
      exact g_retiP hR ⟨congrArg (fun q => some (Value.int q)) (show z = puS s nt k by rw [puS, hz, pushK]; rw [if_neg (sw_out w89 1 (by decide) (by decide) (by decide)), if_neg (sw_out w89 2 (by decide) (by decide) (by decide)), if_neg (sw_out w89 3 (by decide) (by decide) (by decide)), if_neg (sw_out w89 4 (by decide) (by decide) (by decide)), if_neg (sw_out w89 5 (by decide) (by decide) (by decide))]), x9, hxk, rfl⟩ dX7_pushes_158
    · have hj : j89 = 1 ∨ j89 = 2 ∨ j89 = 3 ∨ j89 = 4 ∨ j89 = 5 := by omega
      rcases hj with rfl | rfl | rfl | rfl | rfl
      · refine g_top (y := .int (nI 1)) (congrArg Value.int w89) ?_
        refine g_tableIn hX 124 (by decide) (by decide) rfl (by decide) dX7_pushes_89 ?_
        refine g_iload_n hX 0 rfl rfl dX7_pushes_124 ?_
        refine g_iconst hX (v := nI 2) rfl dX7_pushes_125 ?_
        refine g_idiv hX (by decide) dX7_pushes_126 ?_
        exact g_retiP hR ⟨congrArg (fun q => some (Value.int q)) (show (z / nI (2)) = puS s nt k by rw [puS, hz, pushK]; rw [w89]; rfl), x9, hxk, rfl⟩ dX7_pushes_127
      · refine g_top (y := .int (nI 2)) (congrArg Value.int w89) ?_
        refine g_tableIn hX 128 (by decide) (by decide) rfl (by decide) dX7_pushes_89 ?_
        refine g_iload_n hX 0 rfl rfl dX7_pushes_128 ?_
        refine g_iconst hX (v := nI 4) rfl dX7_pushes_129 ?_
        refine g_iadd hX dX7_pushes_130 ?_
        exact g_retiP hR ⟨congrArg (fun q => some (Value.int q)) (show (z + nI (4)) = puS s nt k by rw [puS, hz, pushK]; rw [w89]; rfl), x9, hxk, rfl⟩ dX7_pushes_131
      · refine g_top (y := .int (nI 3)) (congrArg Value.int w89) ?_
        refine g_tableIn hX 132 (by decide) (by decide) rfl (by decide) dX7_pushes_89 ?_
        refine g_iload_n hX 0 rfl rfl dX7_pushes_132 ?_
        refine g_iconst hX (v := nI 2) rfl dX7_pushes_133 ?_
        refine g_idiv hX (by decide) dX7_pushes_134 ?_
        refine g_iconst hX (v := nI 5) rfl dX7_pushes_135 ?_
        refine g_icmp_le hX 147 (by decide) dX7_pushes_136 (fun c136 => ?_) (fun c136 => ?_)
        · refine g_iconst hX (v := nI 0) rfl dX7_pushes_147 ?_
          exact g_retiP hR ⟨congrArg (fun q => some (Value.int q)) (show nI (0) = puS s nt k by rw [puS, hz, pushK]; rw [w89]; show _ = (if z / nI 2 ≤ nI 5 then nI 0 else z / nI 2 - nI 5); rw [if_pos c136]), x9, hxk, rfl⟩ dX7_pushes_148
        · refine g_iload_n hX 0 rfl rfl dX7_pushes_139 ?_
          refine g_iconst hX (v := nI 2) rfl dX7_pushes_140 ?_
          refine g_idiv hX (by decide) dX7_pushes_141 ?_
          refine g_iconst hX (v := nI 5) rfl dX7_pushes_142 ?_
          refine g_isub hX dX7_pushes_143 ?_
          refine g_goto hX 148 (by decide) dX7_pushes_144 ?_
          exact g_retiP hR ⟨congrArg (fun q => some (Value.int q)) (show ((z / nI (2)) - nI (5)) = puS s nt k by rw [puS, hz, pushK]; rw [w89]; show _ = (if z / nI 2 ≤ nI 5 then nI 0 else z / nI 2 - nI 5); rw [if_neg c136]), x9, hxk, rfl⟩ dX7_pushes_148
      · refine g_top (y := .int (nI 4)) (congrArg Value.int w89) ?_
        refine g_tableIn hX 149 (by decide) (by decide) rfl (by decide) dX7_pushes_89 ?_
        refine g_iconst hX (v := nI 2) rfl dX7_pushes_149 ?_
        refine g_iload_n hX 0 rfl rfl dX7_pushes_150 ?_
        refine g_iconst hX (v := nI 4) rfl dX7_pushes_151 ?_
        refine g_iadd hX dX7_pushes_152 ?_
        refine g_imul hX dX7_pushes_153 ?_
        exact g_retiP hR ⟨congrArg (fun q => some (Value.int q)) (show (nI (2) * (z + nI (4))) = puS s nt k by rw [puS, hz, pushK]; rw [w89]; rfl), x9, hxk, rfl⟩ dX7_pushes_154
      · refine g_top (y := .int (nI 5)) (congrArg Value.int w89) ?_
        refine g_tableIn hX 155 (by decide) (by decide) rfl (by decide) dX7_pushes_89 ?_
        refine g_iconst hX (v := nI 0) rfl dX7_pushes_155 ?_
        exact g_retiP hR ⟨congrArg (fun q => some (Value.int q)) (show nI (0) = puS s nt k by rw [puS, hz, pushK]; rw [w89]; rfl), x9, hxk, rfl⟩ dX7_pushes_156
  refine g_aload_n hX 0 rfl rfl dX7_pushes_0 ?_
  refine g_iload_n hX 1 rfl rfl dX7_pushes_1 ?_
  refine g_iconst hX (v := nI 2) rfl dX7_pushes_2 ?_
  refine m_callD hX hzo hC [.int (nI (k)), .int (nI (2))] [] (c_of _ _ _ _ hzo hC v s r x (k) (2) (by omega)) kX7_of tMet_X7_75 rfl rfl (Nat.le_of_ble_eq_true rfl) (Nat.le_of_ble_eq_true rfl) ⟨Nat.le_of_ble_eq_true rfl, Nat.le_of_ble_eq_true rfl⟩ rfl rfl (Nat.le_of_ble_eq_true rfl) dX7_pushes_3 ?_
  refine g_iconst hX (v := nI 0) rfl dX7_pushes_6 ?_
  refine s_call hX hzo [.int (s (6 + 7 * (k) + (2))), .int (nI (0))] [] (c_off _ _ _ _ _ (s (6 + 7 * (k) + (2))) (nI (0))) kX7_off tMet_X7_106 rfl rfl (Nat.le_of_ble_eq_true rfl) (Nat.le_of_ble_eq_true rfl) ⟨Nat.le_of_ble_eq_true rfl, Nat.le_of_ble_eq_true rfl⟩ rfl rfl (Nat.le_of_ble_eq_true rfl) dX7_pushes_7 ?_
  refine g_istore_n (lv2 := [(2, .int ((offI (s (6 + 7 * (k) + (2))) (nI (0))))), (0, .ref (h0)), (1, .int (nI (k)))]) hX 2 5 hN rfl (by decide) rfl dX7_pushes_10 ?_
  refine g_aload_n hX 1 rfl rfl dX7_pushes_11 ?_
  refine g_iload_n hX 2 rfl rfl dX7_pushes_12 ?_
  refine g_iconst hX (v := nI 1) rfl dX7_pushes_13 ?_
  refine m_callD hX hzo hC [.int (nI (k)), .int (nI (1))] [] (c_of _ _ _ _ hzo hC v s r x (k) (1) (by omega)) kX7_of tMet_X7_75 rfl rfl (Nat.le_of_ble_eq_true rfl) (Nat.le_of_ble_eq_true rfl) ⟨Nat.le_of_ble_eq_true rfl, Nat.le_of_ble_eq_true rfl⟩ rfl rfl (Nat.le_of_ble_eq_true rfl) dX7_pushes_14 ?_
  refine g_iload_n hX 0 rfl rfl dX7_pushes_17 ?_
  refine g_imul hX dX7_pushes_18 ?_
  refine g_bipush hX (v := nI 10) (by decide) dX7_pushes_19 ?_
  refine g_idiv hX (by decide) dX7_pushes_21 ?_
  refine g_istore_n (lv2 := [(3, .int (((s (6 + 7 * (k) + (1)) * (offI (s (6 + 7 * (k) + (2))) (nI (0)))) / nI (10)))), (2, .int ((offI (s (6 + 7 * (k) + (2))) (nI (0))))), (0, .ref (h0)), (1, .int (nI (k)))]) hX 3 5 hN rfl (by decide) rfl dX7_pushes_22 ?_
  refine g_aload_n hX 2 rfl rfl dX7_pushes_23 ?_
  refine g_iconst hX (v := nI 0) rfl dX7_pushes_24 ?_
  refine m_callD hX hzo hC [.int (nI (0))] [] (c_counts _ _ _ _ hzo hC v s r x nt hnt hnt14 (nI (0))) kX7_counts tMet_X7_109 rfl rfl (Nat.le_of_ble_eq_true rfl) (Nat.le_of_ble_eq_true rfl) ⟨Nat.le_of_ble_eq_true rfl, Nat.le_of_ble_eq_true rfl⟩ rfl rfl (Nat.le_of_ble_eq_true rfl) dX7_pushes_25 ?_
  rcases hO : lastO s (nI 0) nt with _ | j9
  · refine g_top (y := .int (-1)) rfl ?_
    refine g_istore (lv2 := [(4, .int ((-1))), (3, .int (((s (6 + 7 * (k) + (1)) * (offI (s (6 + 7 * (k) + (2))) (nI (0)))) / nI (10)))), (2, .int ((offI (s (6 + 7 * (k) + (2))) (nI (0))))), (0, .ref (h0)), (1, .int (nI (k)))]) hX 4 5 hN (by decide) rfl dX7_pushes_28 ?_
    refine g_iload hX 0 rfl dX7_pushes_30 ?_
    refine g_if_lt hX 83 (by decide) dX7_pushes_32 (fun c32 => ?_) (fun c32 => absurd c32 (fun h => h (by decide)))
    refine g_lv [1, 2, 3, 4] rfl ?_
    exact J (((s (6 + 7 * (k) + (1)) * (offI (s (6 + 7 * (k) + (2))) (nI (0)))) / nI (10))) x (xk_r x) (by rw [pfS, hO])
  · have hj := lastO_some hO
    have hok := htx j9 hj.1
    refine g_top (y := .int (nI j9)) rfl ?_
    refine g_istore (lv2 := [(4, .int (nI (j9))), (3, .int (((s (6 + 7 * (k) + (1)) * (offI (s (6 + 7 * (k) + (2))) (nI (0)))) / nI (10)))), (2, .int ((offI (s (6 + 7 * (k) + (2))) (nI (0))))), (0, .ref (h0)), (1, .int (nI (k)))]) hX 4 5 hN (by decide) rfl dX7_pushes_28 ?_
    refine g_iload hX 0 rfl dX7_pushes_30 ?_
    refine g_ifN_lt hX (by omega) 83 (by decide) dX7_pushes_32 ?_
    refine g_aload_n hX 3 rfl rfl dX7_pushes_35 ?_
    refine m_getA hX hC 27 (by decide) rfl tFld_X7_55 dX7_pushes_36 ?_
    refine g_bipush hX (v := nI 119) (by decide) dX7_pushes_39 ?_
    refine g_aload_n hX 3 rfl rfl dX7_pushes_41 ?_
    refine g_iload_n hX 4 rfl rfl dX7_pushes_42 ?_
    refine g_iconst hX (v := nI 1) rfl dX7_pushes_43 ?_
    refine m_callD hX hzo hC [.int (nI (k)), .int (nI (1))] [.int (nI (119)), .ref (a 27)] (c_of _ _ _ _ hzo hC v s r x (k) (1) (by omega)) kX7_of tMet_X7_75 rfl rfl (Nat.le_of_ble_eq_true rfl) (Nat.le_of_ble_eq_true rfl) ⟨Nat.le_of_ble_eq_true rfl, Nat.le_of_ble_eq_true rfl⟩ rfl rfl (Nat.le_of_ble_eq_true rfl) dX7_pushes_44 ?_
    refine mb_astN hX hC 27 rfl (show _ < mN 27 from by simp only [mN]; omega) (by decide) dX7_pushes_47 ?_
    refine g_aload_n hX 3 rfl rfl dX7_pushes_48 ?_
    refine m_getA hX hC 27 (by decide) rfl tFld_X7_55 dX7_pushes_49 ?_
    refine g_bipush hX (v := nI 108) (by decide) dX7_pushes_52 ?_
    refine g_iload_n hX 2 rfl rfl dX7_pushes_54 ?_
    refine mb_astN hX hC 27 rfl (show _ < mN 27 from by simp only [mN]; omega) (by decide) dX7_pushes_55 ?_
    refine g_aload_n hX 3 rfl rfl dX7_pushes_56 ?_
    refine m_getA hX hC 27 (by decide) rfl tFld_X7_55 dX7_pushes_57 ?_
    refine g_bipush hX (v := nI 99) (by decide) dX7_pushes_60 ?_
    refine g_aload_n hX 3 rfl rfl dX7_pushes_62 ?_
    refine g_iload_n hX 4 rfl rfl dX7_pushes_63 ?_
    refine g_iconst hX (v := nI 4) rfl dX7_pushes_64 ?_
    refine m_callD hX hzo hC [.int (nI (k)), .int (nI (4))] [.int (nI (99)), .ref (a 27)] (c_of _ _ _ _ hzo hC v s r (mU (mU x 27 (upd (x 27) (119) (s (6 + 7 * (k) + (1))))) 27 (upd ((mU x 27 (upd (x 27) (119) (s (6 + 7 * (k) + (1))))) 27) (108) ((offI (s (6 + 7 * (k) + (2))) (nI (0)))))) (k) (4) (by omega)) kX7_of tMet_X7_75 rfl rfl (Nat.le_of_ble_eq_true rfl) (Nat.le_of_ble_eq_true rfl) ⟨Nat.le_of_ble_eq_true rfl, Nat.le_of_ble_eq_true rfl⟩ rfl rfl (Nat.le_of_ble_eq_true rfl) dX7_pushes_65 ?_
    refine mb_astN hX hC 27 rfl (show _ < mN 27 from by simp only [mN]; omega) (by decide) dX7_pushes_68 ?_
    refine g_aload_n hX 3 rfl rfl dX7_pushes_69 ?_
    refine g_iload hX 0 rfl dX7_pushes_70 ?_
    refine m_call hX hzo hC [.int (nI (j9))] [] (c_workedT _ _ _ _ hzo hC v s r (mU (mU (mU x 27 (upd (x 27) (119) (s (6 + 7 * (k) + (1))))) 27 (upd ((mU x 27 (upd (x 27) (119) (s (6 + 7 * (k) + (1))))) 27) (108) ((offI (s (6 + 7 * (k) + (2))) (nI (0)))))) 27 (upd ((mU (mU x 27 (upd (x 27) (119) (s (6 + 7 * (k) + (1))))) 27 (upd ((mU x 27 (upd (x 27) (119) (s (6 + 7 * (k) + (1))))) 27) (108) ((offI (s (6 + 7 * (k) + (2))) (nI (0)))))) 27) (99) (s (6 + 7 * (k) + (4))))) (j9) (by omega) hok) kX7_worked tMet_X7_113 rfl rfl (Nat.le_of_ble_eq_true rfl) (Nat.le_of_ble_eq_true rfl) ⟨Nat.le_of_ble_eq_true rfl, Nat.le_of_ble_eq_true rfl⟩ rfl (Nat.le_of_ble_eq_true rfl) dX7_pushes_72 ?_
    rintro _ _ ⟨rfl, x72, k72, rfl⟩
    show GW κ 0 0 _ 75 [(4, .int (nI (j9))), (3, .int (((s (6 + 7 * (k) + (1)) * (offI (s (6 + 7 * (k) + (2))) (nI (0)))) / nI (10)))), (2, .int ((offI (s (6 + 7 * (k) + (2))) (nI (0))))), (0, .ref (h0)), (1, .int (nI (k)))] [.int ((wkV ((mU (mU (mU x 27 (upd (x 27) (119) (s (6 + 7 * (k) + (1))))) 27 (upd ((mU x 27 (upd (x 27) (119) (s (6 + 7 * (k) + (1))))) 27) (108) ((offI (s (6 + 7 * (k) + (2))) (nI (0)))))) 27 (upd ((mU (mU x 27 (upd (x 27) (119) (s (6 + 7 * (k) + (1))))) 27 (upd ((mU x 27 (upd (x 27) (119) (s (6 + 7 * (k) + (1))))) 27) (108) ((offI (s (6 + 7 * (k) + (2))) (nI (0)))))) 27) (99) (s (6 + 7 * (k) + (4))))) 27) (s) (j9)))]
    refine g_iconst hX (v := nI 0) rfl dX7_pushes_75 ?_
    refine g_sipush hX (v := nI 999) (by decide) dX7_pushes_76 ?_
    refine s_call hX hzo [.int ((wkV ((mU (mU (mU x 27 (upd (x 27) (119) (s (6 + 7 * (k) + (1))))) 27 (upd ((mU x 27 (upd (x 27) (119) (s (6 + 7 * (k) + (1))))) 27) (108) ((offI (s (6 + 7 * (k) + (2))) (nI (0)))))) 27 (upd ((mU (mU x 27 (upd (x 27) (119) (s (6 + 7 * (k) + (1))))) 27 (upd ((mU x 27 (upd (x 27) (119) (s (6 + 7 * (k) + (1))))) 27) (108) ((offI (s (6 + 7 * (k) + (2))) (nI (0)))))) 27) (99) (s (6 + 7 * (k) + (4))))) 27) (s) (j9))), .int (nI (0)), .int (nI (999))] [] (c_held _ _ _ _ _ ((wkV ((mU (mU (mU x 27 (upd (x 27) (119) (s (6 + 7 * (k) + (1))))) 27 (upd ((mU x 27 (upd (x 27) (119) (s (6 + 7 * (k) + (1))))) 27) (108) ((offI (s (6 + 7 * (k) + (2))) (nI (0)))))) 27 (upd ((mU (mU x 27 (upd (x 27) (119) (s (6 + 7 * (k) + (1))))) 27 (upd ((mU x 27 (upd (x 27) (119) (s (6 + 7 * (k) + (1))))) 27) (108) ((offI (s (6 + 7 * (k) + (2))) (nI (0)))))) 27) (99) (s (6 + 7 * (k) + (4))))) 27) (s) (j9))) (nI (0)) (nI (999))) kX7_held tMet_X7_116 rfl rfl (Nat.le_of_ble_eq_true rfl) (Nat.le_of_ble_eq_true rfl) ⟨Nat.le_of_ble_eq_true rfl, Nat.le_of_ble_eq_true rfl⟩ rfl rfl (Nat.le_of_ble_eq_true rfl) dX7_pushes_79 ?_
    refine g_istore_n (lv2 := [(3, .int ((heldI ((wkV ((mU (mU (mU x 27 (upd (x 27) (119) (s (6 + 7 * (k) + (1))))) 27 (upd ((mU x 27 (upd (x 27) (119) (s (6 + 7 * (k) + (1))))) 27) (108) ((offI (s (6 + 7 * (k) + (2))) (nI (0)))))) 27 (upd ((mU (mU x 27 (upd (x 27) (119) (s (6 + 7 * (k) + (1))))) 27 (upd ((mU x 27 (upd (x 27) (119) (s (6 + 7 * (k) + (1))))) 27) (108) ((offI (s (6 + 7 * (k) + (2))) (nI (0)))))) 27) (99) (s (6 + 7 * (k) + (4))))) 27) (s) (j9))) (nI (0)) (nI (999))))), (4, .int (nI (j9))), (2, .int ((offI (s (6 + 7 * (k) + (2))) (nI (0))))), (0, .ref (h0)), (1, .int (nI (k)))]) hX 3 5 hN rfl (by decide) rfl dX7_pushes_82 ?_
    refine g_lv [0, 2, 3, 4] rfl ?_
    exact J ((heldI ((wkV ((mU (mU (mU x 27 (upd (x 27) (119) (s (6 + 7 * (k) + (1))))) 27 (upd ((mU x 27 (upd (x 27) (119) (s (6 + 7 * (k) + (1))))) 27) (108) ((offI (s (6 + 7 * (k) + (2))) (nI (0)))))) 27 (upd ((mU (mU x 27 (upd (x 27) (119) (s (6 + 7 * (k) + (1))))) 27 (upd ((mU x 27 (upd (x 27) (119) (s (6 + 7 * (k) + (1))))) 27) (108) ((offI (s (6 + 7 * (k) + (2))) (nI (0)))))) 27) (99) (s (6 + 7 * (k) + (4))))) 27) (s) (j9))) (nI (0)) (nI (999)))) x72 (xk_t (xk_27 _ (xk_27 _ (xk_27 _ (xk_r x)))) k72) (by
      have e : ∀ nm0 : Nat → Int32, wkV (upd (upd (upd nm0 119 (s (6 + 7 * k + 1))) 108 (offI (s (6 + 7 * k + 2)) (nI 0))) 99 (s (6 + 7 * k + 4))) s j9 = wkV (nmP (s (6 + 7 * k + 1)) (offI (s (6 + 7 * k + 2)) (nI 0)) (s (6 + 7 * k + 4))) s j9 := fun nm0 => wkV_cong hok (fun j hj2 => by
        rw [hj.2] at hj2
        rcases hj2 with ⟨-, rfl | rfl | rfl⟩ | ⟨h, -⟩ | ⟨h, -⟩
        · rfl
        · rfl
        · rfl
        · exact absurd h (by decide)
        · exact absurd h (by decide))
      rw [pfS, hO]
      show heldI (wkV (nmP (s (6 + 7 * k + 1)) (offI (s (6 + 7 * k + 2)) (nI 0)) (s (6 + 7 * k + 4))) s j9) (nI 0) (nI 999) = _
      rw [← e (x 27)]
      simp only [mU_s, mU_mU])
