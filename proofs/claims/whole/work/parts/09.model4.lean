/-- the scratch rows 12 and 13 are as they were -/
def xk (x x2 : Nat → Nat → Int32) : Prop := x2 12 = x 12 ∧ x2 13 = x 13
theorem xk_r (x : Nat → Nat → Int32) : xk x x := ⟨rfl, rfl⟩
theorem xk_t {x y z : Nat → Nat → Int32} (h : xk x y) (h2 : xk y z) : xk x z := ⟨h2.1.trans h.1, h2.2.trans h.2⟩
theorem xk_27 {x y : Nat → Nat → Int32} (f : Nat → Int32) (h : xk x y) : xk x (mU y 27 f) := h
theorem xk_28 {x y : Nat → Nat → Int32} (f : Nat → Int32) (h : xk x y) : xk x (mU y 28 f) := h
/-- one step of a text on a pile of numbers -/
def wk1 (nm : Nat → Int32) (m z : Int32) (stk : List Int32) : Option (List Int32) :=
  if m = nI 2 then (if z = nI 33 then (match stk with | y :: t => some ((if y = 0 then nI 1 else nI 0) :: t) | [] => none) else (match stk with | y :: u :: t => some (joinI z u y :: t) | _ => none))
  else some ((if m = 0 then z else nm z.toNatClampNeg) :: stk)
theorem wk1_push {nm : Nat → Int32} {m z : Int32} {stk : List Int32} (h : ¬ m = nI 2) : wk1 nm m z stk = some ((if m = 0 then z else nm z.toNatClampNeg) :: stk) := by unfold wk1; rw [if_neg h]
theorem wk1_not {nm : Nat → Int32} {m z y : Int32} {t : List Int32} (h : m = nI 2) (h2 : z = nI 33) : wk1 nm m z (y :: t) = some ((if y = 0 then nI 1 else nI 0) :: t) := by unfold wk1; rw [if_pos h, if_pos h2]
theorem wk1_join {nm : Nat → Int32} {m z y u : Int32} {t : List Int32} (h : m = nI 2) (h2 : ¬ z = nI 33) : wk1 nm m z (y :: u :: t) = some (joinI z u y :: t) := by unfold wk1; rw [if_pos h, if_neg h2]
theorem wk1_nil {nm : Nat → Int32} {m z : Int32} (h : m = nI 2) : wk1 nm m z [] = none := by unfold wk1; rw [if_pos h]; split <;> rfl
theorem wk1_one {nm : Nat → Int32} {m z y : Int32} (h : m = nI 2) (h2 : ¬ z = nI 33) : wk1 nm m z [y] = none := by unfold wk1; rw [if_pos h, if_neg h2]
theorem iM1 (k : Nat) : nI (k + 1) + Int32.ofInt (-1) = nI k := by rw [show Int32.ofInt (-1) = (-1 : Int32) from by decide]; exact pk_m1 k
/-- the first k steps of the text that begins at the place b -/
def wkR (nm s : Nat → Int32) (b : Nat) : Nat → Option (List Int32)
  | 0 => some []
  | k + 1 => (wkR nm s b k).bind (wk1 nm (s (b + 4 + 2 * k)) (s (b + 4 + 2 * k + 1)))
/-- the row f holds the pile stk, its top last -/
def pR (f : Nat → Int32) : List Int32 → Prop
  | [] => True
  | y :: t => f t.length = y ∧ pR f t
theorem pR_upd {f : Nat → Int32} {k : Nat} {y : Int32} : ∀ {t : List Int32}, t.length ≤ k → pR f t → pR (upd f k y) t
  | [], _, _ => trivial
  | u :: t, h, hp => ⟨by rw [pk_un (by simp only [List.length_cons] at h; omega)]; exact hp.1, pR_upd (by simp only [List.length_cons] at h; omega) hp.2⟩
theorem pR_push {f : Nat → Int32} {t : List Int32} (y : Int32) (h : pR f t) : pR (upd f t.length y) (y :: t) := ⟨pk_us, pR_upd (Nat.le_refl _) h⟩
theorem kX7_worked : mKV RX7 yX7_worked cX7_worked 6 (some .int) 1 := ⟨tIns_X7_worked, tSel_X7_worked, tIni_X7, tCod_X7_worked, by decide +kernel⟩
set_option maxHeartbeats 4000000 in
set_option maxRecDepth 100000 in
theorem c_worked (l : Launch) (D : va_G) (cy : Nat → ClassId) (Z : (Nat → Prop) → State → Heap → Prop) (hzo : zOK Z) {h0 : Nat} {a q : Nat → Nat} {C : (Nat → Int32) → (Nat → Int32) → (Nat → Nat → Int32) → (Nat → Nat → Int32) → va_W} (hC : mLens (cy 0) h0 a q C) (v s : Nat → Int32) (r x : Nat → Nat → Int32) (t m : Nat) (ht : t < 14) (hm : s (69 + 200 * t + 2) = nI m) (hm98 : m ≤ 98) (hwf : ∀ k, k ≤ m → ∃ stk, wkR (x 27) s (69 + 200 * t) k = some stk ∧ stk.length ≤ 99) (hnm : ∀ k, k < m → ¬ s (69 + 200 * t + 4 + 2 * k) = nI 2 → ¬ s (69 + 200 * t + 4 + 2 * k) = 0 → vp_in (s (69 + 200 * t + 4 + 2 * k + 1)) 128) (y0 : Int32) (hy : wkR (x 27) s (69 + 200 * t) m = some [y0]) : GM l D cy Z yX7_worked (zW yX7_worked cX7_worked 6 (some .int)) { frames := 1, cells := 0, slots := 0, locals := 22 } [.ref (h0), .int (nI (t))] (C v s r x) (fun res w2 => res = some (.int y0) ∧ ∃ x2, xk x x2 ∧ w2 = C v s r x2) 0 0 := by
  refine g_entry (cc := cX7_worked) (maxL := 6) (by decide) rfl (Nat.le_of_ble_eq_true rfl) ?_
  intro κ hN hX hR
  have hX : GX κ cy Z cX7_worked (Cond.code yX7_worked cX7_worked 6 (some .int) :: zT) RX7 { frames := 1, cells := 0, slots := 0, locals := 22 } := hX
  show GW κ 0 0 _ 0 [(0, .ref (h0)), (1, .int (nI (t)))] []
  have L : ∀ (f i : Nat) (stk : List Int32) (x9 : Nat → Nat → Int32), i ≤ m → m + 1 ≤ i + f → wkR (x 27) s (69 + 200 * t) i = some stk → x9 27 = x 27 → xk x x9 → pR (x9 28) stk → GW κ 0 0 (C v s r x9) 4 [(3, .int (nI (i))), (2, .int (nI (stk.length))), (0, .ref (h0)), (1, .int (nI (t)))] [] := by
    intro f
    induction f with
    | zero => intro i stk x9 h1 h2; exact absurd h2 (by omega)
    | succ f ih =>
      intro i stk x9 h1 h2 hstk h27 hxk hp
      have hlen : stk.length ≤ 99 := by obtain ⟨s9, e9, l9⟩ := hwf i h1; rw [hstk] at e9; cases e9; exact l9
      refine g_iload_n hX 0 rfl rfl dX7_worked_4 ?_
      refine g_aload_n hX 2 rfl rfl dX7_worked_5 ?_
      refine m_getA hX hC 0 (by decide) rfl tFld_X7_7 dX7_worked_6 ?_
      refine g_aload_n hX 2 rfl rfl dX7_worked_9 ?_
      refine g_iload_n hX 3 rfl rfl dX7_worked_10 ?_
      refine m_callD hX hzo hC [.int (nI (t))] [.ref (a 0), .int (nI (i))] (c_textAt _ _ _ _ hzo hC v s r x9 (t)) kX7_textAt tMet_X7_283 rfl rfl (Nat.le_of_ble_eq_true rfl) (Nat.le_of_ble_eq_true rfl) ⟨Nat.le_of_ble_eq_true rfl, Nat.le_of_ble_eq_true rfl⟩ rfl rfl (Nat.le_of_ble_eq_true rfl) dX7_worked_11 ?_
      refine g_iconst hX (v := nI 2) rfl dX7_worked_14 ?_
      refine g_iaddN hX dX7_worked_15 ?_
      refine m0_aldN hX hC (by omega) dX7_worked_16 ?_
      refine g_top (y := .int (nI (m))) (congrArg Value.int hm) ?_
      refine g_icmpN_ge hX (by omega) (by omega) 163 (by decide) dX7_worked_17 (fun c17 => ?_) (fun c17 => ?_)
      · refine g_aload_n hX 2 rfl rfl dX7_worked_163 ?_
        refine m_getA hX hC 28 (by decide) rfl tFld_X7_58 dX7_worked_164 ?_
        refine g_iconst hX (v := nI 0) rfl dX7_worked_167 ?_
        refine mb_aldN hX hC 28 rfl (show _ < mN 28 from by simp only [mN]; omega) (by decide) dX7_worked_168 ?_
        exact g_retiP hR ⟨by rw [show i = m from by omega, hy] at hstk; cases hstk; rw [show x9 28 0 = y0 from hp.1], x9, hxk, rfl⟩ dX7_worked_169
      · refine g_aload_n hX 2 rfl rfl dX7_worked_20 ?_
        refine m_getA hX hC 0 (by decide) rfl tFld_X7_7 dX7_worked_21 ?_
        refine g_aload_n hX 2 rfl rfl dX7_worked_24 ?_
        refine g_iload_n hX 3 rfl rfl dX7_worked_25 ?_
        refine m_callD hX hzo hC [.int (nI (t))] [.ref (a 0)] (c_textAt _ _ _ _ hzo hC v s r x9 (t)) kX7_textAt tMet_X7_283 rfl rfl (Nat.le_of_ble_eq_true rfl) (Nat.le_of_ble_eq_true rfl) ⟨Nat.le_of_ble_eq_true rfl, Nat.le_of_ble_eq_true rfl⟩ rfl rfl (Nat.le_of_ble_eq_true rfl) dX7_worked_26 ?_
        refine g_iconst hX (v := nI 4) rfl dX7_worked_29 ?_
        refine g_iaddN hX dX7_worked_30 ?_
        refine g_iconst hX (v := nI 2) rfl dX7_worked_31 ?_
        refine g_iload_n hX 0 rfl rfl dX7_worked_32 ?_
        refine g_imulN hX dX7_worked_33 ?_
        refine g_iaddN hX dX7_worked_34 ?_
        refine m0_aldN hX hC (by omega) dX7_worked_35 ?_
        refine g_istore (lv2 := [(4, .int (s (((69 + 200 * (t) + 4) + (2 * i))))), (3, .int (nI (i))), (2, .int (nI (stk.length))), (0, .ref (h0)), (1, .int (nI (t)))]) hX 4 6 hN (by decide) rfl dX7_worked_36 ?_
        refine g_aload_n hX 3 rfl rfl dX7_worked_38 ?_
        refine m_getA hX hC 0 (by decide) rfl tFld_X7_7 dX7_worked_39 ?_
        refine g_aload_n hX 3 rfl rfl dX7_worked_42 ?_
        refine g_iload_n hX 4 rfl rfl dX7_worked_43 ?_
        refine m_callD hX hzo hC [.int (nI (t))] [.ref (a 0)] (c_textAt _ _ _ _ hzo hC v s r x9 (t)) kX7_textAt tMet_X7_283 rfl rfl (Nat.le_of_ble_eq_true rfl) (Nat.le_of_ble_eq_true rfl) ⟨Nat.le_of_ble_eq_true rfl, Nat.le_of_ble_eq_true rfl⟩ rfl rfl (Nat.le_of_ble_eq_true rfl) dX7_worked_44 ?_
        refine g_iconst hX (v := nI 4) rfl dX7_worked_47 ?_
        refine g_iaddN hX dX7_worked_48 ?_
        refine g_iconst hX (v := nI 2) rfl dX7_worked_49 ?_
        refine g_iload_n hX 1 rfl rfl dX7_worked_50 ?_
        refine g_imulN hX dX7_worked_51 ?_
        refine g_iaddN hX dX7_worked_52 ?_
        refine g_iconst hX (v := nI 1) rfl dX7_worked_53 ?_
        refine g_iaddN hX dX7_worked_54 ?_
        refine m0_aldN hX hC (by omega) dX7_worked_55 ?_
        refine g_istore (lv2 := [(5, .int (s ((((69 + 200 * (t) + 4) + (2 * i)) + 1)))), (4, .int (s (((69 + 200 * (t) + 4) + (2 * i))))), (3, .int (nI (i))), (2, .int (nI (stk.length))), (0, .ref (h0)), (1, .int (nI (t)))]) hX 5 6 hN (by decide) rfl dX7_worked_56 ?_
        refine g_iload hX 1 rfl dX7_worked_58 ?_
        refine g_iconst hX (v := nI 2) rfl dX7_worked_60 ?_
        refine g_icmp_eq hX 93 (by decide) dX7_worked_61 (fun c61 => ?_) (fun c61 => ?_)
        · obtain ⟨stk2, hs2, hl2⟩ := hwf (i + 1) (by omega)
          have hs2 : wk1 (x 27) (s (69 + 200 * t + 4 + 2 * i)) (s (69 + 200 * t + 4 + 2 * i + 1)) stk = some stk2 := by rw [wkR, hstk] at hs2; exact hs2
          refine g_iload hX 0 rfl dX7_worked_93 ?_
          refine g_bipush hX (v := nI 33) (by decide) dX7_worked_95 ?_
          refine g_icmp_ne hX 127 (by decide) dX7_worked_97 (fun c97 => ?_) (fun c97 => ?_)
          · obtain ⟨y, u, t2, rfl⟩ : ∃ y u t2, stk = y :: u :: t2 := by
              rcases stk with _ | ⟨y, _ | ⟨u, t2⟩⟩
              · rw [wk1_nil c61] at hs2; cases hs2
              · rw [wk1_one c61 c97] at hs2; cases hs2
              · exact ⟨y, u, t2, rfl⟩
            simp only [List.length_cons] at hlen
            show GW κ 0 0 _ 127 [(5, .int (s ((((69 + 200 * (t) + 4) + (2 * i)) + 1)))), (4, .int (s (((69 + 200 * (t) + 4) + (2 * i))))), (3, .int (nI (i))), (2, .int (nI (t2.length + 1 + 1))), (0, .ref (h0)), (1, .int (nI (t)))] []
            refine g_iinc (v := nI (t2.length + 1)) (lv2 := [(2, .int (nI (t2.length + 1))), (5, .int (s ((((69 + 200 * (t) + 4) + (2 * i)) + 1)))), (4, .int (s (((69 + 200 * (t) + 4) + (2 * i))))), (3, .int (nI (i))), (0, .ref (h0)), (1, .int (nI (t)))]) hX 3 2 6 hN rfl (iM1 _) (by decide) rfl dX7_worked_127 ?_
            refine g_aload_n hX 4 rfl rfl dX7_worked_130 ?_
            refine m_getA hX hC 28 (by decide) rfl tFld_X7_58 dX7_worked_131 ?_
            refine g_iload_n hX 0 rfl rfl dX7_worked_134 ?_
            refine g_iconst hX (v := nI 1) rfl dX7_worked_135 ?_
            refine g_isubN hX (by omega) dX7_worked_136 ?_
            refine g_iload hX 1 rfl dX7_worked_137 ?_
            refine g_aload_n hX 4 rfl rfl dX7_worked_139 ?_
            refine m_getA hX hC 28 (by decide) rfl tFld_X7_58 dX7_worked_140 ?_
            refine g_iload_n hX 0 rfl rfl dX7_worked_143 ?_
            refine g_iconst hX (v := nI 1) rfl dX7_worked_144 ?_
            refine g_isubN hX (by omega) dX7_worked_145 ?_
            refine mb_aldN hX hC 28 rfl (show _ < mN 28 from by simp only [mN]; omega) (by decide) dX7_worked_146 ?_
            refine g_aload_n hX 4 rfl rfl dX7_worked_147 ?_
            refine m_getA hX hC 28 (by decide) rfl tFld_X7_58 dX7_worked_148 ?_
            refine g_iload_n hX 0 rfl rfl dX7_worked_151 ?_
            refine mb_aldN hX hC 28 rfl (show _ < mN 28 from by simp only [mN]; omega) (by decide) dX7_worked_152 ?_
            refine s_call hX hzo [.int (s ((((69 + 200 * (t) + 4) + (2 * i)) + 1))), .int (x9 28 ((t2.length + 1 - 1))), .int (x9 28 (t2.length + 1))] [.int (nI ((t2.length + 1 - 1))), .ref (a 28)] (c_joined _ _ _ _ _ (s ((((69 + 200 * (t) + 4) + (2 * i)) + 1))) (x9 28 ((t2.length + 1 - 1))) (x9 28 (t2.length + 1))) kX7_joined tMet_X7_297 rfl rfl (Nat.le_of_ble_eq_true rfl) (Nat.le_of_ble_eq_true rfl) ⟨Nat.le_of_ble_eq_true rfl, Nat.le_of_ble_eq_true rfl⟩ rfl rfl (Nat.le_of_ble_eq_true rfl) dX7_worked_153 ?_
            refine mb_astN hX hC 28 rfl (show _ < mN 28 from by simp only [mN]; omega) (by decide) dX7_worked_156 ?_
            refine g_iincN (n := 1) (lv2 := [(3, .int (nI (i + 1))), (2, .int (nI (t2.length + 1))), (5, .int (s ((((69 + 200 * (t) + 4) + (2 * i)) + 1)))), (4, .int (s (((69 + 200 * (t) + 4) + (2 * i))))), (0, .ref (h0)), (1, .int (nI (t)))]) hX 3 3 6 hN rfl (by decide) rfl dX7_worked_157 ?_
            refine g_goto hX 4 (by decide) dX7_worked_160 ?_
            refine g_lv [0, 1, 4, 5] rfl ?_
            exact ih (i + 1) (joinI (s (69 + 200 * t + 4 + 2 * i + 1)) u y :: t2) (mU x9 28 (upd (x9 28) ((t2.length + 1 - 1)) ((joinI (s ((((69 + 200 * (t) + 4) + (2 * i)) + 1))) (x9 28 ((t2.length + 1 - 1))) (x9 28 (t2.length + 1)))))) (by omega) (by omega) (by rw [wkR, hstk]; show wk1 _ _ _ (y :: u :: t2) = _; rw [wk1_join c61 c97]) (by rw [mU_n _ _ (by decide)]; exact h27) (xk_28 _ hxk) (by rw [mU_s]; have e1 := hp.1; have e2 := hp.2.1; simp only [List.length_cons] at e1; rw [show t2.length + 1 - 1 = t2.length from rfl, e1, e2]; exact pR_push _ hp.2.2)
          · obtain ⟨y, u, rfl⟩ : ∃ y u, stk = y :: u := by
              cases stk with
              | nil => rw [wk1_nil c61] at hs2; cases hs2
              | cons y u => exact ⟨y, u, rfl⟩
            simp only [List.length_cons] at hlen
            show GW κ 0 0 _ 100 [(5, .int (s ((((69 + 200 * (t) + 4) + (2 * i)) + 1)))), (4, .int (s (((69 + 200 * (t) + 4) + (2 * i))))), (3, .int (nI (i))), (2, .int (nI (u.length + 1))), (0, .ref (h0)), (1, .int (nI (t)))] []
            refine g_aload_n hX 4 rfl rfl dX7_worked_100 ?_
            refine m_getA hX hC 28 (by decide) rfl tFld_X7_58 dX7_worked_101 ?_
            refine g_iload_n hX 3 rfl rfl dX7_worked_104 ?_
            refine g_iconst hX (v := nI 1) rfl dX7_worked_105 ?_
            refine g_isubN hX (by omega) dX7_worked_106 ?_
            refine g_aload_n hX 4 rfl rfl dX7_worked_107 ?_
            refine m_getA hX hC 28 (by decide) rfl tFld_X7_58 dX7_worked_108 ?_
            refine g_iload_n hX 3 rfl rfl dX7_worked_111 ?_
            refine g_iconst hX (v := nI 1) rfl dX7_worked_112 ?_
            refine g_isubN hX (by omega) dX7_worked_113 ?_
            refine mb_aldN hX hC 28 rfl (show _ < mN 28 from by simp only [mN]; omega) (by decide) dX7_worked_114 ?_
            refine g_if_ne hX 122 (by decide) dX7_worked_115 (fun c115 => ?_) (fun c115 => ?_)
            · refine g_iconst hX (v := nI 0) rfl dX7_worked_122 ?_
              refine mb_astN hX hC 28 rfl (show _ < mN 28 from by simp only [mN]; omega) (by decide) dX7_worked_123 ?_
              refine g_goto hX 157 (by decide) dX7_worked_124 ?_
              refine g_iincN (n := 1) (lv2 := [(3, .int (nI (i + 1))), (5, .int (s ((((69 + 200 * (t) + 4) + (2 * i)) + 1)))), (4, .int (s (((69 + 200 * (t) + 4) + (2 * i))))), (2, .int (nI (u.length + 1))), (0, .ref (h0)), (1, .int (nI (t)))]) hX 2 3 6 hN rfl (by decide) rfl dX7_worked_157 ?_
              refine g_goto hX 4 (by decide) dX7_worked_160 ?_
              refine g_lv [0, 3, 4, 5] rfl ?_
              exact ih (i + 1) (nI 0 :: u) (mU x9 28 (upd (x9 28) ((u.length + 1 - 1)) (nI (0)))) (by omega) (by omega) (by rw [wkR, hstk]; show wk1 _ _ _ (y :: u) = _; rw [wk1_not c61 c97]; rw [if_neg (by rw [← hp.1]; exact c115)]) (by rw [mU_n _ _ (by decide)]; exact h27) (xk_28 _ hxk) (by rw [mU_s]; exact pR_push _ hp.2)
            · refine g_iconst hX (v := nI 1) rfl dX7_worked_118 ?_
              refine g_goto hX 123 (by decide) dX7_worked_119 ?_
              refine mb_astN hX hC 28 rfl (show _ < mN 28 from by simp only [mN]; omega) (by decide) dX7_worked_123 ?_
              refine g_goto hX 157 (by decide) dX7_worked_124 ?_
              refine g_iincN (n := 1) (lv2 := [(3, .int (nI (i + 1))), (5, .int (s ((((69 + 200 * (t) + 4) + (2 * i)) + 1)))), (4, .int (s (((69 + 200 * (t) + 4) + (2 * i))))), (2, .int (nI (u.length + 1))), (0, .ref (h0)), (1, .int (nI (t)))]) hX 2 3 6 hN rfl (by decide) rfl dX7_worked_157 ?_
              refine g_goto hX 4 (by decide) dX7_worked_160 ?_
              refine g_lv [0, 3, 4, 5] rfl ?_
              exact ih (i + 1) (nI 1 :: u) (mU x9 28 (upd (x9 28) ((u.length + 1 - 1)) (nI (1)))) (by omega) (by omega) (by rw [wkR, hstk]; show wk1 _ _ _ (y :: u) = _; rw [wk1_not c61 c97]; rw [if_pos (by rw [← hp.1]; exact c115)]) (by rw [mU_n _ _ (by decide)]; exact h27) (xk_28 _ hxk) (by rw [mU_s]; exact pR_push _ hp.2)
        · refine g_aload_n hX 4 rfl rfl dX7_worked_64 ?_
          refine m_getA hX hC 28 (by decide) rfl tFld_X7_58 dX7_worked_65 ?_
          refine g_iload_n hX 3 rfl rfl dX7_worked_68 ?_
          refine g_iload hX 1 rfl dX7_worked_69 ?_
          refine g_if_ne hX 79 (by decide) dX7_worked_71 (fun c71 => ?_) (fun c71 => ?_)
          · refine g_aload_n hX 4 rfl rfl dX7_worked_79 ?_
            refine m_getA hX hC 27 (by decide) rfl tFld_X7_55 dX7_worked_80 ?_
            refine g_iload hX 0 rfl dX7_worked_83 ?_
            refine mb_ald hX hC 27 rfl (hnm i (by omega) c61 c71) dX7_worked_85 ?_
            refine mb_astN hX hC 28 rfl (show _ < mN 28 from by simp only [mN]; omega) (by decide) dX7_worked_86 ?_
            refine g_iincN (n := 1) (lv2 := [(2, .int (nI (stk.length + 1))), (5, .int (s ((((69 + 200 * (t) + 4) + (2 * i)) + 1)))), (4, .int (s (((69 + 200 * (t) + 4) + (2 * i))))), (3, .int (nI (i))), (0, .ref (h0)), (1, .int (nI (t)))]) hX 3 2 6 hN rfl (by decide) rfl dX7_worked_87 ?_
            refine g_goto hX 157 (by decide) dX7_worked_90 ?_
            refine g_iincN (n := 1) (lv2 := [(3, .int (nI (i + 1))), (2, .int (nI (stk.length + 1))), (5, .int (s ((((69 + 200 * (t) + 4) + (2 * i)) + 1)))), (4, .int (s (((69 + 200 * (t) + 4) + (2 * i))))), (0, .ref (h0)), (1, .int (nI (t)))]) hX 3 3 6 hN rfl (by decide) rfl dX7_worked_157 ?_
            refine g_goto hX 4 (by decide) dX7_worked_160 ?_
            refine g_lv [0, 1, 4, 5] rfl ?_
            exact ih (i + 1) ((x9 27 (s (69 + 200 * t + 4 + 2 * i + 1)).toNatClampNeg) :: stk) (mU x9 28 (upd (x9 28) (stk.length) (x9 27 (s ((((69 + 200 * (t) + 4) + (2 * i)) + 1))).toNatClampNeg))) (by omega) (by omega) (by rw [wkR, hstk]; show wk1 _ _ _ stk = _; rw [wk1_push c61]; rw [if_neg c71, h27]) (by rw [mU_n _ _ (by decide)]; exact h27) (xk_28 _ hxk) (by rw [mU_s]; exact pR_push _ hp)
          · refine g_iload hX 0 rfl dX7_worked_74 ?_
            refine g_goto hX 86 (by decide) dX7_worked_76 ?_
            refine mb_astN hX hC 28 rfl (show _ < mN 28 from by simp only [mN]; omega) (by decide) dX7_worked_86 ?_
            refine g_iincN (n := 1) (lv2 := [(2, .int (nI (stk.length + 1))), (5, .int (s ((((69 + 200 * (t) + 4) + (2 * i)) + 1)))), (4, .int (s (((69 + 200 * (t) + 4) + (2 * i))))), (3, .int (nI (i))), (0, .ref (h0)), (1, .int (nI (t)))]) hX 3 2 6 hN rfl (by decide) rfl dX7_worked_87 ?_
            refine g_goto hX 157 (by decide) dX7_worked_90 ?_
            refine g_iincN (n := 1) (lv2 := [(3, .int (nI (i + 1))), (2, .int (nI (stk.length + 1))), (5, .int (s ((((69 + 200 * (t) + 4) + (2 * i)) + 1)))), (4, .int (s (((69 + 200 * (t) + 4) + (2 * i))))), (0, .ref (h0)), (1, .int (nI (t)))]) hX 3 3 6 hN rfl (by decide) rfl dX7_worked_157 ?_
            refine g_goto hX 4 (by decide) dX7_worked_160 ?_
            refine g_lv [0, 1, 4, 5] rfl ?_
            exact ih (i + 1) ((s (69 + 200 * t + 4 + 2 * i + 1)) :: stk) (mU x9 28 (upd (x9 28) (stk.length) (s ((((69 + 200 * (t) + 4) + (2 * i)) + 1))))) (by omega) (by omega) (by rw [wkR, hstk]; show wk1 _ _ _ stk = _; rw [wk1_push c61]; rw [if_pos c71]) (by rw [mU_n _ _ (by decide)]; exact h27) (xk_28 _ hxk) (by rw [mU_s]; exact pR_push _ hp)
  refine g_iconst hX (v := nI 0) rfl dX7_worked_0 ?_
  refine g_istore_n (lv2 := [(2, .int (nI (0))), (0, .ref (h0)), (1, .int (nI (t)))]) hX 2 6 hN rfl (by decide) rfl dX7_worked_1 ?_
  refine g_iconst hX (v := nI 0) rfl dX7_worked_2 ?_
  refine g_istore_n (lv2 := [(3, .int (nI (0))), (2, .int (nI (0))), (0, .ref (h0)), (1, .int (nI (t)))]) hX 3 6 hN rfl (by decide) rfl dX7_worked_3 ?_
  exact L (m + 1) 0 [] x (by omega) (by omega) rfl rfl (xk_r x) trivial
