/-- cells that no day touches, but for 2 and 3 -/
theorem fallS_out (s : Nat → Int32) (k j : Nat) (hk : k < 9) (h : j < 6 ∨ 69 ≤ j) : fallS s k j = s j := by rw [fallS, pk_un (by omega), pk_un (by omega)]
theorem cmS_out (t b s : Nat → Int32) (j : Nat) (h : j < 6 ∨ 69 ≤ j) : ∀ k, k ≤ 9 → cmS t b s k j = s j := by
  intro k
  induction k with
  | zero => intro _; rfl
  | succ k ih =>
    intro hk
    rw [cmS, cm1]
    split
    · rw [pk_un (by omega), pk_un (by omega)]; exact ih (by omega)
    · exact ih (by omega)
theorem fcS_out (s : Nat → Int32) (j : Nat) (h : j < 6 ∨ 69 ≤ j) : ∀ k, k ≤ 9 → fcS s k j = s j := by
  intro k
  induction k with
  | zero => intro _; rfl
  | succ k ih =>
    intro hk
    rw [fcS, fc1]
    split
    · exact (fallS_out _ k j (by omega) h).trans (ih (by omega))
    · exact ih (by omega)
theorem fnS_out (p0 : Nat → Bool) (n : Nat) (s : Nat → Int32) (j : Nat) (h : j < 6 ∨ 69 ≤ j) : ∀ k, k ≤ 9 → (fnS p0 n s k).1 j = s j := by
  intro k
  induction k with
  | zero => intro _; rfl
  | succ k ih =>
    intro hk
    rw [fnS]
    split
    · exact (fallS_out _ k j (by omega) h).trans (ih (by omega))
    · exact ih (by omega)
theorem frS_out (p0 : Nat → Bool) (n : Nat) (hn : n ≤ 9) (j : Nat) (h : j < 6 ∨ 69 ≤ j) : ∀ (f : Nat) (s : Nat → Int32), frS p0 n f s j = s j := by
  intro f
  induction f with
  | zero => intro s; rfl
  | succ f ih =>
    intro s
    rw [frS]
    split
    · rw [ih]; exact fnS_out p0 n s j h n hn
    · exact fnS_out p0 n s j h n hn
theorem dayS_out (s : Nat → Int32) (nt n : Nat) (hn : n ≤ 9) (j : Nat) (h : j < 6 ∨ 69 ≤ j) (h2 : j ≠ 2) (h3 : j ≠ 3) : dayS s nt n j = s j := by
  rw [dayS, reS, pk_un h2, pk_un h3, frS_out _ _ hn j h, fcS_out _ j h n hn, cmS_out _ _ _ j h n hn]
theorem dayS_2 (s : Nat → Int32) (nt n : Nat) (hn : n ≤ 9) : dayS s nt n 2 = s 2 + nI 1 := by
  rw [dayS, reS, pk_us, frS_out _ _ hn 2 (by omega), fcS_out _ 2 (by omega) n hn, cmS_out _ _ _ 2 (by omega) n hn]
theorem wkH_cong {s s2 : Nat → Int32} {b : Nat} (h : ∀ j, b ≤ j → s2 j = s j) : ∀ k, wkH s2 b k = wkH s b k := by
  intro k
  induction k with
  | zero => rfl
  | succ k ih => rw [wkH, wkH, ih, h (b + 4 + 2 * k) (by omega), h (b + 4 + 2 * k + 1) (by omega)]
theorem wkR_cong2 {s s2 nm : Nat → Int32} {b : Nat} (h : ∀ j, b ≤ j → s2 j = s j) : ∀ k, wkR nm s2 b k = wkR nm s b k := by
  intro k
  induction k with
  | zero => rfl
  | succ k ih => rw [wkR, wkR, ih, h (b + 4 + 2 * k) (by omega), h (b + 4 + 2 * k + 1) (by omega)]
theorem textOK_cong {s s2 : Nat → Int32} {t : Nat} (h : ∀ j, 69 ≤ j → s2 j = s j) (hok : textOK s t) : textOK s2 t := by
  obtain ⟨m, h1, h2, h3, h4, h5⟩ := hok
  refine ⟨m, by rw [h _ (by omega)]; exact h1, h2, fun k hk => ?_, ?_, fun k hk c1 c2 => ?_⟩
  · rw [wkH_cong (fun j hj => h j (by omega))]; exact h3 k hk
  · rw [wkH_cong (fun j hj => h j (by omega))]; exact h4
  · rw [h _ (by omega)] at c1 c2 ⊢
    rw [h _ (by omega)]
    exact h5 k hk c1 c2
theorem wkV_cong2 {s s2 nm : Nat → Int32} {t : Nat} (h : ∀ j, 69 ≤ j → s2 j = s j) : wkV nm s2 t = wkV nm s t := by rw [wkV, wkV, h _ (by omega), wkR_cong2 (fun j hj => h j (by omega))]
/-- n houses, nt texts that are in order -/
def stOK (s : Nat → Int32) (nt n : Nat) : Prop := s 1 = nI nt ∧ nt ≤ 14 ∧ (∀ t, t < nt → textOK s t) ∧ s 0 = nI n ∧ n ≤ 9
theorem stOK_cong {s s2 : Nat → Int32} {nt n : Nat} (h : ∀ j, 69 ≤ j → s2 j = s j) (h0 : s2 0 = s 0) (h1 : s2 1 = s 1) (hk : stOK s nt n) : stOK s2 nt n := ⟨h1.trans hk.1, hk.2.1, fun t ht => textOK_cong h (hk.2.2.1 t ht), h0.trans hk.2.2.2.1, hk.2.2.2.2⟩
/-- so many days -/
def itS (s : Nat → Int32) (nt n : Nat) : Nat → (Nat → Int32)
  | 0 => s
  | k + 1 => dayS (itS s nt n k) nt n
theorem itS_out (s : Nat → Int32) (nt n : Nat) (hn : n ≤ 9) (j : Nat) (h : j < 6 ∨ 69 ≤ j) (h2 : j ≠ 2) (h3 : j ≠ 3) : ∀ k, itS s nt n k j = s j := by
  intro k
  induction k with
  | zero => rfl
  | succ k ih => rw [itS, dayS_out _ _ _ hn j h h2 h3, ih]
theorem itS_2 {s : Nat → Int32} {nt n d : Nat} (hn : n ≤ 9) (hd : s 2 = nI d) : ∀ k, itS s nt n k 2 = nI (d + k) := by
  intro k
  induction k with
  | zero => exact hd
  | succ k ih => rw [itS, dayS_2 _ _ _ hn, ih, nI_add]; rfl
theorem stOK_it {s : Nat → Int32} {nt n : Nat} (h : stOK s nt n) (k : Nat) : stOK (itS s nt n k) nt n :=
  stOK_cong (fun j hj => itS_out s nt n h.2.2.2.2 j (by omega) (by omega) (by omega) k) (itS_out s nt n h.2.2.2.2 0 (by omega) (by omega) (by omega) k) (itS_out s nt n h.2.2.2.2 1 (by omega) (by omega) (by omega) k) h
theorem c_goesOnK (l : Launch) (D : va_G) (cy : Nat → ClassId) (Z : (Nat → Prop) → State → Heap → Prop) (hzo : zOK Z) {h0 : Nat} {a q : Nat → Nat} {C : (Nat → Int32) → (Nat → Int32) → (Nat → Nat → Int32) → (Nat → Nat → Int32) → va_W} (hC : mLens (cy 0) h0 a q C) (v s : Nat → Int32) (r x : Nat → Nat → Int32) (nt n : Nat) (h : stOK s nt n) : GM l D cy Z yX7_goesOn (zW yX7_goesOn cX7_goesOn 5 none) { frames := 4, cells := 0, slots := 0, locals := 96 } [.ref h0] (C v s r x) (fun res w2 => res = none ∧ ∃ x2, w2 = C v (dayS s nt n) r x2) 0 0 := c_goesOn l D cy Z hzo hC v s r x nt h.1 h.2.1 h.2.2.1 n h.2.2.2.1 h.2.2.2.2
def drw (s : Nat → Int32) : Nat → Int32 := upd s 5 (lotZ (s 5))
theorem c_drawnD (l : Launch) (D : va_G) (cy : Nat → ClassId) (Z : (Nat → Prop) → State → Heap → Prop) (hzo : zOK Z) {h0 : Nat} {a q : Nat → Nat} {C : (Nat → Int32) → (Nat → Int32) → (Nat → Nat → Int32) → (Nat → Nat → Int32) → va_W} (hC : mLens (cy 0) h0 a q C) (v s : Nat → Int32) (r x : Nat → Nat → Int32) : GD l D cy Z yX7_drawn (zW yX7_drawn cX7_drawn 1 (some .int)) { frames := 0, cells := 0, slots := 0, locals := 0 } [.ref h0] (C v s r x) (some (.int (lotN (s 5)))) (C v (drw s) r x) 0 0 := c_drawn l D cy Z hzo hC v s r x
def rmI (z y : Int32) : Int32 := z - z / y * y
/-- a house by the lot -/
def lot1 (s : Nat → Int32) (k : Nat) : Nat → Int32 := houseS (drw (drw (drw (drw s)))) k (rmI (lotN (s 5)) (nI 6)) (nI 1 + rmI (lotN (drw s 5)) (nI 60)) (rmI (lotN (drw (drw s) 5)) (nI 41) - nI 20) (rmI (lotN (drw (drw (drw s)) 5)) (nI 60))
def dlS (s : Nat → Int32) (n : Nat) : Nat → (Nat → Int32)
  | 0 => s
  | j + 1 => lot1 (dlS s n j) (n + j)
theorem dlS_0 {s : Nat → Int32} {n : Nat} (hn : s 0 = nI n) : ∀ j, dlS s n j 0 = nI (n + j)
  | 0 => hn
  | j + 1 => by rw [dlS, lot1, houseS_0]; rfl
theorem inB_t {z : Int32} {lo hi : Nat} (hlo : lo ≤ hi) (hi2 : hi < 2147483648) (h : inB z (nI lo) (nI hi) = true) : ∃ m, lo ≤ m ∧ m ≤ hi ∧ z = nI m := by
  rw [inB, Bool.and_eq_true, decide_eq_true_eq, decide_eq_true_eq] at h
  have e1 := Int32.le_iff_toInt_le.mp h.1
  have e2 := Int32.le_iff_toInt_le.mp h.2
  rw [nI_toInt (by omega)] at e1 e2
  refine ⟨z.toInt.toNat, by omega, by omega, ?_⟩
  apply Int32.toInt_inj.mp
  rw [nI_toInt (by omega)]
  omega
def dealP (s : Nat → Int32) (n : Nat) (z : Int32) : Int32 × (Nat → Int32) := if inB z 1 9 then (nI (min z.toNatClampNeg (9 - n)), dlS s n (min z.toNatClampNeg (9 - n))) else (-1000000001, s)
theorem kX7_deal : mKV RX7 yX7_deal cX7_deal 6 (some .int) 1 := ⟨tIns_X7_deal, tSel_X7_deal, tIni_X7, tCod_X7_deal, by decide +kernel⟩
set_option maxHeartbeats 4000000 in
set_option maxRecDepth 100000 in
theorem c_deal (l : Launch) (D : va_G) (cy : Nat → ClassId) (Z : (Nat → Prop) → State → Heap → Prop) (hzo : zOK Z) {h0 : Nat} {a q : Nat → Nat} {C : (Nat → Int32) → (Nat → Int32) → (Nat → Nat → Int32) → (Nat → Nat → Int32) → va_W} (hC : mLens (cy 0) h0 a q C) (v s : Nat → Int32) (r x : Nat → Nat → Int32) (n : Nat) (hn : s 0 = nI n) (hn9 : n ≤ 9) (z : Int32) : GM l D cy Z yX7_deal (zW yX7_deal cX7_deal 6 (some .int)) { frames := 2, cells := 0, slots := 0, locals := 48 } [.ref (h0), .int (z)] (C v s r x) (fun res w2 => res = some (.int (dealP s n z).1) ∧ ∃ x2, w2 = C v (dealP s n z).2 r x2) 0 0 := by
  refine g_entry (cc := cX7_deal) (maxL := 6) (by decide) rfl (Nat.le_of_ble_eq_true rfl) ?_
  intro κ hN hX hR
  have hX : GX κ cy Z cX7_deal (Cond.code yX7_deal cX7_deal 6 (some .int) :: zT) RX7 { frames := 2, cells := 0, slots := 0, locals := 48 } := hX
  show GW κ 0 0 _ 0 [(0, .ref (h0)), (1, .int (z))] []
  refine g_iload_n hX 1 rfl rfl dX7_deal_0 ?_
  refine g_i2l hX dX7_deal_1 ?_
  refine g_lconst hX (v := Int32.toInt64 (1)) (by decide) dX7_deal_2 ?_
  refine g_ldc2 hX (v := Int32.toInt64 (9)) (zu tCoL_X7_92 rfl) dX7_deal_3 ?_
  refine s_call hX hzo [.long (Int32.toInt64 (z)), .long (Int32.toInt64 ((1))), .long (Int32.toInt64 ((9)))] [] (c_isIn _ _ _ _ _ (z) ((1)) ((9))) kX7_isIn tMet_X7_71 rfl rfl (Nat.le_of_ble_eq_true rfl) (Nat.le_of_ble_eq_true rfl) ⟨Nat.le_of_ble_eq_true rfl, Nat.le_of_ble_eq_true rfl⟩ rfl rfl (Nat.le_of_ble_eq_true rfl) dX7_deal_6 ?_
  refine g_ifb_ne hX 15 (by decide) dX7_deal_9 (fun c9 => ?_) (fun c9 => ?_)
  · obtain ⟨m, hm1, hm9, rfl⟩ := inB_t (lo := 1) (hi := 9) (by decide) (by decide) c9
    have L : ∀ (f j : Nat), j ≤ min m (9 - n) → min m (9 - n) + 1 ≤ j + f → GW κ 0 0 (C v (dlS s n j) r x) 17 [(2, .int (nI (j))), (0, .ref (h0)), (1, .int (nI (m)))] [] := by
      intro f
      induction f with
      | zero => intro j h1 h2; exact absurd h2 (by omega)
      | succ f ih =>
        intro j h1 h2
        refine g_iload_n hX 0 rfl rfl dX7_deal_17 ?_
        refine g_iload_n hX 2 rfl rfl dX7_deal_18 ?_
        refine g_icmpN_ge hX (by omega) (by omega) 86 (by decide) dX7_deal_19 (fun c19 => ?_) (fun c19 => ?_)
        · refine g_iload_n hX 0 rfl rfl dX7_deal_86 ?_
          have hj : j = min m (9 - n) := by omega
          have E : dealP s n (nI m) = (nI j, dlS s n j) := by rw [dealP, if_pos c9, nI_clamp (by omega), ← hj]
          exact g_retiP hR ⟨by rw [E], x, by rw [E]⟩ dX7_deal_87
        · refine g_aload_n hX 1 rfl rfl dX7_deal_22 ?_
          refine m_getA hX hC 0 (by decide) rfl tFld_X7_7 dX7_deal_23 ?_
          refine g_iconst hX (v := nI 0) rfl dX7_deal_26 ?_
          refine m0_aldN hX hC (by omega) dX7_deal_27 ?_
          refine g_top (y := .int (nI (n + j))) (congrArg Value.int (dlS_0 hn j)) ?_
          refine g_bipush hX (v := nI 9) (by decide) dX7_deal_28 ?_
          refine g_icmpN_ge hX (by omega) (by omega) 86 (by decide) dX7_deal_30 (fun c30 => ?_) (fun c30 => ?_)
          · refine g_iload_n hX 0 rfl rfl dX7_deal_86 ?_
            have hj : j = min m (9 - n) := by omega
            have E : dealP s n (nI m) = (nI j, dlS s n j) := by rw [dealP, if_pos c9, nI_clamp (by omega), ← hj]
            exact g_retiP hR ⟨by rw [E], x, by rw [E]⟩ dX7_deal_87
          · have hnj : drw (drw (drw (drw (dlS s n j)))) 0 = nI (n + j) := by rw [drw, pk_un (by decide), drw, pk_un (by decide), drw, pk_un (by decide), drw, pk_un (by decide)]; exact dlS_0 hn j
            refine g_aload_n hX 1 rfl rfl dX7_deal_33 ?_
            refine m_callD hX hzo hC [] [] (c_drawnD _ _ _ _ hzo hC v (dlS s n j) r x) kX7_drawn tMet_X7_164 rfl rfl (Nat.le_of_ble_eq_true rfl) (Nat.le_of_ble_eq_true rfl) ⟨Nat.le_of_ble_eq_true rfl, Nat.le_of_ble_eq_true rfl⟩ rfl rfl (Nat.le_of_ble_eq_true rfl) dX7_deal_34 ?_
            refine g_bipush hX (v := nI 6) (by decide) dX7_deal_37 ?_
            refine g_irem hX (by decide) dX7_deal_39 ?_
            refine g_istore_n (lv2 := [(3, .int (((lotN ((dlS s n j) 5)) - (lotN ((dlS s n j) 5)) / nI (6) * nI (6)))), (2, .int (nI (j))), (0, .ref (h0)), (1, .int (nI (m)))]) hX 3 6 hN rfl (by decide) rfl dX7_deal_40 ?_
            refine g_iconst hX (v := nI 1) rfl dX7_deal_41 ?_
            refine g_aload_n hX 2 rfl rfl dX7_deal_42 ?_
            refine m_callD hX hzo hC [] [.int (nI (1))] (c_drawnD _ _ _ _ hzo hC v (drw (dlS s n j)) r x) kX7_drawn tMet_X7_164 rfl rfl (Nat.le_of_ble_eq_true rfl) (Nat.le_of_ble_eq_true rfl) ⟨Nat.le_of_ble_eq_true rfl, Nat.le_of_ble_eq_true rfl⟩ rfl rfl (Nat.le_of_ble_eq_true rfl) dX7_deal_43 ?_
            refine g_bipush hX (v := nI 60) (by decide) dX7_deal_46 ?_
            refine g_irem hX (by decide) dX7_deal_48 ?_
            refine g_iadd hX dX7_deal_49 ?_
            refine g_istore (lv2 := [(4, .int ((nI (1) + ((lotN ((drw (dlS s n j)) 5)) - (lotN ((drw (dlS s n j)) 5)) / nI (60) * nI (60))))), (3, .int (((lotN ((dlS s n j) 5)) - (lotN ((dlS s n j) 5)) / nI (6) * nI (6)))), (2, .int (nI (j))), (0, .ref (h0)), (1, .int (nI (m)))]) hX 4 6 hN (by decide) rfl dX7_deal_50 ?_
            refine g_aload_n hX 3 rfl rfl dX7_deal_52 ?_
            refine m_callD hX hzo hC [] [] (c_drawnD _ _ _ _ hzo hC v (drw (drw (dlS s n j))) r x) kX7_drawn tMet_X7_164 rfl rfl (Nat.le_of_ble_eq_true rfl) (Nat.le_of_ble_eq_true rfl) ⟨Nat.le_of_ble_eq_true rfl, Nat.le_of_ble_eq_true rfl⟩ rfl rfl (Nat.le_of_ble_eq_true rfl) dX7_deal_53 ?_
            refine g_bipush hX (v := nI 41) (by decide) dX7_deal_56 ?_
            refine g_irem hX (by decide) dX7_deal_58 ?_
            refine g_bipush hX (v := nI 20) (by decide) dX7_deal_59 ?_
            refine g_isub hX dX7_deal_61 ?_
            refine g_istore (lv2 := [(5, .int ((((lotN ((drw (drw (dlS s n j))) 5)) - (lotN ((drw (drw (dlS s n j))) 5)) / nI (41) * nI (41)) - nI (20)))), (4, .int ((nI (1) + ((lotN ((drw (dlS s n j)) 5)) - (lotN ((drw (dlS s n j)) 5)) / nI (60) * nI (60))))), (3, .int (((lotN ((dlS s n j) 5)) - (lotN ((dlS s n j) 5)) / nI (6) * nI (6)))), (2, .int (nI (j))), (0, .ref (h0)), (1, .int (nI (m)))]) hX 5 6 hN (by decide) rfl dX7_deal_62 ?_
            refine g_aload_n hX 4 rfl rfl dX7_deal_64 ?_
            refine g_iload_n hX 2 rfl rfl dX7_deal_65 ?_
            refine g_iload hX 1 rfl dX7_deal_66 ?_
            refine g_iload hX 0 rfl dX7_deal_68 ?_
            refine g_aload_n hX 4 rfl rfl dX7_deal_70 ?_
            refine m_callD hX hzo hC [] [.int ((((lotN ((drw (drw (dlS s n j))) 5)) - (lotN ((drw (drw (dlS s n j))) 5)) / nI (41) * nI (41)) - nI (20))), .int ((nI (1) + ((lotN ((drw (dlS s n j)) 5)) - (lotN ((drw (dlS s n j)) 5)) / nI (60) * nI (60)))), .int (((lotN ((dlS s n j) 5)) - (lotN ((dlS s n j) 5)) / nI (6) * nI (6))), .ref (h0)] (c_drawnD _ _ _ _ hzo hC v (drw (drw (drw (dlS s n j)))) r x) kX7_drawn tMet_X7_164 rfl rfl (Nat.le_of_ble_eq_true rfl) (Nat.le_of_ble_eq_true rfl) ⟨Nat.le_of_ble_eq_true rfl, Nat.le_of_ble_eq_true rfl⟩ rfl rfl (Nat.le_of_ble_eq_true rfl) dX7_deal_71 ?_
            refine g_bipush hX (v := nI 60) (by decide) dX7_deal_74 ?_
            refine g_irem hX (by decide) dX7_deal_76 ?_
            refine m_callD hX hzo hC [.int (((lotN ((dlS s n j) 5)) - (lotN ((dlS s n j) 5)) / nI (6) * nI (6))), .int ((nI (1) + ((lotN ((drw (dlS s n j)) 5)) - (lotN ((drw (dlS s n j)) 5)) / nI (60) * nI (60)))), .int ((((lotN ((drw (drw (dlS s n j))) 5)) - (lotN ((drw (drw (dlS s n j))) 5)) / nI (41) * nI (41)) - nI (20))), .int (((lotN ((drw (drw (drw (dlS s n j)))) 5)) - (lotN ((drw (drw (drw (dlS s n j)))) 5)) / nI (60) * nI (60)))] [] (c_comes _ _ _ _ hzo hC v (drw (drw (drw (drw (dlS s n j))))) r x (n + j) hnj (by omega) (((lotN ((dlS s n j) 5)) - (lotN ((dlS s n j) 5)) / nI (6) * nI (6))) ((nI (1) + ((lotN ((drw (dlS s n j)) 5)) - (lotN ((drw (dlS s n j)) 5)) / nI (60) * nI (60)))) ((((lotN ((drw (drw (dlS s n j))) 5)) - (lotN ((drw (drw (dlS s n j))) 5)) / nI (41) * nI (41)) - nI (20))) (((lotN ((drw (drw (drw (dlS s n j)))) 5)) - (lotN ((drw (drw (drw (dlS s n j)))) 5)) / nI (60) * nI (60)))) kX7_comes tMet_X7_102 rfl rfl (Nat.le_of_ble_eq_true rfl) (Nat.le_of_ble_eq_true rfl) ⟨Nat.le_of_ble_eq_true rfl, Nat.le_of_ble_eq_true rfl⟩ rfl rfl (Nat.le_of_ble_eq_true rfl) dX7_deal_77 ?_
            refine g_iincN (n := 1) (lv2 := [(2, .int (nI (j + 1))), (5, .int ((((lotN ((drw (drw (dlS s n j))) 5)) - (lotN ((drw (drw (dlS s n j))) 5)) / nI (41) * nI (41)) - nI (20)))), (4, .int ((nI (1) + ((lotN ((drw (dlS s n j)) 5)) - (lotN ((drw (dlS s n j)) 5)) / nI (60) * nI (60))))), (3, .int (((lotN ((dlS s n j) 5)) - (lotN ((dlS s n j) 5)) / nI (6) * nI (6)))), (0, .ref (h0)), (1, .int (nI (m)))]) hX 3 2 6 hN rfl (by decide) rfl dX7_deal_80 ?_
            refine g_goto hX 17 (by decide) dX7_deal_83 ?_
            refine g_lv [0, 4, 5] rfl ?_
            exact ih (j + 1) (by omega) (by omega)
    refine g_iconst hX (v := nI 0) rfl dX7_deal_15 ?_
    refine g_istore_n (lv2 := [(2, .int (nI (0))), (0, .ref (h0)), (1, .int (nI (m)))]) hX 2 6 hN rfl (by decide) rfl dX7_deal_16 ?_
    exact L 10 0 (by omega) (by omega)
  · refine g_ldc hX (v := -1000000001) (zu tCon_X7_100 rfl) dX7_deal_12 ?_
    have E : dealP s n z = ((-1000000001), s) := by rw [dealP, if_neg (bne c9)]
    exact g_retiP hR ⟨by rw [E], x, by rw [E]⟩ dX7_deal_14
def daysP (s : Nat → Int32) (nt n d : Nat) (z : Int32) : Int32 × (Nat → Int32) := if inB z 1 100 then (nI (cntS s n) - nI (cntS (itS s nt n (min z.toNatClampNeg (9999 - d))) n), itS s nt n (min z.toNatClampNeg (9999 - d))) else (-1000000001, s)
theorem kX7_days : mKV RX7 yX7_days cX7_days 4 (some .int) 1 := ⟨tIns_X7_days, tSel_X7_days, tIni_X7, tCod_X7_days, by decide +kernel⟩
set_option maxHeartbeats 4000000 in
set_option maxRecDepth 100000 in
theorem c_days (l : Launch) (D : va_G) (cy : Nat → ClassId) (Z : (Nat → Prop) → State → Heap → Prop) (hzo : zOK Z) {h0 : Nat} {a q : Nat → Nat} {C : (Nat → Int32) → (Nat → Int32) → (Nat → Nat → Int32) → (Nat → Nat → Int32) → va_W} (hC : mLens (cy 0) h0 a q C) (v s : Nat → Int32) (r x : Nat → Nat → Int32) (nt n : Nat) (hk : stOK s nt n) (d : Nat) (hd : s 2 = nI d) (hd9 : d ≤ 9999) (z : Int32) : GM l D cy Z yX7_days (zW yX7_days cX7_days 4 (some .int)) { frames := 5, cells := 0, slots := 0, locals := 120 } [.ref (h0), .int (z)] (C v s r x) (fun res w2 => res = some (.int (daysP s nt n d z).1) ∧ ∃ x2, w2 = C v (daysP s nt n d z).2 r x2) 0 0 := by
  refine g_entry (cc := cX7_days) (maxL := 4) (by decide) rfl (Nat.le_of_ble_eq_true rfl) ?_
  intro κ hN hX hR
  have hX : GX κ cy Z cX7_days (Cond.code yX7_days cX7_days 4 (some .int) :: zT) RX7 { frames := 5, cells := 0, slots := 0, locals := 120 } := hX
  show GW κ 0 0 _ 0 [(0, .ref (h0)), (1, .int (z))] []
  have hn9 := hk.2.2.2.2
  refine g_iload_n hX 1 rfl rfl dX7_days_0 ?_
  refine g_i2l hX dX7_days_1 ?_
  refine g_lconst hX (v := Int32.toInt64 (1)) (by decide) dX7_days_2 ?_
  refine g_ldc2 hX (v := Int32.toInt64 (100)) (zu tCoL_X7_170 rfl) dX7_days_3 ?_
  refine s_call hX hzo [.long (Int32.toInt64 (z)), .long (Int32.toInt64 ((1))), .long (Int32.toInt64 ((100)))] [] (c_isIn _ _ _ _ _ (z) ((1)) ((100))) kX7_isIn tMet_X7_71 rfl rfl (Nat.le_of_ble_eq_true rfl) (Nat.le_of_ble_eq_true rfl) ⟨Nat.le_of_ble_eq_true rfl, Nat.le_of_ble_eq_true rfl⟩ rfl rfl (Nat.le_of_ble_eq_true rfl) dX7_days_6 ?_
  refine g_ifb_ne hX 15 (by decide) dX7_days_9 (fun c9 => ?_) (fun c9 => ?_)
  · obtain ⟨m, hm1, hm9, rfl⟩ := inB_t (lo := 1) (hi := 100) (by decide) (by decide) c9
    have L : ∀ (f j : Nat) (x9 : Nat → Nat → Int32), j ≤ min m (9999 - d) → min m (9999 - d) + 1 ≤ j + f → GW κ 0 0 (C v (itS s nt n j) r x9) 25 [(3, .int (nI (j))), (2, .int (nI (pcN (maskN (sd s) n)))), (0, .ref (h0)), (1, .int (nI (m)))] [] := by
      intro f
      induction f with
      | zero => intro j x9 h1 h2; exact absurd h2 (by omega)
      | succ f ih =>
        intro j x9 h1 h2
        refine g_iload_n hX 0 rfl rfl dX7_days_25 ?_
        refine g_iload_n hX 3 rfl rfl dX7_days_26 ?_
        refine g_icmpN_ge hX (by omega) (by omega) 52 (by decide) dX7_days_27 (fun c27 => ?_) (fun c27 => ?_)
        · refine g_iload_n hX 1 rfl rfl dX7_days_52 ?_
          refine g_aload_n hX 2 rfl rfl dX7_days_53 ?_
          refine m_callD hX hzo hC [] [.int (nI (pcN (maskN (sd s) n)))] (c_allStanding _ _ _ _ hzo hC v (itS s nt n j) r x9 n (stOK_it hk j).2.2.2.1 hn9) kX7_allStanding tMet_X7_123 rfl rfl (Nat.le_of_ble_eq_true rfl) (Nat.le_of_ble_eq_true rfl) ⟨Nat.le_of_ble_eq_true rfl, Nat.le_of_ble_eq_true rfl⟩ rfl rfl (Nat.le_of_ble_eq_true rfl) dX7_days_54 ?_
          refine g_top (y := .int (nI (maskN (sd (itS s nt n j)) n))) (congrArg Value.int (mask_nI _ n (by omega))) ?_
          refine s_call hX hzo [.int (nI (maskN (sd (itS s nt n j)) n))] [.int (nI (pcN (maskN (sd s) n)))] (c_manyIn _ _ _ _ _ (maskN (sd (itS s nt n j)) n) (maskN_512 _ hn9)) kX7_manyIn tMet_X7_157 rfl rfl (Nat.le_of_ble_eq_true rfl) (Nat.le_of_ble_eq_true rfl) ⟨Nat.le_of_ble_eq_true rfl, Nat.le_of_ble_eq_true rfl⟩ rfl rfl (Nat.le_of_ble_eq_true rfl) dX7_days_57 ?_
          refine g_isub hX dX7_days_60 ?_
          have hj : j = min m (9999 - d) := by omega
          have E : daysP s nt n d (nI m) = (nI (cntS s n) - nI (cntS (itS s nt n j) n), itS s nt n j) := by rw [daysP, if_pos c9, nI_clamp (by omega), ← hj]
          exact g_retiP hR ⟨by rw [E]; rfl, x9, by rw [E]⟩ dX7_days_61
        · refine g_aload_n hX 2 rfl rfl dX7_days_30 ?_
          refine m_getA hX hC 0 (by decide) rfl tFld_X7_7 dX7_days_31 ?_
          refine g_iconst hX (v := nI 2) rfl dX7_days_34 ?_
          refine m0_aldN hX hC (by omega) dX7_days_35 ?_
          refine g_top (y := .int (nI (d + j))) (congrArg Value.int (itS_2 hn9 hd j)) ?_
          refine g_sipush hX (v := nI 9999) (by decide) dX7_days_36 ?_
          refine g_icmpN_ge hX (by omega) (by omega) 52 (by decide) dX7_days_39 (fun c39 => ?_) (fun c39 => ?_)
          · refine g_iload_n hX 1 rfl rfl dX7_days_52 ?_
            refine g_aload_n hX 2 rfl rfl dX7_days_53 ?_
            refine m_callD hX hzo hC [] [.int (nI (pcN (maskN (sd s) n)))] (c_allStanding _ _ _ _ hzo hC v (itS s nt n j) r x9 n (stOK_it hk j).2.2.2.1 hn9) kX7_allStanding tMet_X7_123 rfl rfl (Nat.le_of_ble_eq_true rfl) (Nat.le_of_ble_eq_true rfl) ⟨Nat.le_of_ble_eq_true rfl, Nat.le_of_ble_eq_true rfl⟩ rfl rfl (Nat.le_of_ble_eq_true rfl) dX7_days_54 ?_
            refine g_top (y := .int (nI (maskN (sd (itS s nt n j)) n))) (congrArg Value.int (mask_nI _ n (by omega))) ?_
            refine s_call hX hzo [.int (nI (maskN (sd (itS s nt n j)) n))] [.int (nI (pcN (maskN (sd s) n)))] (c_manyIn _ _ _ _ _ (maskN (sd (itS s nt n j)) n) (maskN_512 _ hn9)) kX7_manyIn tMet_X7_157 rfl rfl (Nat.le_of_ble_eq_true rfl) (Nat.le_of_ble_eq_true rfl) ⟨Nat.le_of_ble_eq_true rfl, Nat.le_of_ble_eq_true rfl⟩ rfl rfl (Nat.le_of_ble_eq_true rfl) dX7_days_57 ?_
            refine g_isub hX dX7_days_60 ?_
            have hj : j = min m (9999 - d) := by omega
            have E : daysP s nt n d (nI m) = (nI (cntS s n) - nI (cntS (itS s nt n j) n), itS s nt n j) := by rw [daysP, if_pos c9, nI_clamp (by omega), ← hj]
            exact g_retiP hR ⟨by rw [E]; rfl, x9, by rw [E]⟩ dX7_days_61
          · refine g_aload_n hX 2 rfl rfl dX7_days_42 ?_
            refine m_call hX hzo hC [] [] (c_goesOnK _ _ _ _ hzo hC v (itS s nt n j) r x9 nt n (stOK_it hk j)) kX7_goesOn tMet_X7_172 rfl rfl (Nat.le_of_ble_eq_true rfl) (Nat.le_of_ble_eq_true rfl) ⟨Nat.le_of_ble_eq_true rfl, Nat.le_of_ble_eq_true rfl⟩ rfl (Nat.le_of_ble_eq_true rfl) dX7_days_43 ?_
            rintro _ _ ⟨rfl, x43, rfl⟩
            show GW κ 0 0 _ 46 [(3, .int (nI (j))), (2, .int (nI (pcN (maskN (sd s) n)))), (0, .ref (h0)), (1, .int (nI (m)))] []
            refine g_iincN (n := 1) (lv2 := [(3, .int (nI (j + 1))), (2, .int (nI (pcN (maskN (sd s) n)))), (0, .ref (h0)), (1, .int (nI (m)))]) hX 0 3 4 hN rfl (by decide) rfl dX7_days_46 ?_
            refine g_goto hX 25 (by decide) dX7_days_49 ?_
            exact ih (j + 1) x43 (by omega) (by omega)
    refine g_aload_n hX 0 rfl rfl dX7_days_15 ?_
    refine m_callD hX hzo hC [] [] (c_allStanding _ _ _ _ hzo hC v s r x n hk.2.2.2.1 hn9) kX7_allStanding tMet_X7_123 rfl rfl (Nat.le_of_ble_eq_true rfl) (Nat.le_of_ble_eq_true rfl) ⟨Nat.le_of_ble_eq_true rfl, Nat.le_of_ble_eq_true rfl⟩ rfl rfl (Nat.le_of_ble_eq_true rfl) dX7_days_16 ?_
    refine g_top (y := .int (nI (maskN (sd s) n))) (congrArg Value.int (mask_nI _ n (by omega))) ?_
    refine s_call hX hzo [.int (nI (maskN (sd s) n))] [] (c_manyIn _ _ _ _ _ (maskN (sd s) n) (maskN_512 _ hn9)) kX7_manyIn tMet_X7_157 rfl rfl (Nat.le_of_ble_eq_true rfl) (Nat.le_of_ble_eq_true rfl) ⟨Nat.le_of_ble_eq_true rfl, Nat.le_of_ble_eq_true rfl⟩ rfl rfl (Nat.le_of_ble_eq_true rfl) dX7_days_19 ?_
    refine g_istore_n (lv2 := [(2, .int (nI (pcN (maskN (sd s) n)))), (0, .ref (h0)), (1, .int (nI (m)))]) hX 2 4 hN rfl (by decide) rfl dX7_days_22 ?_
    refine g_iconst hX (v := nI 0) rfl dX7_days_23 ?_
    refine g_istore_n (lv2 := [(3, .int (nI (0))), (2, .int (nI (pcN (maskN (sd s) n)))), (0, .ref (h0)), (1, .int (nI (m)))]) hX 3 4 hN rfl (by decide) rfl dX7_days_24 ?_
    exact L 101 0 x (by omega) (by omega)
  · refine g_ldc hX (v := -1000000001) (zu tCon_X7_100 rfl) dX7_days_12 ?_
    have E : daysP s nt n d z = ((-1000000001), s) := by rw [daysP, if_neg (bne c9)]
    exact g_retiP hR ⟨by rw [E], x, by rw [E]⟩ dX7_days_14
def smS (s : Nat → Int32) (m : Nat) : Nat → Int32
  | 0 => nI 0
  | k + 1 => smS s m k + s (6 + 7 * k + m)
theorem kX7_allOf : mKV RX7 yX7_allOf cX7_allOf 4 (some .int) 1 := ⟨tIns_X7_allOf, tSel_X7_allOf, tIni_X7, tCod_X7_allOf, by decide +kernel⟩
set_option maxHeartbeats 4000000 in
set_option maxRecDepth 100000 in
theorem c_allOf (l : Launch) (D : va_G) (cy : Nat → ClassId) (Z : (Nat → Prop) → State → Heap → Prop) (hzo : zOK Z) {h0 : Nat} {a q : Nat → Nat} {C : (Nat → Int32) → (Nat → Int32) → (Nat → Nat → Int32) → (Nat → Nat → Int32) → va_W} (hC : mLens (cy 0) h0 a q C) (v s : Nat → Int32) (r x : Nat → Nat → Int32) (n : Nat) (hn : s 0 = nI n) (hn9 : n ≤ 9) (m : Nat) (hm : m < 7) : GD l D cy Z yX7_allOf (zW yX7_allOf cX7_allOf 4 (some .int)) { frames := 1, cells := 0, slots := 0, locals := 22 } [.ref (h0), .int (nI (m))] (C v s r x) (some (.int (smS s m n))) (C v s r x) 0 0 := by
  refine g_entry (cc := cX7_allOf) (maxL := 4) (by decide) rfl (Nat.le_of_ble_eq_true rfl) ?_
  intro κ hN hX hR
  have hX : GX κ cy Z cX7_allOf (Cond.code yX7_allOf cX7_allOf 4 (some .int) :: zT) RX7 { frames := 1, cells := 0, slots := 0, locals := 22 } := hX
  show GW κ 0 0 _ 0 [(0, .ref (h0)), (1, .int (nI (m)))] []
  have L : ∀ (f i : Nat), i ≤ n → n + 1 ≤ i + f → GW κ 0 0 (C v s r x) 4 [(3, .int (nI (i))), (2, .int (smS s m i)), (0, .ref (h0)), (1, .int (nI (m)))] [] := by
    intro f
    induction f with
    | zero => intro i h1 h2; exact absurd h2 (by omega)
    | succ f ih =>
      intro i h1 h2
      refine g_iload_n hX 0 rfl rfl dX7_allOf_4 ?_
      refine g_aload_n hX 2 rfl rfl dX7_allOf_5 ?_
      refine m_getA hX hC 0 (by decide) rfl tFld_X7_7 dX7_allOf_6 ?_
      refine g_iconst hX (v := nI 0) rfl dX7_allOf_9 ?_
      refine m0_aldN hX hC (by omega) dX7_allOf_10 ?_
      refine g_top (y := .int (nI (n))) (congrArg Value.int hn) ?_
      refine g_icmpN_ge hX (by omega) (by omega) 29 (by decide) dX7_allOf_11 (fun c11 => ?_) (fun c11 => ?_)
      · refine g_iload_n hX 1 rfl rfl dX7_allOf_29 ?_
        exact g_reti hR (by rw [show i = n from by omega]) rfl dX7_allOf_30
      · refine g_iload_n hX 1 rfl rfl dX7_allOf_14 ?_
        refine g_aload_n hX 2 rfl rfl dX7_allOf_15 ?_
        refine g_iload_n hX 0 rfl rfl dX7_allOf_16 ?_
        refine g_iload_n hX 3 rfl rfl dX7_allOf_17 ?_
        refine m_callD hX hzo hC [.int (nI (i)), .int (nI (m))] [.int (smS s m i)] (c_of _ _ _ _ hzo hC v s r x (i) (m) (by omega)) kX7_of tMet_X7_75 rfl rfl (Nat.le_of_ble_eq_true rfl) (Nat.le_of_ble_eq_true rfl) ⟨Nat.le_of_ble_eq_true rfl, Nat.le_of_ble_eq_true rfl⟩ rfl rfl (Nat.le_of_ble_eq_true rfl) dX7_allOf_18 ?_
        refine g_iadd hX dX7_allOf_21 ?_
        refine g_istore_n (lv2 := [(2, .int ((smS s m i + s (6 + 7 * (i) + (m))))), (3, .int (nI (i))), (0, .ref (h0)), (1, .int (nI (m)))]) hX 2 4 hN rfl (by decide) rfl dX7_allOf_22 ?_
        refine g_iincN (n := 1) (lv2 := [(3, .int (nI (i + 1))), (2, .int ((smS s m i + s (6 + 7 * (i) + (m))))), (0, .ref (h0)), (1, .int (nI (m)))]) hX 1 3 4 hN rfl (by decide) rfl dX7_allOf_23 ?_
        refine g_goto hX 4 (by decide) dX7_allOf_26 ?_
        exact ih (i + 1) (by omega) (by omega)
  refine g_iconst hX (v := nI 0) rfl dX7_allOf_0 ?_
  refine g_istore_n (lv2 := [(2, .int (nI (0))), (0, .ref (h0)), (1, .int (nI (m)))]) hX 2 4 hN rfl (by decide) rfl dX7_allOf_1 ?_
  refine g_iconst hX (v := nI 0) rfl dX7_allOf_2 ?_
  refine g_istore_n (lv2 := [(3, .int (nI (0))), (2, .int (nI (0))), (0, .ref (h0)), (1, .int (nI (m)))]) hX 3 4 hN rfl (by decide) rfl dX7_allOf_3 ?_
  exact L (n + 1) 0 (by omega) (by omega)
def loB (s : Nat → Int32) (nt n k : Nat) : Bool := sd s k && !decide (offI (thS s nt n k) (nI 0) ≤ brs s k)
theorem kX7_looseOnes : mKV RX7 yX7_looseOnes cX7_looseOnes 3 (some .int) 0 := ⟨tIns_X7_looseOnes, tSel_X7_looseOnes, tIni_X7, tCod_X7_looseOnes, by decide +kernel⟩
set_option maxHeartbeats 4000000 in
set_option maxRecDepth 100000 in
theorem c_looseOnes (l : Launch) (D : va_G) (cy : Nat → ClassId) (Z : (Nat → Prop) → State → Heap → Prop) (hzo : zOK Z) {h0 : Nat} {a q : Nat → Nat} {C : (Nat → Int32) → (Nat → Int32) → (Nat → Nat → Int32) → (Nat → Nat → Int32) → va_W} (hC : mLens (cy 0) h0 a q C) (v s : Nat → Int32) (r x : Nat → Nat → Int32) (nt n : Nat) (hk : stOK s nt n) : GM l D cy Z yX7_looseOnes (zW yX7_looseOnes cX7_looseOnes 3 (some .int)) { frames := 4, cells := 0, slots := 0, locals := 96 } [.ref (h0)] (C v s r x) (fun res w2 => res = some (.int (maskI (loB s nt n) n)) ∧ ∃ x2, w2 = C v s r x2) 0 0 := by
  refine g_entry (cc := cX7_looseOnes) (maxL := 3) (by decide) rfl (Nat.le_of_ble_eq_true rfl) ?_
  intro κ hN hX hR
  have hX : GX κ cy Z cX7_looseOnes (Cond.code yX7_looseOnes cX7_looseOnes 3 (some .int) :: zT) RX7 { frames := 4, cells := 0, slots := 0, locals := 96 } := hX
  show GW κ 0 0 _ 0 [(0, .ref (h0))] []
  have hn9 := hk.2.2.2.2
  have L : ∀ (f i : Nat) (x9 : Nat → Nat → Int32), i ≤ n → n + 1 ≤ i + f → GW κ 0 0 (C v s r x9) 4 [(2, .int (nI (i))), (1, .int (maskI (loB s nt n) i)), (0, .ref (h0))] [] := by
    intro f
    induction f with
    | zero => intro i x9 h1 h2; exact absurd h2 (by omega)
    | succ f ih =>
      intro i x9 h1 h2
      refine g_iload_n hX 0 rfl rfl dX7_looseOnes_4 ?_
      refine g_aload_n hX 2 rfl rfl dX7_looseOnes_5 ?_
      refine m_getA hX hC 0 (by decide) rfl tFld_X7_7 dX7_looseOnes_6 ?_
      refine g_iconst hX (v := nI 0) rfl dX7_looseOnes_9 ?_
      refine m0_aldN hX hC (by omega) dX7_looseOnes_10 ?_
      refine g_top (y := .int (nI (n))) (congrArg Value.int hk.2.2.2.1) ?_
      refine g_icmpN_ge hX (by omega) (by omega) 55 (by decide) dX7_looseOnes_11 (fun c11 => ?_) (fun c11 => ?_)
      · refine g_iload_n hX 1 rfl rfl dX7_looseOnes_55 ?_
        exact g_retiP hR ⟨by rw [show i = n from by omega], x9, rfl⟩ dX7_looseOnes_56
      · refine g_iload_n hX 1 rfl rfl dX7_looseOnes_14 ?_
        refine g_aload_n hX 2 rfl rfl dX7_looseOnes_15 ?_
        refine g_iload_n hX 0 rfl rfl dX7_looseOnes_16 ?_
        refine m_callD hX hzo hC [.int (nI (i))] [.int (maskI (loB s nt n) i)] (c_stands _ _ _ _ hzo hC v s r x9 (i) (by omega)) kX7_stands tMet_X7_119 rfl rfl (Nat.le_of_ble_eq_true rfl) (Nat.le_of_ble_eq_true rfl) ⟨Nat.le_of_ble_eq_true rfl, Nat.le_of_ble_eq_true rfl⟩ rfl rfl (Nat.le_of_ble_eq_true rfl) dX7_looseOnes_17 ?_
        refine g_ifb_eq hX 46 (by decide) dX7_looseOnes_20 (fun c20 => ?_) (fun c20 => ?_)
        · refine g_iconst hX (v := nI 0) rfl dX7_looseOnes_46 ?_
          refine g_ior hX dX7_looseOnes_47 ?_
          refine g_istore_n (lv2 := [(1, .int ((maskI (loB s nt n) i ||| nI (0)))), (2, .int (nI (i))), (0, .ref (h0))]) hX 1 3 hN rfl (by decide) rfl dX7_looseOnes_48 ?_
          refine g_iincN (n := 1) (lv2 := [(2, .int (nI (i + 1))), (1, .int ((maskI (loB s nt n) i ||| nI (0)))), (0, .ref (h0))]) hX 1 2 3 hN rfl (by decide) rfl dX7_looseOnes_49 ?_
          refine g_goto hX 4 (by decide) dX7_looseOnes_52 ?_
          have e : maskI (loB s nt n) (i + 1) = (maskI (loB s nt n) i ||| nI (0)) := by rw [maskI, if_neg (by rw [loB, c20, Bool.false_and]; decide)]
          have K := ih (i + 1) x9 (by omega) (by omega)
          rw [e] at K
          exact K
        · refine g_aload_n hX 2 rfl rfl dX7_looseOnes_23 ?_
          refine g_iload_n hX 0 rfl rfl dX7_looseOnes_24 ?_
          refine m_call hX hzo hC [.int (nI (i))] [.int (maskI (loB s nt n) i)] (c_thrust _ _ _ _ hzo hC v s r x9 nt hk.1 hk.2.1 hk.2.2.1 n hk.2.2.2.1 hk.2.2.2.2 (i) (by omega)) kX7_thrust tMet_X7_139 rfl rfl (Nat.le_of_ble_eq_true rfl) (Nat.le_of_ble_eq_true rfl) ⟨Nat.le_of_ble_eq_true rfl, Nat.le_of_ble_eq_true rfl⟩ rfl (Nat.le_of_ble_eq_true rfl) dX7_looseOnes_25 ?_
          rintro _ _ ⟨rfl, x25, k25, rfl⟩
          show GW κ 0 0 _ 28 [(2, .int (nI (i))), (1, .int (maskI (loB s nt n) i)), (0, .ref (h0))] [.int ((thS s nt n (i))), .int (maskI (loB s nt n) i)]
          refine g_iconst hX (v := nI 0) rfl dX7_looseOnes_28 ?_
          refine s_call hX hzo [.int ((thS s nt n (i))), .int (nI (0))] [.int (maskI (loB s nt n) i)] (c_off _ _ _ _ _ ((thS s nt n (i))) (nI (0))) kX7_off tMet_X7_106 rfl rfl (Nat.le_of_ble_eq_true rfl) (Nat.le_of_ble_eq_true rfl) ⟨Nat.le_of_ble_eq_true rfl, Nat.le_of_ble_eq_true rfl⟩ rfl rfl (Nat.le_of_ble_eq_true rfl) dX7_looseOnes_29 ?_
          refine g_aload_n hX 2 rfl rfl dX7_looseOnes_32 ?_
          refine g_iload_n hX 0 rfl rfl dX7_looseOnes_33 ?_
          refine m_callD hX hzo hC [.int (nI (i))] [.int ((offI ((thS s nt n (i))) (nI (0)))), .int (maskI (loB s nt n) i)] (c_bears _ _ _ _ hzo hC v s r x25 (i) (by omega)) kX7_bears tMet_X7_136 rfl rfl (Nat.le_of_ble_eq_true rfl) (Nat.le_of_ble_eq_true rfl) ⟨Nat.le_of_ble_eq_true rfl, Nat.le_of_ble_eq_true rfl⟩ rfl rfl (Nat.le_of_ble_eq_true rfl) dX7_looseOnes_34 ?_
          refine g_icmp_le hX 46 (by decide) dX7_looseOnes_37 (fun c37 => ?_) (fun c37 => ?_)
          · refine g_iconst hX (v := nI 0) rfl dX7_looseOnes_46 ?_
            refine g_ior hX dX7_looseOnes_47 ?_
            refine g_istore_n (lv2 := [(1, .int ((maskI (loB s nt n) i ||| nI (0)))), (2, .int (nI (i))), (0, .ref (h0))]) hX 1 3 hN rfl (by decide) rfl dX7_looseOnes_48 ?_
            refine g_iincN (n := 1) (lv2 := [(2, .int (nI (i + 1))), (1, .int ((maskI (loB s nt n) i ||| nI (0)))), (0, .ref (h0))]) hX 1 2 3 hN rfl (by decide) rfl dX7_looseOnes_49 ?_
            refine g_goto hX 4 (by decide) dX7_looseOnes_52 ?_
            have e : maskI (loB s nt n) (i + 1) = (maskI (loB s nt n) i ||| nI (0)) := by rw [maskI, if_neg (by rw [loB, c20, decide_eq_true c37]; decide)]
            have K := ih (i + 1) x25 (by omega) (by omega)
            rw [e] at K
            exact K
          · refine g_iconst hX (v := nI 1) rfl dX7_looseOnes_40 ?_
            refine g_iload_n hX 0 rfl rfl dX7_looseOnes_41 ?_
            refine g_ishl hX dX7_looseOnes_42 ?_
            refine g_goto hX 47 (by decide) dX7_looseOnes_43 ?_
            refine g_ior hX dX7_looseOnes_47 ?_
            refine g_istore_n (lv2 := [(1, .int ((maskI (loB s nt n) i ||| (nI (1) <<< (nI (i) &&& 31))))), (2, .int (nI (i))), (0, .ref (h0))]) hX 1 3 hN rfl (by decide) rfl dX7_looseOnes_48 ?_
            refine g_iincN (n := 1) (lv2 := [(2, .int (nI (i + 1))), (1, .int ((maskI (loB s nt n) i ||| (nI (1) <<< (nI (i) &&& 31))))), (0, .ref (h0))]) hX 1 2 3 hN rfl (by decide) rfl dX7_looseOnes_49 ?_
            refine g_goto hX 4 (by decide) dX7_looseOnes_52 ?_
            have e : maskI (loB s nt n) (i + 1) = (maskI (loB s nt n) i ||| (nI (1) <<< (nI (i) &&& 31))) := by rw [maskI, if_pos (by rw [loB, c20, decide_eq_false c37]; rfl)]
            have K := ih (i + 1) x25 (by omega) (by omega)
            rw [e] at K
            exact K
  refine g_iconst hX (v := nI 0) rfl dX7_looseOnes_0 ?_
  refine g_istore_n (lv2 := [(1, .int (nI (0))), (0, .ref (h0))]) hX 1 3 hN rfl (by decide) rfl dX7_looseOnes_1 ?_
  refine g_iconst hX (v := nI 0) rfl dX7_looseOnes_2 ?_
  refine g_istore_n (lv2 := [(2, .int (nI (0))), (1, .int (nI (0))), (0, .ref (h0))]) hX 2 3 hN rfl (by decide) rfl dX7_looseOnes_3 ?_
  exact L (n + 1) 0 x (by omega) (by omega)
def streetP (s : Nat → Int32) (nt n : Nat) (y : Int32) : Int32 := if y = nI 0 then s 3 else if y = nI 1 then maskI (sd s) n else if y = nI 2 then smS s 4 n else if y = nI 3 then smS s 5 n else if y = nI 4 then maskI (loB s nt n) n else -1000000001
theorem kX7_street : mKV RX7 yX7_street cX7_street 2 (some .int) 1 := ⟨tIns_X7_street, tSel_X7_street, tIni_X7, tCod_X7_street, by decide +kernel⟩
set_option maxHeartbeats 4000000 in
set_option maxRecDepth 100000 in
theorem c_street (l : Launch) (D : va_G) (cy : Nat → ClassId) (Z : (Nat → Prop) → State → Heap → Prop) (hzo : zOK Z) {h0 : Nat} {a q : Nat → Nat} {C : (Nat → Int32) → (Nat → Int32) → (Nat → Nat → Int32) → (Nat → Nat → Int32) → va_W} (hC : mLens (cy 0) h0 a q C) (v s : Nat → Int32) (r x : Nat → Nat → Int32) (nt n : Nat) (hk : stOK s nt n) (y : Int32) : GM l D cy Z yX7_street (zW yX7_street cX7_street 2 (some .int)) { frames := 5, cells := 0, slots := 0, locals := 118 } [.ref (h0), .int (y)] (C v s r x) (fun res w2 => res = some (.int (streetP s nt n y)) ∧ ∃ x2, w2 = C v s r x2) 0 0 := by
  refine g_entry (cc := cX7_street) (maxL := 2) (by decide) rfl (Nat.le_of_ble_eq_true rfl) ?_
  intro κ hN hX hR
  have hX : GX κ cy Z cX7_street (Cond.code yX7_street cX7_street 2 (some .int) :: zT) RX7 { frames := 5, cells := 0, slots := 0, locals := 118 } := hX
  show GW κ 0 0 _ 0 [(0, .ref (h0)), (1, .int (y))] []
  have hn9 := hk.2.2.2.2
  refine g_iload_n hX 1 rfl rfl dX7_street_0 ?_
  rcases sw_in (y) 0 4 (by decide) with w1 | ⟨j1, w1a, w1b, w1⟩
  · refine g_tableOut hX 65 w1 (by decide) dX7_street_1 ?_
    refine g_ldc hX (v := -1000000001) (zu tCon_X7_100 rfl) dX7_street_65 ?_
    have E : streetP s nt n y = (-1000000001) := by rw [streetP, if_neg (sw_out w1 0 (by decide) (by decide) (by decide)), if_neg (sw_out w1 1 (by decide) (by decide) (by decide)), if_neg (sw_out w1 2 (by decide) (by decide) (by decide)), if_neg (sw_out w1 3 (by decide) (by decide) (by decide)), if_neg (sw_out w1 4 (by decide) (by decide) (by decide))]
    exact g_retiP hR ⟨by rw [E], x, rfl⟩ dX7_street_67
  · have hj : j1 = 0 ∨ j1 = 1 ∨ j1 = 2 ∨ j1 = 3 ∨ j1 = 4 := by omega
    rcases hj with rfl | rfl | rfl | rfl | rfl
    · subst w1
      refine g_tableIn hX 36 (by decide) (by decide) rfl (by decide) dX7_street_1 ?_
      refine g_aload_n hX 0 rfl rfl dX7_street_36 ?_
      refine m_getA hX hC 0 (by decide) rfl tFld_X7_7 dX7_street_37 ?_
      refine g_iconst hX (v := nI 3) rfl dX7_street_40 ?_
      refine m0_aldN hX hC (by omega) dX7_street_41 ?_
      have E : streetP s nt n (nI 0) = s (3) := by rfl
      exact g_retiP hR ⟨by rw [E], x, rfl⟩ dX7_street_42
    · subst w1
      refine g_tableIn hX 43 (by decide) (by decide) rfl (by decide) dX7_street_1 ?_
      refine g_aload_n hX 0 rfl rfl dX7_street_43 ?_
      refine m_callD hX hzo hC [] [] (c_allStanding _ _ _ _ hzo hC v s r x n hk.2.2.2.1 hn9) kX7_allStanding tMet_X7_123 rfl rfl (Nat.le_of_ble_eq_true rfl) (Nat.le_of_ble_eq_true rfl) ⟨Nat.le_of_ble_eq_true rfl, Nat.le_of_ble_eq_true rfl⟩ rfl rfl (Nat.le_of_ble_eq_true rfl) dX7_street_44 ?_
      have E : streetP s nt n (nI 1) = (maskI (sd s) n) := by rfl
      exact g_retiP hR ⟨by rw [E], x, rfl⟩ dX7_street_47
    · subst w1
      refine g_tableIn hX 48 (by decide) (by decide) rfl (by decide) dX7_street_1 ?_
      refine g_aload_n hX 0 rfl rfl dX7_street_48 ?_
      refine g_iconst hX (v := nI 4) rfl dX7_street_49 ?_
      refine m_callD hX hzo hC [.int (nI (4))] [] (c_allOf _ _ _ _ hzo hC v s r x n hk.2.2.2.1 hn9 (4) (by omega)) kX7_allOf tMet_X7_175 rfl rfl (Nat.le_of_ble_eq_true rfl) (Nat.le_of_ble_eq_true rfl) ⟨Nat.le_of_ble_eq_true rfl, Nat.le_of_ble_eq_true rfl⟩ rfl rfl (Nat.le_of_ble_eq_true rfl) dX7_street_50 ?_
      have E : streetP s nt n (nI 2) = (smS s (4) n) := by rfl
      exact g_retiP hR ⟨by rw [E], x, rfl⟩ dX7_street_53
    · subst w1
      refine g_tableIn hX 54 (by decide) (by decide) rfl (by decide) dX7_street_1 ?_
      refine g_aload_n hX 0 rfl rfl dX7_street_54 ?_
      refine g_iconst hX (v := nI 5) rfl dX7_street_55 ?_
      refine m_callD hX hzo hC [.int (nI (5))] [] (c_allOf _ _ _ _ hzo hC v s r x n hk.2.2.2.1 hn9 (5) (by omega)) kX7_allOf tMet_X7_175 rfl rfl (Nat.le_of_ble_eq_true rfl) (Nat.le_of_ble_eq_true rfl) ⟨Nat.le_of_ble_eq_true rfl, Nat.le_of_ble_eq_true rfl⟩ rfl rfl (Nat.le_of_ble_eq_true rfl) dX7_street_56 ?_
      have E : streetP s nt n (nI 3) = (smS s (5) n) := by rfl
      exact g_retiP hR ⟨by rw [E], x, rfl⟩ dX7_street_59
    · subst w1
      refine g_tableIn hX 60 (by decide) (by decide) rfl (by decide) dX7_street_1 ?_
      refine g_aload_n hX 0 rfl rfl dX7_street_60 ?_
      refine m_call hX hzo hC [] [] (c_looseOnes _ _ _ _ hzo hC v s r x nt n hk) kX7_looseOnes tMet_X7_178 rfl rfl (Nat.le_of_ble_eq_true rfl) (Nat.le_of_ble_eq_true rfl) ⟨Nat.le_of_ble_eq_true rfl, Nat.le_of_ble_eq_true rfl⟩ rfl (Nat.le_of_ble_eq_true rfl) dX7_street_61 ?_
      rintro _ _ ⟨rfl, x61, rfl⟩
      show GW κ 0 0 _ 64 [(0, .ref (h0)), (1, .int (nI (4)))] [.int ((maskI (loB s nt n) n))]
      have E : streetP s nt n (nI 4) = (maskI (loB s nt n) n) := by rfl
      exact g_retiP hR ⟨by rw [E], x61, rfl⟩ dX7_street_64
/-- the first i of f, then g -/
def cpN (i : Nat) (f g : Nat → Int32) : Nat → Int32 := fun k => if k < i then f k else g k
theorem cpN_0 (f g : Nat → Int32) : cpN 0 f g = g := by funext k; simp [cpN]
theorem cpN_s (i : Nat) (f g : Nat → Int32) : upd (cpN i f g) i (f i) = cpN (i + 1) f g := by
  funext k
  by_cases h : k = i
  · subst h; simp [upd, cpN]
  · simp only [upd, if_neg h, cpN]
    by_cases h2 : k < i
    · rw [if_pos h2, if_pos (by omega)]
    · rw [if_neg h2, if_neg (by omega)]
theorem kX7_laysBy : mKV RX7 yX7_laysBy cX7_laysBy 2 none 0 := ⟨tIns_X7_laysBy, tSel_X7_laysBy, tIni_X7, tCod_X7_laysBy, by decide +kernel⟩
set_option maxHeartbeats 4000000 in
set_option maxRecDepth 100000 in
theorem c_laysBy (l : Launch) (D : va_G) (cy : Nat → ClassId) (Z : (Nat → Prop) → State → Heap → Prop) (hzo : zOK Z) {h0 : Nat} {a q : Nat → Nat} {C : (Nat → Int32) → (Nat → Int32) → (Nat → Nat → Int32) → (Nat → Nat → Int32) → va_W} (hC : mLens (cy 0) h0 a q C) (v s : Nat → Int32) (r x : Nat → Nat → Int32) : GD l D cy Z yX7_laysBy (zW yX7_laysBy cX7_laysBy 2 none) { frames := 0, cells := 0, slots := 0, locals := 0 } [.ref (h0)] (C v s r x) none (C v s (mU r 14 (cpN 69 s (r 14))) x) 0 0 := by
  refine g_entry (cc := cX7_laysBy) (maxL := 2) (by decide) rfl (Nat.le_of_ble_eq_true rfl) ?_
  intro κ hN hX hR
  have hX : GX κ cy Z cX7_laysBy (Cond.code yX7_laysBy cX7_laysBy 2 none :: zT) RX7 { frames := 0, cells := 0, slots := 0, locals := 0 } := hX
  show GW κ 0 0 _ 0 [(0, .ref (h0))] []
  have L : ∀ (f i : Nat), i ≤ 69 → 70 ≤ i + f → GW κ 0 0 (C v s (mU r 14 (cpN i s (r 14))) x) 2 [(1, .int (nI (i))), (0, .ref (h0))] [] := by
    intro f
    induction f with
    | zero => intro i h1 h2; exact absurd h2 (by omega)
    | succ f ih =>
      intro i h1 h2
      refine g_iload_n hX 0 rfl rfl dX7_laysBy_2 ?_
      refine g_bipush hX (v := nI 69) (by decide) dX7_laysBy_3 ?_
      refine g_icmpN_ge hX (by omega) (by omega) 26 (by decide) dX7_laysBy_5 (fun c5 => ?_) (fun c5 => ?_)
      · exact g_retv hR (by rw [show i = 69 from by omega]) dX7_laysBy_26
      · refine g_aload_n hX 1 rfl rfl dX7_laysBy_8 ?_
        refine m_getA hX hC 14 (by decide) rfl tFld_X7_49 dX7_laysBy_9 ?_
        refine g_iload_n hX 0 rfl rfl dX7_laysBy_12 ?_
        refine g_aload_n hX 1 rfl rfl dX7_laysBy_13 ?_
        refine m_getA hX hC 0 (by decide) rfl tFld_X7_7 dX7_laysBy_14 ?_
        refine g_iload_n hX 0 rfl rfl dX7_laysBy_17 ?_
        refine m0_aldN hX hC (by omega) dX7_laysBy_18 ?_
        refine m_astN hX hC 14 rfl (show _ < mN 14 from by simp only [mN]; omega) (by decide) dX7_laysBy_19 ?_
        refine g_iincN (n := 1) (lv2 := [(1, .int (nI (i + 1))), (0, .ref (h0))]) hX 0 1 2 hN rfl (by decide) rfl dX7_laysBy_20 ?_
        refine g_goto hX 2 (by decide) dX7_laysBy_23 ?_
        have K := ih (i + 1) (by omega) (by omega)
        rw [← cpN_s] at K
        rw [mU_mU, mU_s]
        exact K
  refine g_iconst hX (v := nI 0) rfl dX7_laysBy_0 ?_
  refine g_istore_n (lv2 := [(1, .int (nI (0))), (0, .ref (h0))]) hX 1 2 hN rfl (by decide) rfl dX7_laysBy_1 ?_
  have K := L 70 0 (by omega) (by omega)
  rw [cpN_0, mU_self] at K
  exact K
theorem kX7_laysBack : mKV RX7 yX7_laysBack cX7_laysBack 2 none 0 := ⟨tIns_X7_laysBack, tSel_X7_laysBack, tIni_X7, tCod_X7_laysBack, by decide +kernel⟩
set_option maxHeartbeats 4000000 in
set_option maxRecDepth 100000 in
theorem c_laysBack (l : Launch) (D : va_G) (cy : Nat → ClassId) (Z : (Nat → Prop) → State → Heap → Prop) (hzo : zOK Z) {h0 : Nat} {a q : Nat → Nat} {C : (Nat → Int32) → (Nat → Int32) → (Nat → Nat → Int32) → (Nat → Nat → Int32) → va_W} (hC : mLens (cy 0) h0 a q C) (v s : Nat → Int32) (r x : Nat → Nat → Int32) : GD l D cy Z yX7_laysBack (zW yX7_laysBack cX7_laysBack 2 none) { frames := 0, cells := 0, slots := 0, locals := 0 } [.ref (h0)] (C v s r x) none (C v (cpN 69 (r 14) s) r x) 0 0 := by
  refine g_entry (cc := cX7_laysBack) (maxL := 2) (by decide) rfl (Nat.le_of_ble_eq_true rfl) ?_
  intro κ hN hX hR
  have hX : GX κ cy Z cX7_laysBack (Cond.code yX7_laysBack cX7_laysBack 2 none :: zT) RX7 { frames := 0, cells := 0, slots := 0, locals := 0 } := hX
  show GW κ 0 0 _ 0 [(0, .ref (h0))] []
  have L : ∀ (f i : Nat), i ≤ 69 → 70 ≤ i + f → GW κ 0 0 (C v (cpN i (r 14) s) r x) 2 [(1, .int (nI (i))), (0, .ref (h0))] [] := by
    intro f
    induction f with
    | zero => intro i h1 h2; exact absurd h2 (by omega)
    | succ f ih =>
      intro i h1 h2
      refine g_iload_n hX 0 rfl rfl dX7_laysBack_2 ?_
      refine g_bipush hX (v := nI 69) (by decide) dX7_laysBack_3 ?_
      refine g_icmpN_ge hX (by omega) (by omega) 26 (by decide) dX7_laysBack_5 (fun c5 => ?_) (fun c5 => ?_)
      · exact g_retv hR (by rw [show i = 69 from by omega]) dX7_laysBack_26
      · refine g_aload_n hX 1 rfl rfl dX7_laysBack_8 ?_
        refine m_getA hX hC 0 (by decide) rfl tFld_X7_7 dX7_laysBack_9 ?_
        refine g_iload_n hX 0 rfl rfl dX7_laysBack_12 ?_
        refine g_aload_n hX 1 rfl rfl dX7_laysBack_13 ?_
        refine m_getA hX hC 14 (by decide) rfl tFld_X7_49 dX7_laysBack_14 ?_
        refine g_iload_n hX 0 rfl rfl dX7_laysBack_17 ?_
        refine m_aldN hX hC 14 rfl (show _ < mN 14 from by simp only [mN]; omega) (by decide) dX7_laysBack_18 ?_
        refine m0_astN hX hC (by omega) dX7_laysBack_19 ?_
        refine g_iincN (n := 1) (lv2 := [(1, .int (nI (i + 1))), (0, .ref (h0))]) hX 0 1 2 hN rfl (by decide) rfl dX7_laysBack_20 ?_
        refine g_goto hX 2 (by decide) dX7_laysBack_23 ?_
        have K := ih (i + 1) (by omega) (by omega)
        rw [← cpN_s] at K
        exact K
  refine g_iconst hX (v := nI 0) rfl dX7_laysBack_0 ?_
  refine g_istore_n (lv2 := [(1, .int (nI (0))), (0, .ref (h0))]) hX 1 2 hN rfl (by decide) rfl dX7_laysBack_1 ?_
  have K := L 70 0 (by omega) (by omega)
  rw [cpN_0] at K
  exact K
theorem kX7_goesOnMany : mKV RX7 yX7_goesOnMany cX7_goesOnMany 3 none 1 := ⟨tIns_X7_goesOnMany, tSel_X7_goesOnMany, tIni_X7, tCod_X7_goesOnMany, by decide +kernel⟩
set_option maxHeartbeats 4000000 in
set_option maxRecDepth 100000 in
theorem c_goesOnMany (l : Launch) (D : va_G) (cy : Nat → ClassId) (Z : (Nat → Prop) → State → Heap → Prop) (hzo : zOK Z) {h0 : Nat} {a q : Nat → Nat} {C : (Nat → Int32) → (Nat → Int32) → (Nat → Nat → Int32) → (Nat → Nat → Int32) → va_W} (hC : mLens (cy 0) h0 a q C) (v s : Nat → Int32) (r x : Nat → Nat → Int32) (nt n : Nat) (hk : stOK s nt n) (m : Nat) (hm : m ≤ 1000) : GM l D cy Z yX7_goesOnMany (zW yX7_goesOnMany cX7_goesOnMany 3 none) { frames := 5, cells := 0, slots := 0, locals := 120 } [.ref (h0), .int (nI (m))] (C v s r x) (fun res w2 => res = none ∧ ∃ x2, w2 = C v (itS s nt n m) r x2) 0 0 := by
  refine g_entry (cc := cX7_goesOnMany) (maxL := 3) (by decide) rfl (Nat.le_of_ble_eq_true rfl) ?_
  intro κ hN hX hR
  have hX : GX κ cy Z cX7_goesOnMany (Cond.code yX7_goesOnMany cX7_goesOnMany 3 none :: zT) RX7 { frames := 5, cells := 0, slots := 0, locals := 120 } := hX
  show GW κ 0 0 _ 0 [(0, .ref (h0)), (1, .int (nI (m)))] []
  have L : ∀ (f i : Nat) (x9 : Nat → Nat → Int32), i ≤ m → m + 1 ≤ i + f → GW κ 0 0 (C v (itS s nt n i) r x9) 2 [(2, .int (nI (i))), (0, .ref (h0)), (1, .int (nI (m)))] [] := by
    intro f
    induction f with
    | zero => intro i x9 h1 h2; exact absurd h2 (by omega)
    | succ f ih =>
      intro i x9 h1 h2
      refine g_iload_n hX 0 rfl rfl dX7_goesOnMany_2 ?_
      refine g_iload_n hX 2 rfl rfl dX7_goesOnMany_3 ?_
      refine g_icmpN_ge hX (by omega) (by omega) 17 (by decide) dX7_goesOnMany_4 (fun c4 => ?_) (fun c4 => ?_)
      · exact g_retvP hR ⟨rfl, x9, by rw [show i = m from by omega]⟩ dX7_goesOnMany_17
      · refine g_aload_n hX 1 rfl rfl dX7_goesOnMany_7 ?_
        refine m_call hX hzo hC [] [] (c_goesOnK _ _ _ _ hzo hC v (itS s nt n i) r x9 nt n (stOK_it hk i)) kX7_goesOn tMet_X7_172 rfl rfl (Nat.le_of_ble_eq_true rfl) (Nat.le_of_ble_eq_true rfl) ⟨Nat.le_of_ble_eq_true rfl, Nat.le_of_ble_eq_true rfl⟩ rfl (Nat.le_of_ble_eq_true rfl) dX7_goesOnMany_8 ?_
        rintro _ _ ⟨rfl, x8, rfl⟩
        show GW κ 0 0 _ 11 [(2, .int (nI (i))), (0, .ref (h0)), (1, .int (nI (m)))] []
        refine g_iincN (n := 1) (lv2 := [(2, .int (nI (i + 1))), (0, .ref (h0)), (1, .int (nI (m)))]) hX 0 2 3 hN rfl (by decide) rfl dX7_goesOnMany_11 ?_
        refine g_goto hX 2 (by decide) dX7_goesOnMany_14 ?_
        exact ih (i + 1) x8 (by omega) (by omega)
  refine g_iconst hX (v := nI 0) rfl dX7_goesOnMany_0 ?_
  refine g_istore_n (lv2 := [(2, .int (nI (0))), (0, .ref (h0)), (1, .int (nI (m)))]) hX 2 3 hN rfl (by decide) rfl dX7_goesOnMany_1 ?_
  exact L (m + 1) 0 x (by omega) (by omega)
