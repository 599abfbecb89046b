/-- a set of numbers under n, as bits -/
def maskN (p : Nat → Bool) : Nat → Nat
  | 0 => 0
  | k + 1 => maskN p k ||| (if p k then 2 ^ k else 0)
theorem nI_or (a b : Nat) : nI a ||| nI b = nI (a ||| b) := by
  apply Int32.toBitVec_inj.mp
  apply BitVec.eq_of_toNat_eq
  simp [nI, Int32.toBitVec_ofNat, BitVec.toNat_ofNat, Nat.or_mod_two_pow]
theorem sh_amt : ∀ k, k < 32 → ((nI k &&& 31).toBitVec.smod 32).toNat = k := by decide +kernel
theorem maskN_lt (p : Nat → Bool) : ∀ n, maskN p n < 2 ^ n := by
  intro n
  induction n with
  | zero => exact Nat.zero_lt_one
  | succ n ih =>
    rw [maskN]
    refine Nat.or_lt_two_pow (Nat.lt_trans ih (Nat.pow_lt_pow_right (by decide) (Nat.lt_succ_self n))) ?_
    split
    · exact Nat.pow_lt_pow_right (by decide) (Nat.lt_succ_self n)
    · exact Nat.two_pow_pos _
theorem mask_nI (p : Nat → Bool) : ∀ n, n ≤ 31 → maskI p n = nI (maskN p n) := by
  intro n
  induction n with
  | zero => intro _; rfl
  | succ n ih =>
    intro h
    rw [maskI, maskN, ih (by omega), ← nI_or]
    congr 1
    split
    · have h1 : 1 * 2 ^ n < 2 ^ 32 := by rw [Nat.one_mul]; exact Nat.pow_lt_pow_right (by decide) (by omega)
      rw [pk_shlN (n := 1) (nI n &&& 31) n (sh_amt n (by omega)) h1, Nat.one_mul]
    · rfl
theorem maskN_bit (p : Nat → Bool) (o : Nat) : ∀ n, (maskN p n).testBit o = (decide (o < n) && p o) := by
  intro n
  induction n with
  | zero => simp [maskN]
  | succ n ih =>
    rw [maskN, Nat.testBit_or, ih]
    by_cases h : o = n
    · subst h
      cases hp : p o <;> simp [hp, Nat.testBit_two_pow_self]
    · have h2 : (if p n = true then 2 ^ n else 0).testBit o = false := by
        split
        · rw [Nat.testBit_two_pow]; simp; omega
        · simp
      rw [h2, Bool.or_false]
      congr 1
      by_cases h3 : o < n
      · simp [h3]; omega
      · simp [h3]; omega
theorem mask_bit (p : Nat → Bool) {n o : Nat} (hn : n ≤ 9) (ho : o < n) : ((maskI p n >>> (nI o &&& 31)) &&& nI 1) = bI (p o) := by
  have hlt : maskN p n < 512 := Nat.lt_of_lt_of_le (maskN_lt p n) (Nat.pow_le_pow_right (by decide) hn)
  rw [mask_nI p n (by omega), pk_shrN (by omega) _ o (sh_amt o (by omega)), nI_and, Nat.and_one_is_mod]
  have hb := maskN_bit p o n
  rw [Nat.testBit_eq_decide_div_mod_eq] at hb
  simp only [ho, decide_true, Bool.true_and] at hb
  cases hp : p o with
  | true =>
    rw [hp] at hb
    rw [of_decide_eq_true hb]; rfl
  | false =>
    rw [hp] at hb
    have := of_decide_eq_false hb
    rw [show maskN p n / 2 ^ o % 2 = 0 from by omega]; rfl
theorem nxL_lt {p : Nat → Bool} : ∀ {k a : Nat}, nxL p k = some a → a < k ∧ p a = true := by
  intro k
  induction k with
  | zero => intro a h; cases h
  | succ k ih =>
    intro a h
    rw [nxL] at h
    by_cases c : p k = true
    · rw [if_pos c] at h; cases h; exact ⟨Nat.lt_succ_self _, c⟩
    · rw [if_neg c] at h; obtain ⟨h1, h2⟩ := ih h; exact ⟨Nat.lt_succ_of_lt h1, h2⟩
theorem nxR_lt {p : Nat → Bool} : ∀ {f o b : Nat}, nxR p f o = some b → o ≤ b ∧ b < o + f ∧ p b = true := by
  intro f
  induction f with
  | zero => intro o b h; cases h
  | succ f ih =>
    intro o b h
    rw [nxR] at h
    by_cases c : p o = true
    · rw [if_pos c] at h; cases h; exact ⟨Nat.le_refl _, by omega, c⟩
    · rw [if_neg c] at h; obtain ⟨h1, h2, h3⟩ := ih h; exact ⟨by omega, by omega, h3⟩
/-- what comes from the left, from the right; the whole thrust on house k -/
def lfS (s : Nat → Int32) (nt k : Nat) : Int32 := match nxL (sd s) k with
  | none => nI 0
  | some a => if s (6 + 7 * a + 2) ≤ 0 then nI 0 else puS s nt a
def rgS (s : Nat → Int32) (nt n k : Nat) : Int32 := match nxR (sd s) (n - (k + 1)) (k + 1) with
  | none => nI 0
  | some b => if 0 ≤ s (6 + 7 * b + 2) then nI 0 else puS s nt b
def thS (s : Nat → Int32) (nt n k : Nat) : Int32 := if sd s k then s 4 + lfS s nt k - rgS s nt n k else nI 0
theorem kX7_thrust : mKV RX7 yX7_thrust cX7_thrust 6 (some .int) 1 := ⟨tIns_X7_thrust, tSel_X7_thrust, tIni_X7, tCod_X7_thrust, by decide +kernel⟩
set_option maxHeartbeats 4000000 in
set_option maxRecDepth 100000 in
theorem c_thrust (l : Launch) (D : va_G) (cy : Nat → ClassId) (Z : (Nat → Prop) → State → Heap → Prop) (hzo : zOK Z) {h0 : Nat} {a q : Nat → Nat} {C : (Nat → Int32) → (Nat → Int32) → (Nat → Nat → Int32) → (Nat → Nat → Int32) → va_W} (hC : mLens (cy 0) h0 a q C) (v s : Nat → Int32) (r x : Nat → Nat → Int32) (nt : Nat) (hnt : s 1 = nI nt) (hnt14 : nt ≤ 14) (htx : ∀ t, t < nt → textOK s t) (n : Nat) (hn : s 0 = nI n) (hn9 : n ≤ 9) (k : Nat) (hk : k < n) : GM l D cy Z yX7_thrust (zW yX7_thrust cX7_thrust 6 (some .int)) { frames := 3, cells := 0, slots := 0, locals := 71 } [.ref (h0), .int (nI (k))] (C v s r x) (fun res w2 => res = some (.int (thS s nt n k)) ∧ ∃ x2, xk x x2 ∧ w2 = C v s r x2) 0 0 := by
  refine g_entry (cc := cX7_thrust) (maxL := 6) (by decide) rfl (Nat.le_of_ble_eq_true rfl) ?_
  intro κ hN hX hR
  have hX : GX κ cy Z cX7_thrust (Cond.code yX7_thrust cX7_thrust 6 (some .int) :: zT) RX7 { frames := 3, cells := 0, slots := 0, locals := 71 } := hX
  show GW κ 0 0 _ 0 [(0, .ref (h0)), (1, .int (nI (k)))] []
  have J94 : ∀ (z5 z6 : Int32) (x9 : Nat → Nat → Int32), xk x x9 → sd s k = true → s 4 + lfS s nt k = z5 → rgS s nt n k = z6 → GW κ 0 0 (C v s r x9) 94 [(0, .ref (h0)), (1, .int (nI (k)))] [.int (z6), .int (z5)] := by
    intro z5 z6 x9 hxk c5 h1 h2
    refine g_isub hX dX7_thrust_94 ?_
    refine g_istore (lv2 := [(5, .int ((z5 - z6))), (0, .ref (h0)), (1, .int (nI (k)))]) hX 5 6 hN (by decide) rfl dX7_thrust_95 ?_
    refine g_iload hX 0 rfl dX7_thrust_97 ?_
    exact g_retiP hR ⟨congrArg (fun q => some (Value.int q)) (show (z5 - z6) = thS s nt n k by rw [thS, if_pos c5, h1, h2]), x9, hxk, rfl⟩ dX7_thrust_99
  have J64 : ∀ (z4 : Int32) (x9 : Nat → Nat → Int32), xk x x9 → sd s k = true → lfS s nt k = z4 → GW κ 0 0 (C v s r x9) 64 [(4, .int ((optI (nxR (sd s) (n - ((k) + 1)) ((k) + 1))))), (0, .ref (h0)), (1, .int (nI (k)))] [.int (z4), .int (s (4))] := by
    intro z4 x9 hxk c5 h1
    refine g_iadd hX dX7_thrust_64 ?_
    refine g_istore (lv2 := [(5, .int ((s (4) + z4))), (4, .int ((optI (nxR (sd s) (n - ((k) + 1)) ((k) + 1))))), (0, .ref (h0)), (1, .int (nI (k)))]) hX 5 6 hN (by decide) rfl dX7_thrust_65 ?_
    refine g_iload hX 0 rfl dX7_thrust_67 ?_
    rcases hb : nxR (sd s) (n - (k + 1)) (k + 1) with _ | b9
    · show GW κ 0 0 _ 69 [(5, .int ((s (4) + z4))), (4, .int ((-1))), (0, .ref (h0)), (1, .int (nI (k)))] [.int ((s (4) + z4))]
      refine g_iload hX 1 rfl dX7_thrust_69 ?_
      refine g_if_lt hX 93 (by decide) dX7_thrust_71 (fun c71 => ?_) (fun c71 => absurd c71 (fun h => h (by decide)))
      refine g_iconst hX (v := nI 0) rfl dX7_thrust_93 ?_
      refine g_lv [2, 3] rfl ?_
      exact J94 (s (4) + z4) (nI (0)) x9 hxk c5 (by rw [h1]) (by rw [rgS, hb])
    · have hbl := nxR_lt hb
      show GW κ 0 0 _ 69 [(5, .int ((s (4) + z4))), (4, .int (nI (b9))), (0, .ref (h0)), (1, .int (nI (k)))] [.int ((s (4) + z4))]
      refine g_iload hX 1 rfl dX7_thrust_69 ?_
      refine g_ifN_lt hX (by omega) 93 (by decide) dX7_thrust_71 ?_
      refine g_aload_n hX 2 rfl rfl dX7_thrust_74 ?_
      refine g_iload hX 1 rfl dX7_thrust_75 ?_
      refine g_iconst hX (v := nI 2) rfl dX7_thrust_77 ?_
      refine m_callD hX hzo hC [.int (nI (b9)), .int (nI (2))] [.int ((s (4) + z4))] (c_of _ _ _ _ hzo hC v s r x9 (b9) (2) (by omega)) kX7_of tMet_X7_75 rfl rfl (Nat.le_of_ble_eq_true rfl) (Nat.le_of_ble_eq_true rfl) ⟨Nat.le_of_ble_eq_true rfl, Nat.le_of_ble_eq_true rfl⟩ rfl rfl (Nat.le_of_ble_eq_true rfl) dX7_thrust_78 ?_
      refine g_if_ge hX 93 (by decide) dX7_thrust_81 (fun c81 => ?_) (fun c81 => ?_)
      · refine g_iconst hX (v := nI 0) rfl dX7_thrust_93 ?_
        refine g_lv [2, 3] rfl ?_
        exact J94 (s (4) + z4) (nI (0)) x9 hxk c5 (by rw [h1]) (by rw [rgS, hb]; show (if 0 ≤ _ then _ else _) = _; rw [if_pos c81])
      · refine g_aload_n hX 2 rfl rfl dX7_thrust_84 ?_
        refine g_iload hX 1 rfl dX7_thrust_85 ?_
        refine m_call hX hzo hC [.int (nI (b9))] [.int ((s (4) + z4))] (c_pushes _ _ _ _ hzo hC v s r x9 nt hnt hnt14 htx (b9) (by omega)) kX7_pushes tMet_X7_130 rfl rfl (Nat.le_of_ble_eq_true rfl) (Nat.le_of_ble_eq_true rfl) ⟨Nat.le_of_ble_eq_true rfl, Nat.le_of_ble_eq_true rfl⟩ rfl (Nat.le_of_ble_eq_true rfl) dX7_thrust_87 ?_
        rintro _ _ ⟨rfl, x87, k87, rfl⟩
        show GW κ 0 0 _ 90 [(5, .int ((s (4) + z4))), (4, .int (nI (b9))), (0, .ref (h0)), (1, .int (nI (k)))] [.int ((puS s nt (b9))), .int ((s (4) + z4))]
        refine g_goto hX 94 (by decide) dX7_thrust_90 ?_
        refine g_lv [2, 3] rfl ?_
        exact J94 (s (4) + z4) ((puS s nt (b9))) x87 (xk_t hxk k87) c5 (by rw [h1]) (by rw [rgS, hb]; show (if 0 ≤ _ then _ else _) = _; rw [if_neg c81])
  refine g_aload_n hX 0 rfl rfl dX7_thrust_0 ?_
  refine g_iload_n hX 1 rfl rfl dX7_thrust_1 ?_
  refine m_callD hX hzo hC [.int (nI (k))] [] (c_stands _ _ _ _ hzo hC v s r x (k) (by omega)) kX7_stands tMet_X7_119 rfl rfl (Nat.le_of_ble_eq_true rfl) (Nat.le_of_ble_eq_true rfl) ⟨Nat.le_of_ble_eq_true rfl, Nat.le_of_ble_eq_true rfl⟩ rfl rfl (Nat.le_of_ble_eq_true rfl) dX7_thrust_2 ?_
  refine g_ifb_ne hX 10 (by decide) dX7_thrust_5 (fun c5 => ?_) (fun c5 => ?_)
  · refine g_aload_n hX 0 rfl rfl dX7_thrust_10 ?_
    refine m_callD hX hzo hC [] [] (c_allStanding _ _ _ _ hzo hC v s r x n hn hn9) kX7_allStanding tMet_X7_123 rfl rfl (Nat.le_of_ble_eq_true rfl) (Nat.le_of_ble_eq_true rfl) ⟨Nat.le_of_ble_eq_true rfl, Nat.le_of_ble_eq_true rfl⟩ rfl rfl (Nat.le_of_ble_eq_true rfl) dX7_thrust_11 ?_
    refine g_istore_n (lv2 := [(2, .int ((maskI (sd s) n))), (0, .ref (h0)), (1, .int (nI (k)))]) hX 2 6 hN rfl (by decide) rfl dX7_thrust_14 ?_
    refine g_aload_n hX 1 rfl rfl dX7_thrust_15 ?_
    refine g_iload_n hX 2 rfl rfl dX7_thrust_16 ?_
    refine g_iconst hX (v := -1) (by decide) dX7_thrust_17 ?_
    refine g_iload_n hX 0 rfl rfl dX7_thrust_18 ?_
    refine m_callD hX hzo hC [.int (nI (k)), .int ((-1)), .int ((maskI (sd s) n))] [] (c_nextL _ _ _ _ hzo hC v s r x n hn hn9 (k) (by omega) ((maskI (sd s) n)) (sd s) (fun o ho => mask_bit _ hn9 ho)) kX7_nextOf tMet_X7_127 rfl rfl (Nat.le_of_ble_eq_true rfl) (Nat.le_of_ble_eq_true rfl) ⟨Nat.le_of_ble_eq_true rfl, Nat.le_of_ble_eq_true rfl⟩ rfl rfl (Nat.le_of_ble_eq_true rfl) dX7_thrust_19 ?_
    refine g_istore_n (lv2 := [(3, .int ((optI (nxL (sd s) (k))))), (2, .int ((maskI (sd s) n))), (0, .ref (h0)), (1, .int (nI (k)))]) hX 3 6 hN rfl (by decide) rfl dX7_thrust_22 ?_
    refine g_aload_n hX 2 rfl rfl dX7_thrust_23 ?_
    refine g_iload_n hX 3 rfl rfl dX7_thrust_24 ?_
    refine g_iconst hX (v := nI 1) rfl dX7_thrust_25 ?_
    refine g_iload_n hX 1 rfl rfl dX7_thrust_26 ?_
    refine m_callD hX hzo hC [.int (nI (k)), .int (nI (1)), .int ((maskI (sd s) n))] [] (c_nextR _ _ _ _ hzo hC v s r x n hn hn9 (k) (by omega) ((maskI (sd s) n)) (sd s) (fun o ho => mask_bit _ hn9 ho)) kX7_nextOf tMet_X7_127 rfl rfl (Nat.le_of_ble_eq_true rfl) (Nat.le_of_ble_eq_true rfl) ⟨Nat.le_of_ble_eq_true rfl, Nat.le_of_ble_eq_true rfl⟩ rfl rfl (Nat.le_of_ble_eq_true rfl) dX7_thrust_27 ?_
    refine g_istore (lv2 := [(4, .int ((optI (nxR (sd s) (n - ((k) + 1)) ((k) + 1))))), (3, .int ((optI (nxL (sd s) (k))))), (2, .int ((maskI (sd s) n))), (0, .ref (h0)), (1, .int (nI (k)))]) hX 4 6 hN (by decide) rfl dX7_thrust_30 ?_
    refine g_aload_n hX 3 rfl rfl dX7_thrust_32 ?_
    refine m_getA hX hC 0 (by decide) rfl tFld_X7_7 dX7_thrust_33 ?_
    refine g_iconst hX (v := nI 4) rfl dX7_thrust_36 ?_
    refine m0_aldN hX hC (by omega) dX7_thrust_37 ?_
    refine g_istore (lv2 := [(5, .int (s (4))), (4, .int ((optI (nxR (sd s) (n - ((k) + 1)) ((k) + 1))))), (3, .int ((optI (nxL (sd s) (k))))), (2, .int ((maskI (sd s) n))), (0, .ref (h0)), (1, .int (nI (k)))]) hX 5 6 hN (by decide) rfl dX7_thrust_38 ?_
    refine g_iload hX 0 rfl dX7_thrust_40 ?_
    rcases ha : nxL (sd s) k with _ | a9
    · show GW κ 0 0 _ 42 [(5, .int (s (4))), (4, .int ((optI (nxR (sd s) (n - ((k) + 1)) ((k) + 1))))), (3, .int ((-1))), (2, .int ((maskI (sd s) n))), (0, .ref (h0)), (1, .int (nI (k)))] [.int (s (4))]
      refine g_iload_n hX 2 rfl rfl dX7_thrust_42 ?_
      refine g_if_lt hX 63 (by decide) dX7_thrust_43 (fun c43 => ?_) (fun c43 => absurd c43 (fun h => h (by decide)))
      refine g_iconst hX (v := nI 0) rfl dX7_thrust_63 ?_
      refine g_lv [1, 4, 5] rfl ?_
      exact J64 (nI (0)) x (xk_r x) c5 (by rw [lfS, ha])
    · have hal := nxL_lt ha
      show GW κ 0 0 _ 42 [(5, .int (s (4))), (4, .int ((optI (nxR (sd s) (n - ((k) + 1)) ((k) + 1))))), (3, .int (nI (a9))), (2, .int ((maskI (sd s) n))), (0, .ref (h0)), (1, .int (nI (k)))] [.int (s (4))]
      refine g_iload_n hX 2 rfl rfl dX7_thrust_42 ?_
      refine g_ifN_lt hX (by omega) 63 (by decide) dX7_thrust_43 ?_
      refine g_aload_n hX 4 rfl rfl dX7_thrust_46 ?_
      refine g_iload_n hX 2 rfl rfl dX7_thrust_47 ?_
      refine g_iconst hX (v := nI 2) rfl dX7_thrust_48 ?_
      refine m_callD hX hzo hC [.int (nI (a9)), .int (nI (2))] [.int (s (4))] (c_of _ _ _ _ hzo hC v s r x (a9) (2) (by omega)) kX7_of tMet_X7_75 rfl rfl (Nat.le_of_ble_eq_true rfl) (Nat.le_of_ble_eq_true rfl) ⟨Nat.le_of_ble_eq_true rfl, Nat.le_of_ble_eq_true rfl⟩ rfl rfl (Nat.le_of_ble_eq_true rfl) dX7_thrust_49 ?_
      refine g_if_le hX 63 (by decide) dX7_thrust_52 (fun c52 => ?_) (fun c52 => ?_)
      · refine g_iconst hX (v := nI 0) rfl dX7_thrust_63 ?_
        refine g_lv [1, 4, 5] rfl ?_
        exact J64 (nI (0)) x (xk_r x) c5 (by rw [lfS, ha]; show (if _ ≤ 0 then _ else _) = _; rw [if_pos c52])
      · refine g_aload_n hX 4 rfl rfl dX7_thrust_55 ?_
        refine g_iload_n hX 2 rfl rfl dX7_thrust_56 ?_
        refine m_call hX hzo hC [.int (nI (a9))] [.int (s (4))] (c_pushes _ _ _ _ hzo hC v s r x nt hnt hnt14 htx (a9) (by omega)) kX7_pushes tMet_X7_130 rfl rfl (Nat.le_of_ble_eq_true rfl) (Nat.le_of_ble_eq_true rfl) ⟨Nat.le_of_ble_eq_true rfl, Nat.le_of_ble_eq_true rfl⟩ rfl (Nat.le_of_ble_eq_true rfl) dX7_thrust_57 ?_
        rintro _ _ ⟨rfl, x57, k57, rfl⟩
        show GW κ 0 0 _ 60 [(5, .int (s (4))), (4, .int ((optI (nxR (sd s) (n - ((k) + 1)) ((k) + 1))))), (3, .int (nI (a9))), (2, .int ((maskI (sd s) n))), (0, .ref (h0)), (1, .int (nI (k)))] [.int ((puS s nt (a9))), .int (s (4))]
        refine g_goto hX 64 (by decide) dX7_thrust_60 ?_
        refine g_lv [1, 4, 5] rfl ?_
        exact J64 ((puS s nt (a9))) x57 k57 c5 (by rw [lfS, ha]; show (if _ ≤ 0 then _ else _) = _; rw [if_neg c52])
  · refine g_iconst hX (v := nI 0) rfl dX7_thrust_8 ?_
    exact g_retiP hR ⟨congrArg (fun q => some (Value.int q)) (show nI 0 = thS s nt n k by rw [thS, if_neg (by rw [c5]; decide)]), x, xk_r x, rfl⟩ dX7_thrust_9
