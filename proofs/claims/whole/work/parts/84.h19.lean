/-! ===== sheets are begun and marked ===== -/
def ShK (σ : Sg) (r : Nat → Nat → Int32) (k : Nat) : Prop := σ.1 (80 + 2 * k) 1 = r 4 k ∧ (r 4 k = -1 ∨ r 4 k = nI 0 ∨ r 4 k = nI 1) ∧ (∃ m, m ≤ 24 ∧ σ.1 (80 + 2 * k) 2 = nI m ∧ r 5 k = nI m ∧ (r 4 k = -1 → m = 0)) ∧ ∀ j, j < 24 → σ.1 (81 + 2 * k) j = r 6 (24 * k + j) ∧ (r 6 (24 * k + j) = -1000000005 ∨ (-99999 ≤ (r 6 (24 * k + j)).toInt ∧ (r 6 (24 * k + j)).toInt ≤ 99999))
theorem RSh.up {σ σ' : Sg} {μ : Mg} {v' s' : Nat → Int32} {r' : Nat → Nat → Int32} {k : Nat} (h : RSh σ μ) (h1 : ∀ x, 80 ≤ x → x < 88 → x ≠ 80 + 2 * k → x ≠ 81 + 2 * k → σ'.1 x = σ.1 x) (r4 : ∀ j, j ≠ k → r' 4 j = μ.2.2 4 j) (r5 : ∀ j, j ≠ k → r' 5 j = μ.2.2 5 j) (r6 : ∀ p, (p < 24 * k ∨ 24 * k + 24 ≤ p) → r' 6 p = μ.2.2 6 p) (hn : ShK σ' r' k) : RSh σ' (v', s', r') := by
  intro j hj
  by_cases e : j = k
  · rw [e]; exact hn
  · obtain ⟨a1, a2, ⟨m, m1, m2, m3, m4⟩, a3⟩ := h j hj
    refine ⟨?_, ?_, ⟨m, m1, ?_, ?_, ?_⟩, fun i hi => ?_⟩
    · show σ'.1 (80 + 2 * j) 1 = r' 4 j
      rw [h1 _ (by omega) (by omega) (by omega) (by omega), r4 j e]; exact a1
    · show r' 4 j = -1 ∨ r' 4 j = nI 0 ∨ r' 4 j = nI 1
      rw [r4 j e]; exact a2
    · rw [h1 _ (by omega) (by omega) (by omega) (by omega)]; exact m2
    · show r' 5 j = nI m
      rw [r5 j e]; exact m3
    · show r' 4 j = -1 → m = 0
      rw [r4 j e]; exact m4
    · show σ'.1 (81 + 2 * j) i = r' 6 (24 * j + i) ∧ (r' 6 (24 * j + i) = -1000000005 ∨ (-99999 ≤ (r' 6 (24 * j + i)).toInt ∧ (r' 6 (24 * j + i)).toInt ≤ 99999))
      rw [h1 _ (by omega) (by omega) (by omega) (by omega), r6 _ (by omega)]; exact a3 i hi
/-- only sheet k has changed -/
theorem rel_sh {ε : Ev} {σ σ' : Sg} {μ : Mg} {r' : Nat → Nat → Int32} {k : Nat} (h : Rel ε σ μ) (hk : k < 4) (h1 : ∀ x, x ≠ 80 + 2 * k → x ≠ 81 + 2 * k → σ'.1 x = σ.1 x) (h2 : σ'.2 = σ.2) (hr : ∀ j, j ≠ 4 → j ≠ 5 → j ≠ 6 → j ≠ 29 → r' j = μ.2.2 j) (r4 : ∀ j, j ≠ k → r' 4 j = μ.2.2 4 j) (r5 : ∀ j, j ≠ k → r' 5 j = μ.2.2 5 j) (r6 : ∀ p, (p < 24 * k ∨ 24 * k + 24 ≤ p) → r' 6 p = μ.2.2 6 p) (hn : ShK σ' r' k) : Rel ε σ' (μ.1, μ.2.1, r') :=
  rel_st h (fun x a b => h1 x (by omega) (by omega)) (fun x a b => h1 x (by omega) (by omega)) (by rw [h1 0 (by omega) (by omega)]) h2 rfl (hr 1 (by decide) (by decide) (by decide) (by decide)) (h.2.2.1.sm (by rw [h1 64 (by omega) (by omega)]) (h1 65 (by omega) (by omega)) rfl (hr 15 (by decide) (by decide) (by decide) (by decide))) (h.2.2.2.1.up (fun x _ _ a b => h1 x a b) r4 r5 r6 hn) (h.2.2.2.2.1.sm (fun x a b => h1 x (by omega) (by omega)) (fun j a b => hr j (by omega) (by omega) (by omega) (by omega))) (h.2.2.2.2.2.1.sm (by rw [h1 0 (by omega) (by omega)]) (h1 3 (by omega) (by omega)) rfl (hr 30 (by decide) (by decide) (by decide) (by decide)))
theorem fill_L {ε : Ev} {c : Nat} {σ : Sg} (k20 : Sg → Option (Unit × Sg)) : ∀ (f i : Nat) (τ : Sg), i ≤ 24 → 25 ≤ i + f → (∀ x, x ≠ c → τ.1 x = σ.1 x) → τ.2 = σ.2 → (∀ j, j < i → τ.1 c j = nI 0) → ∃ τ', fn_J7_fill_53178_L5 ε c 24 (nI 0) k20 f (nI i) τ = k20 τ' ∧ (∀ x, x ≠ c → τ'.1 x = σ.1 x) ∧ τ'.2 = σ.2 ∧ ∀ j, j < 24 → τ'.1 c j = nI 0 := by
  intro f
  induction f with
  | zero => intro i τ h1 h2; omega
  | succ f ih =>
    intro i τ h1 h2 hx ht hj
    simp only [fn_J7_fill_53178_L5]
    by_cases hi : i = 24
    · subst hi
      rw [if_pos (by decide)]
      exact ⟨τ, rfl, hx, ht, hj⟩
    · rw [if_neg (nI_ge (by omega) (by omega)), nI_clamp (by omega), if_pos (g_in (show i < 24 by omega) (by decide)), nI_add]
      refine ih (i + 1) _ (by omega) (by omega) (fun x h => by rw [pI_nc h]; exact hx x h) ht (fun j h => ?_)
      by_cases e : j = i
      · rw [e, pI_e]
      · rw [pI_n (Or.inr e)]; exact hj j (by omega)
theorem begin_eq {ε : Ev} {c : Nat} {σ : Sg} (z1 z2 : Int32) : ∃ σ', fn_X2_begin ε c z1 z2 σ = some ((), σ') ∧ σ'.1 c 1 = z1 ∧ σ'.1 c 2 = z2 ∧ (∀ j, j < 24 → σ'.1 (c + 1) j = nI 0) ∧ (∀ x, x ≠ c → x ≠ c + 1 → σ'.1 x = σ.1 x) ∧ σ'.2 = σ.2 := by
  obtain ⟨τ, e, h1, h2, h3⟩ := fill_L (ε := ε) (c := c + 1) (σ := pI (pI σ c 1 z1) c 2 z2) (fn_J7_fill_53178_L20 ε (c + 1) 24 (nI 0)) 4000 0 (pI (pI σ c 1 z1) c 2 z2) (by decide) (by decide) (fun _ _ => rfl) rfl (fun j hj => by omega)
  refine ⟨τ, ?_, ?_, ?_, h3, fun x a b => ?_, h2⟩
  · rw [fn_X2_begin, fn_J7_fill_53178, e, fn_J7_fill_53178_L20, ob_s]
  · rw [h1 c (by omega), pI_n (Or.inr (by decide)), pI_e]
  · rw [h1 c (by omega), pI_e]
  · rw [h1 x b, pI_nc a, pI_nc a]
theorem sh7_L {v s : Nat → Int32} {r : Nat → Nat → Int32} {k : Nat} {z2 z3 : Int32} (hk : k < 4) (k95 : Mg → Option (Int32 × Mg)) : ∀ (f i : Nat) (r1 : Nat → Nat → Int32), i ≤ 24 → 25 ≤ i + f → (∀ j, j ≠ 6 → r1 j = r j) → (∀ p, (p < 24 * k ∨ 24 * k + 24 ≤ p) → r1 6 p = r 6 p) → (∀ j, j < i → r1 6 (24 * k + j) = nI 0) → ∃ r2, fn_X7_sheet_L69 (nI k) z2 z3 k95 f (nI i) (v, s, r1) = k95 (v, s, r2) ∧ (∀ j, j ≠ 6 → r2 j = r j) ∧ (∀ p, (p < 24 * k ∨ 24 * k + 24 ≤ p) → r2 6 p = r 6 p) ∧ ∀ j, j < 24 → r2 6 (24 * k + j) = nI 0 := by
  intro f
  induction f with
  | zero => intro i r1 h1 h2; omega
  | succ f ih =>
    intro i r1 h1 h2 ha hb hc
    simp only [fn_X7_sheet_L69]
    by_cases hi : i = 24
    · subst hi
      rw [if_pos (by decide)]
      exact ⟨r1, rfl, ha, hb, hc⟩
    · rw [if_neg (nI_ge (by omega) (by omega)), pk_mul, nI_add, nI_clamp (by omega), if_pos (g_in (show 24 * k + i < 96 by omega) (by decide)), nI_add]
      refine ih (i + 1) _ (by omega) (by omega) (fun j h => by rw [mU_n _ _ h]; exact ha j h) (fun p h => by rw [mU_s, pk_un (by omega)]; exact hb p h) (fun j h => ?_)
      rw [mU_s]
      by_cases e : j = i
      · rw [e, pk_us]
      · rw [pk_un (by omega)]; exact hc j (by omega)
theorem sh7_eq {v s : Nat → Int32} {r : Nat → Nat → Int32} {k m : Nat} {z2 z3 : Int32} (hk : k < 4) : ∃ r2, fn_X7_sheet_L65 (nI k) z2 z3 (nI m) (v, s, mU r 4 (upd (r 4) k z2)) = some (nI m, (v, s, r2)) ∧ (∀ j, j ≠ 4 → j ≠ 5 → j ≠ 6 → r2 j = r j) ∧ r2 4 = upd (r 4) k z2 ∧ r2 5 = upd (r 5) k (nI m) ∧ (∀ p, (p < 24 * k ∨ 24 * k + 24 ≤ p) → r2 6 p = r 6 p) ∧ ∀ j, j < 24 → r2 6 (24 * k + j) = nI 0 := by
  obtain ⟨r2, e, a, b, c⟩ := sh7_L (v := v) (s := s) (r := mU (mU r 4 (upd (r 4) k z2)) 5 (upd (r 5) k (nI m))) (k := k) (z2 := z2) (z3 := z3) hk (fn_X7_sheet_L95 (nI k) z2 z3) 4000 0 (mU (mU r 4 (upd (r 4) k z2)) 5 (upd (r 5) k (nI m))) (by decide) (by decide) (fun _ _ => rfl) (fun _ _ => rfl) (fun j hj => by omega)
  have e5 : r2 5 = upd (r 5) k (nI m) := by rw [a 5 (by decide), mU_s]
  refine ⟨r2, ?_, fun j h4 h5 h6 => by rw [a j h6, mU_n _ _ h5, mU_n _ _ h4], by rw [a 4 (by decide), mU_n _ _ (by decide), mU_s], e5, fun p h => by rw [b p h, mU_n _ _ (by decide), mU_n _ _ (by decide)], c⟩
  rw [fn_X7_sheet_L65, nI_clamp (by omega), if_pos (g_in hk (by decide))]
  dsimp only
  rw [show mU r 4 (upd (r 4) k z2) 5 = r 5 from mU_n _ _ (by decide)]
  refine e.trans ?_
  rw [fn_X7_sheet_L95, nI_clamp (by omega), if_pos (g_in hk (by decide))]
  show some (r2 5 k, _) = _
  rw [e5, pk_us]
theorem sheet_ok {ε : Ev} {σ : Sg} {μ : Mg} (h : Rel ε σ μ) (z y u : Int32) : RStp ε (fn_X6_sheet ε z y u σ) (fn_X7_sheet z y u μ) := by
  rw [fn_X6_sheet, fn_X7_sheet, sheet_eq, sheet7_eq, o1_s, o1_s]
  simp only [bI_0, fn_X6_sheet_L17, fn_X7_sheet_L29]
  cases hz : inB z 0 3 with
  | false => rw [if_pos ff_y, if_pos ff_y]; exact ⟨_, σ, μ, rfl, rfl, h⟩
  | true =>
    obtain ⟨k, k1, k2, rfl⟩ := inB_t (lo := 0) (hi := 3) (by decide) (by decide) hz
    have hk : k < 4 := by omega
    rw [if_neg tf_n, if_neg tf_n]
    have fin : ∀ (w : Int32) (m : Nat), m ≤ 24 → (w = -1 ∨ w = nI 0 ∨ w = nI 1) → (w = -1 → m = 0) → RStp ε (ob (fn_X2_begin ε (80 + 2 * k) w (nI m) σ) (fun _ τ => some (nI m, τ))) (fn_X7_sheet_L65 (nI k) w u (nI m) (μ.1, μ.2.1, mU μ.2.2 4 (upd (μ.2.2 4) k w))) := by
      intro w m hm hw hw2
      obtain ⟨σ', e1, a1, a2, a3, a4, a5⟩ := begin_eq (ε := ε) (c := 80 + 2 * k) (σ := σ) w (nI m)
      obtain ⟨r2, e2, b1, b2, b3, b4, b5⟩ := sh7_eq (v := μ.1) (s := μ.2.1) (r := μ.2.2) (m := m) (z2 := w) (z3 := u) hk
      rw [e1, ob_s, e2]
      refine ⟨_, _, _, rfl, rfl, rel_sh h hk (fun x p q => a4 x p (by omega)) a5 (fun j p4 p5 p6 _ => b1 j p4 p5 p6) (fun j hj => by rw [b2, pk_un hj]) (fun j hj => by rw [b3, pk_un hj]) b4 ⟨by rw [a1, b2, pk_us], by rw [b2, pk_us]; exact hw, ⟨m, hm, a2, by rw [b3, pk_us], by rw [b2, pk_us]; exact hw2⟩, fun j hj => ?_⟩⟩
      rw [show 81 + 2 * k = 80 + 2 * k + 1 by omega, a3 j hj, b5 j hj]
      exact ⟨rfl, Or.inr (by decide)⟩
    by_cases h1 : y < -1
    · rw [if_pos h1, if_pos (inB_1 h1)]; exact ⟨_, σ, μ, rfl, rfl, h⟩
    rw [if_neg h1]
    by_cases h2 : y ≤ nI 1
    · rw [if_pos h2, if_neg (show ¬ (inB y (-1) 1 = false) from by rw [show inB y (-1) 1 = true from inB_3 h1 h2]; decide), nI_clamp (show k < 2 ^ 31 by omega), if_pos (g_in hk (by decide)), if_pos (g_in hk (by decide))]
      by_cases h3 : y = -1
      · subst h3
        rw [if_pos rfl, if_pos (by decide), fn_X7_sheet_L32, if_pos (by decide), fn_X7_sheet_L44, nI_clamp (by omega), if_pos (g_in hk (by decide)), if_neg (by decide)]
        exact fin (-1) 0 (by decide) (Or.inl rfl) (fun _ => rfl)
      · have h0 : ¬ y < 0 := by
          intro q
          have q1 := Int32.lt_iff_toInt_lt.mp q
          have q2 : ¬ y.toInt < (-1 : Int32).toInt := fun q => h1 (Int32.lt_iff_toInt_lt.mpr q)
          rw [show (0 : Int32).toInt = 0 from by decide] at q1
          rw [show (-1 : Int32).toInt = -1 from by decide] at q2
          apply h3
          apply Int32.toInt_inj.mp
          rw [show (-1 : Int32).toInt = -1 from by decide]
          omega
        have hy : y = nI 0 ∨ y = nI 1 := by
          obtain ⟨w, hw, rfl⟩ := nI_of h0
          have := Nat.le_of_not_lt (fun q => nI_ge (a := 1) q hw h2)
          have e : w = 0 ∨ w = 1 := by omega
          rcases e with rfl | rfl
          · exact Or.inl rfl
          · exact Or.inr rfl
        rw [if_neg h3, if_neg h0]
        by_cases h4 : u ≤ nI 24
        · rw [if_pos h4, if_pos h4, fn_X7_sheet_L32, if_neg h0]
          by_cases h5 : 0 ≤ u
          · obtain ⟨m, m1, m2, rfl⟩ := inB_t (lo := 0) (hi := 24) (by decide) (by decide) (inB_3 (Int32.not_lt.mpr h5) h4)
            rw [if_pos h5, if_pos h5, fn_X7_sheet_L44, nI_clamp (show k < 2 ^ 31 by omega), if_pos (g_in hk (by decide)), if_pos (Int32.not_lt.mp h0)]
            exact fin y m m2 (Or.inr hy) (fun q => absurd q h3)
          · rw [if_neg h5, if_neg h5]; exact ⟨_, σ, μ, rfl, rfl, h⟩
        · rw [if_neg h4, if_neg h4]; exact ⟨_, σ, μ, rfl, rfl, h⟩
    · rw [if_neg h2, if_pos (show inB y (-1) 1 = false from inB_2 h2)]; exact ⟨_, σ, μ, rfl, rfl, h⟩
theorem short_eq (z : Int32) : (z <<< (nI 16 &&& 31)) >>> (nI 16 &&& 31) = (Int32.toInt16 z).toInt32 := by
  apply Int32.toInt_inj.mp
  rw [pk_shr _ _ 16 (by decide +kernel), lg_i2s_toInt, Int.shiftRight_eq_div_pow]
  have hn : z.toBitVec.toNat < 2 ^ 32 := z.toBitVec.isLt
  have e1 : (z <<< (nI 16 &&& 31)).toInt = ((z.toBitVec.toNat * 2 ^ 16 % 2 ^ 32 : Nat) : Int).bmod (2 ^ 32) := by
    rw [← pk_shl z (nI 16 &&& 31) 16 (by decide +kernel)]; exact BitVec.toInt_eq_toNat_bmod _
  have e2 : z.toInt = ((z.toBitVec.toNat : Nat) : Int).bmod (2 ^ 32) := BitVec.toInt_eq_toNat_bmod _
  rw [e1, e2]
  generalize z.toBitVec.toNat = n at hn ⊢
  simp only [Int.bmod_def]
  repeat' split
  all_goals omega
theorem short_rg (z : Int32) : -99999 ≤ (Int32.toInt16 z).toInt32.toInt ∧ (Int32.toInt16 z).toInt32.toInt ≤ 99999 := by
  rw [Int16.toInt_toInt32]
  have h1 := Int16.le_toInt z.toInt16
  have h2 := Int16.toInt_lt z.toInt16
  omega
theorem mark_ok {ε : Ev} {σ : Sg} {μ : Mg} (h : Rel ε σ μ) (z y u : Int32) : RStp ε (fn_X6_mark ε z y u σ) (fn_X7_mark z y u μ) := by
  rw [fn_X6_mark, fn_X7_mark, sheet_eq, sheet7_eq, o1_s, o1_s]
  simp only [bI_0, fn_X6_mark_L94, fn_X6_mark_L91]
  cases hz : inB z 0 3 with
  | false => rw [if_pos ff_y, if_pos ff_y]; exact ⟨_, σ, μ, rfl, rfl, h⟩
  | true =>
    obtain ⟨k, k1, k2, rfl⟩ := inB_t (lo := 0) (hi := 3) (by decide) (by decide) hz
    have hk : k < 4 := by omega
    obtain ⟨a1, a2, ⟨m, m1, m2, m3, m4⟩, a3⟩ := h.2.2.2.1 k hk
    rw [if_neg tf_n, if_neg tf_n, nI_clamp (show k < 2 ^ 31 by omega), if_pos (g_in hk (by decide)), if_pos (g_in hk (by decide)), a1, m3, has_eq m1 m2, ob_s, show inB y 0 (nI m - nI 1) = hB m y from rfl]
    simp only [bI_0, a1]
    have fin : ∀ (j : Nat) (w : Int32), j < 24 → (w = -1000000005 ∨ (-99999 ≤ w.toInt ∧ w.toInt ≤ 99999)) → Rel ε (pI σ (80 + 2 * k + 1) j w) (μ.1, μ.2.1, mU μ.2.2 6 (upd (μ.2.2 6) (24 * k + j) w)) := by
      intro j w hj hw
      refine rel_sh h hk (fun x _ q => pI_nc (by omega)) rfl (fun i _ _ q _ => mU_n _ _ q) (fun i _ => by rw [mU_n _ _ (by decide)]) (fun i _ => by rw [mU_n _ _ (by decide)]) (fun p hp => by rw [mU_s, pk_un (by omega)]) ⟨by rw [pI_nc (by omega), mU_n _ _ (by decide)]; exact a1, by rw [mU_n _ _ (by decide)]; exact a2, ⟨m, m1, by rw [pI_nc (by omega)]; exact m2, by rw [mU_n _ _ (by decide)]; exact m3, by rw [mU_n _ _ (by decide)]; exact m4⟩, fun i hi => ?_⟩
      rw [mU_s, show 81 + 2 * k = 80 + 2 * k + 1 by omega]
      by_cases e : i = j
      · rw [e, pI_e, pk_us]; exact ⟨rfl, hw⟩
      · rw [pI_n (Or.inr e), pk_un (by omega), show 80 + 2 * k + 1 = 81 + 2 * k by omega]; exact a3 i hi
    rcases a2 with a2 | a2 | a2
    · rw [a2, if_pos rfl, if_neg (by decide)]; exact ⟨_, σ, μ, rfl, rfl, h⟩
    · rw [a2, if_neg (by decide), if_pos (show (0 : Int32) ≤ nI 0 from by decide)]
      cases hy : hB m y with
      | false => rw [if_pos ff_y, if_pos ff_y]; exact ⟨_, σ, μ, rfl, rfl, h⟩
      | true =>
        obtain ⟨j, hj, rfl⟩ := hB_t (by omega) hy
        rw [if_neg tf_n, if_neg tf_n, if_pos (show nI 0 = 0 from by decide), if_pos (show nI 0 = 0 from by decide)]
        by_cases q : u = -1000000005
        · rw [if_pos q, if_pos q]; exact ⟨_, σ, μ, rfl, rfl, h⟩
        · rw [if_neg q, if_neg q, fn_X7_mark_L63, nI_clamp (show k < 2 ^ 31 by omega), nI_clamp (show j < 2 ^ 31 by omega), if_pos (g_in hk (by decide)), a2, if_neg (show ¬ nI 0 = nI 1 from by decide), fn_X7_mark_L96, nI_clamp (show k < 2 ^ 31 by omega), if_pos (g_in hk (by decide)), a2, if_pos (show nI 0 = 0 from by decide), fn_X7_mark_L126, pk_mul, nI_add, nI_clamp (by omega), if_pos (g_in (show j < 24 by omega) (by decide)), if_pos (g_in (show 24 * k + j < 96 by omega) (by decide)), short_eq]
          exact ⟨_, _, _, rfl, rfl, fin j _ (by omega) (Or.inr (short_rg u))⟩
    · rw [a2, if_neg (by decide), if_pos (show (0 : Int32) ≤ nI 1 from by decide)]
      cases hy : hB m y with
      | false => rw [if_pos ff_y, if_pos ff_y]; exact ⟨_, σ, μ, rfl, rfl, h⟩
      | true =>
        obtain ⟨j, hj, rfl⟩ := hB_t (by omega) hy
        rw [if_neg tf_n, if_neg tf_n, if_neg (show ¬ nI 1 = 0 from by decide), if_neg (show ¬ nI 1 = 0 from by decide), fn_X7_mark_L63, nI_clamp (show k < 2 ^ 31 by omega), nI_clamp (show j < 2 ^ 31 by omega), if_pos (g_in hk (by decide)), a2, if_pos (show nI 1 = nI 1 from rfl)]
        have e96 : fn_X7_mark_L96 (nI k) (nI j) u μ = some (nI 1, (μ.1, μ.2.1, mU μ.2.2 6 (upd (μ.2.2 6) (24 * k + j) u))) := by
          rw [fn_X7_mark_L96, nI_clamp (show k < 2 ^ 31 by omega), if_pos (g_in hk (by decide)), a2, if_neg (show ¬ nI 1 = 0 from by decide), fn_X7_mark_L126, pk_mul, nI_add, nI_clamp (by omega), if_pos (g_in (show 24 * k + j < 96 by omega) (by decide))]
        rw [e96, if_pos (g_in (show j < 24 by omega) (by decide))]
        by_cases q : u = -1000000005
        · rw [if_pos q, if_pos q]
          exact ⟨_, _, _, rfl, rfl, fin j _ (by omega) (Or.inl q)⟩
        · rw [if_neg q, if_neg q]
          by_cases h1 : u < -99999
          · rw [if_pos h1, inB_1 h1, if_pos (by decide)]; exact ⟨_, σ, μ, rfl, rfl, h⟩
          rw [if_neg h1]
          by_cases h2 : u ≤ 99999
          · rw [if_pos h2, inB_3 h1 h2, if_neg (by decide)]
            have q1 := Int32.le_iff_toInt_le.mp (Int32.not_lt.mp h1)
            have q2 := Int32.le_iff_toInt_le.mp h2
            rw [show (-99999 : Int32).toInt = -99999 from by decide] at q1
            rw [show (99999 : Int32).toInt = 99999 from by decide] at q2
            exact ⟨_, _, _, rfl, rfl, fin j _ (by omega) (Or.inr ⟨q1, q2⟩)⟩
          · rw [if_neg h2, inB_2 h2, if_pos (by decide)]; exact ⟨_, σ, μ, rfl, rfl, h⟩
