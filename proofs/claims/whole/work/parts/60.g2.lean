/-! ===== bounds, and the day ===== -/
theorem off_M {z : Int32} {M : Nat} (hM : M < 100000) (h1 : -(M : Int) ≤ z.toInt) (h2 : z.toInt ≤ M) : ∃ a : Nat, a ≤ M ∧ offI z (nI 0) = nI a := by
  unfold offI
  have e0 : (nI 0).toInt = 0 := nI_toInt (by decide)
  by_cases h : z < nI 0
  · rw [if_pos h]
    have hz := Int32.lt_iff_toInt_lt.mp h
    refine ⟨(-z.toInt).toNat, by omega, ?_⟩
    apply Int32.toInt_inj.mp
    rw [nI_toInt (by omega), Int32.toInt_sub, e0, Int.bmod_eq_of_le (by omega) (by omega)]
    omega
  · rw [if_neg h]
    have hz : ¬ z.toInt < (nI 0).toInt := fun q => h (Int32.lt_iff_toInt_lt.mpr q)
    refine ⟨z.toInt.toNat, by omega, ?_⟩
    rw [show nI 0 = 0 from rfl, Int32.sub_zero]
    apply Int32.toInt_inj.mp
    rw [nI_toInt (by omega)]
    omega
theorem pushK_nI {kd : Int32} {u : Nat} (hu : u ≤ 999) : ∃ v, v ≤ 2006 ∧ pushK kd (nI u) = nI v := by
  unfold pushK
  split
  · exact ⟨u / 2, by omega, pk_div (by omega) (by decide) (by decide)⟩
  · split
    · exact ⟨u + 4, by omega, nI_add u 4⟩
    · split
      · rw [pk_div (by omega) (by decide) (by decide)]
        by_cases h : u / 2 ≤ 5
        · rw [if_pos (nI_le h (by decide))]; exact ⟨0, by omega, rfl⟩
        · rw [if_neg (nI_ge (by omega) (by omega)), pk_sub (by omega)]; exact ⟨u / 2 - 5, by omega, rfl⟩
      · split
        · exact ⟨2 * (u + 4), by omega, by rw [nI_add, pk_mul]⟩
        · split
          · exact ⟨0, by omega, rfl⟩
          · exact ⟨u, by omega, rfl⟩
theorem puS_nI {s : Nat → Int32} {nt k : Nat} (hb : sBd s k) : ∃ v, v ≤ 2006 ∧ puS s nt k = nI v := by
  obtain ⟨kd, w, wl, cr, pr, b0, b0', b1, b1', b1'', b3, b3', b4, b4', b5, b5', b2, b2'⟩ := hb
  unfold puS pfS
  split
  · obtain ⟨a, ha, ea⟩ := off_ab b2 b2'
    have hwa : w * a ≤ 99 * 50 := Nat.mul_le_mul b1'' ha
    rw [b1, ea, pk_mul, pk_div (by omega) (by decide) (by decide)]
    exact pushK_nI (by omega)
  · obtain ⟨u, hu, e⟩ := held_nI (wkV (nmP (s (6 + 7 * k + 1)) (offI (s (6 + 7 * k + 2)) (nI 0)) (s (6 + 7 * k + 4))) s ‹_›)
    rw [e]
    exact pushK_nI hu
theorem lfS_nI {s : Nat → Int32} {nt n k : Nat} (hb : ∀ j, j < n → sBd s j) (hk : k < n) : ∃ v, v ≤ 2006 ∧ lfS s nt k = nI v := by
  unfold lfS
  split
  · exact ⟨0, by omega, rfl⟩
  · rename_i a ha
    have h1 := nxL_some ha
    split
    · exact ⟨0, by omega, rfl⟩
    · exact puS_nI (hb a (by omega))
theorem rgS_nI {s : Nat → Int32} {nt n k : Nat} (hb : ∀ j, j < n → sBd s j) (hk : k < n) : ∃ v, v ≤ 2006 ∧ rgS s nt n k = nI v := by
  unfold rgS
  split
  · exact ⟨0, by omega, rfl⟩
  · rename_i b hb2
    have h1 := nxR_lt2 hb2
    split
    · exact ⟨0, by omega, rfl⟩
    · exact puS_nI (hb b (by omega))
theorem thS_bd {s : Nat → Int32} {nt n k : Nat} (hb : ∀ j, j < n → sBd s j) (hs : -20 ≤ (s 4).toInt ∧ (s 4).toInt ≤ 20) (hk : k < n) : -2026 ≤ (thS s nt n k).toInt ∧ (thS s nt n k).toInt ≤ 2026 := by
  unfold thS
  split
  · obtain ⟨u, hu, eu⟩ := lfS_nI (nt := nt) hb hk
    obtain ⟨v, hv, ev⟩ := rgS_nI (nt := nt) hb hk
    rw [eu, ev, Int32.toInt_sub, Int32.toInt_add, nI_toInt (by omega), nI_toInt (by omega), Int.bmod_eq_of_le (n := (s 4).toInt + u) (by omega) (by omega), Int.bmod_eq_of_le (by omega) (by omega)]
    omega
  · rw [nI_toInt (by decide)]; omega
theorem brs_nI {s : Nat → Int32} {k : Nat} (hb : sBd s k) : ∃ v, v ≤ 999 ∧ brs s k = nI v := by
  obtain ⟨kd, w, wl, cr, pr, b0, b0', b1, b1', b1'', b3, b3', b4, b4', b5, b5', b2, b2'⟩ := hb
  unfold brs bearK
  rw [b3, b5, pk_mul, nI_add]
  split
  · exact ⟨wl + 10 * pr + 5, by omega, nI_add _ 5⟩
  · split
    · exact ⟨2 * (wl + 10 * pr), by omega, pk_mul 2 _⟩
    · split
      · exact ⟨wl + 10 * pr + 5, by omega, nI_add _ 5⟩
      · split
        · exact ⟨2 * (wl + 10 * pr), by omega, pk_mul 2 _⟩
        · split
          · exact ⟨999, by omega, rfl⟩
          · exact ⟨wl + 10 * pr, by omega, rfl⟩
theorem over_ok {s : Nat → Int32} {nt n k : Nat} (hb : ∀ j, j < n → sBd s j) (hs : -20 ≤ (s 4).toInt ∧ (s 4).toInt ≤ 20) (hk : k < n) : ¬ s (6 + 7 * k + 4) + (offI (thS s nt n k) (nI 0) - brs s k) < 0 ∨ offI (thS s nt n k) (nI 0) - brs s k ≤ 0 := by
  have h2 := thS_bd (nt := nt) hb hs hk
  obtain ⟨a, ha, ea⟩ := off_M (M := 2026) (by decide) h2.1 h2.2
  obtain ⟨v, hv, ev⟩ := brs_nI (hb k hk)
  obtain ⟨kd, w, wl, cr, pr, b0, b0', b1, b1', b1'', b3, b3', b4, b4', b5, b5', b2, b2'⟩ := hb k hk
  rw [ea, ev, b4]
  by_cases h : v < a
  · left
    rw [pk_sub (by omega), nI_add]
    exact nI_pos (by omega)
  · right
    by_cases e : a = v
    · subst e; rw [pk_sub (by omega), Nat.sub_self]; decide
    · exact Int32.le_of_lt (pk_sneg (by omega) (by omega))
theorem sBd_upd4 {s : Nat → Int32} {i k : Nat} (h : sBd s k) (z : Int32) : sBd (upd s (6 + 7 * i + 4) (heldI z (nI 0) (nI 999))) k := by
  obtain ⟨kd, w, wl, cr, pr, b0, b0', b1, b1', b1'', b3, b3', b4, b4', b5, b5', b2, b2'⟩ := h
  obtain ⟨u, hu, eu⟩ := held_nI z
  by_cases e : k = i
  · subst e
    exact ⟨kd, w, wl, u, pr, by rw [pk_un (by omega)]; exact b0, b0', by rw [pk_un (by omega)]; exact b1, b1', b1'', by rw [pk_un (by omega)]; exact b3, b3', by rw [pk_us]; exact eu, hu, by rw [pk_un (by omega)]; exact b5, b5', by rw [pk_un (by omega)]; exact b2, by rw [pk_un (by omega)]; exact b2'⟩
  · exact ⟨kd, w, wl, cr, pr, by rw [pk_un (by omega)]; exact b0, b0', by rw [pk_un (by omega)]; exact b1, b1', b1'', by rw [pk_un (by omega)]; exact b3, b3', by rw [pk_un (by omega)]; exact b4, b4', by rw [pk_un (by omega)]; exact b5, b5', by rw [pk_un (by omega)]; exact b2, by rw [pk_un (by omega)]; exact b2'⟩
theorem sBd_upd2 {s : Nat → Int32} {i k : Nat} (h : sBd s k) (z : Int32) : sBd (upd s (6 + 7 * i + 2) (heldI z (-50) (nI 50))) k := by
  obtain ⟨kd, w, wl, cr, pr, b0, b0', b1, b1', b1'', b3, b3', b4, b4', b5, b5', b2, b2'⟩ := h
  by_cases e : k = i
  · subst e
    exact ⟨kd, w, wl, cr, pr, by rw [pk_un (by omega)]; exact b0, b0', by rw [pk_un (by omega)]; exact b1, b1', b1'', by rw [pk_un (by omega)]; exact b3, b3', by rw [pk_un (by omega)]; exact b4, b4', by rw [pk_un (by omega)]; exact b5, b5', by rw [pk_us]; exact (held_50 z).1, by rw [pk_us]; exact (held_50 z).2⟩
  · exact ⟨kd, w, wl, cr, pr, by rw [pk_un (by omega)]; exact b0, b0', by rw [pk_un (by omega)]; exact b1, b1', b1'', by rw [pk_un (by omega)]; exact b3, b3', by rw [pk_un (by omega)]; exact b4, b4', by rw [pk_un (by omega)]; exact b5, b5', by rw [pk_un (by omega)]; exact b2, by rw [pk_un (by omega)]; exact b2'⟩
theorem sBd_fall {s : Nat → Int32} {i k : Nat} (h : sBd s k) : sBd (fallS s i) k := by
  obtain ⟨kd, w, wl, cr, pr, b0, b0', b1, b1', b1'', b3, b3', b4, b4', b5, b5', b2, b2'⟩ := h
  have f : ∀ w, w < 5 → fallS s i (6 + 7 * k + w) = s (6 + 7 * k + w) := fun w hw => by rw [fallS, pk_un (by omega), pk_un (by omega)]
  by_cases e : k = i
  · subst e
    exact ⟨kd, w, wl, cr, 0, by rw [f 0 (by decide)]; exact b0, b0', by rw [f 1 (by decide)]; exact b1, b1', b1'', by rw [f 3 (by decide)]; exact b3, b3', by rw [f 4 (by decide)]; exact b4, b4', by rw [fallS, pk_us], by omega, by rw [f 2 (by decide)]; exact b2, by rw [f 2 (by decide)]; exact b2'⟩
  · exact ⟨kd, w, wl, cr, pr, by rw [f 0 (by decide)]; exact b0, b0', by rw [f 1 (by decide)]; exact b1, b1', b1'', by rw [f 3 (by decide)]; exact b3, b3', by rw [f 4 (by decide)]; exact b4, b4', by rw [fallS, pk_un (by omega), pk_un (by omega)]; exact b5, b5', by rw [f 2 (by decide)]; exact b2, by rw [f 2 (by decide)]; exact b2'⟩
theorem sBd_cm {t b s : Nat → Int32} {k : Nat} (h : sBd s k) : ∀ i, sBd (cmS t b s i) k := by
  intro i
  induction i with
  | zero => exact h
  | succ i ih =>
    rw [cmS, cm1]
    split
    · exact sBd_upd2 (sBd_upd4 ih _) _
    · exact ih
theorem sBd_fc {s : Nat → Int32} {k : Nat} (h : sBd s k) : ∀ i, sBd (fcS s i) k := by
  intro i
  induction i with
  | zero => exact h
  | succ i ih =>
    rw [fcS, fc1]
    split
    · exact sBd_fall ih
    · exact ih
theorem sBd_fn {p0 : Nat → Bool} {n : Nat} {s : Nat → Int32} {k : Nat} (h : sBd s k) : ∀ i, sBd (fnS p0 n s i).1 k := by
  intro i
  induction i with
  | zero => exact h
  | succ i ih =>
    rw [fnS]
    split
    · exact sBd_fall ih
    · exact ih
theorem sBd_fr {p0 : Nat → Bool} {n : Nat} {k : Nat} : ∀ (f : Nat) {s : Nat → Int32}, sBd s k → sBd (frS p0 n f s) k := by
  intro f
  induction f with
  | zero => intro s h; exact h
  | succ f ih =>
    intro s h
    rw [show frS p0 n (f + 1) s = if (fnS p0 n s n).2 then frS p0 n f (fnS p0 n s n).1 else (fnS p0 n s n).1 from rfl]
    split
    · exact ih (sBd_fn h n)
    · exact sBd_fn h n
theorem sBd_re {s : Nat → Int32} {n k : Nat} (h : sBd s k) : sBd (reS s n) k := by
  obtain ⟨kd, w, wl, cr, pr, b0, b0', b1, b1', b1'', b3, b3', b4, b4', b5, b5', b2, b2'⟩ := h
  have f : ∀ w, reS s n (6 + 7 * k + w) = s (6 + 7 * k + w) := fun w => by rw [reS, pk_un (by omega), pk_un (by omega)]
  exact ⟨kd, w, wl, cr, pr, by rw [f]; exact b0, b0', by rw [f]; exact b1, b1', b1'', by rw [f]; exact b3, b3', by rw [f]; exact b4, b4', by rw [f]; exact b5, b5', by rw [f]; exact b2, by rw [f]; exact b2'⟩
theorem sBd_day {s : Nat → Int32} {nt n k : Nat} (h : sBd s k) : sBd (dayS s nt n) k := sBd_re (sBd_fr 10 (sBd_fc (sBd_cm h n) n))
