/-! ===== more props where no crack came change nothing ===== -/
section PP
variable {s s' : Nat → Int32} {k0 : Nat}
theorem sd_p (h : ∀ j, j ≠ 3 → j ≠ 6 + 7 * k0 + 5 → s' j = s j) (k : Nat) : sd s' k = sd s k := by unfold sd; rw [h _ (by omega) (by omega)]
theorem puS_p (h : ∀ j, j ≠ 3 → j ≠ 6 + 7 * k0 + 5 → s' j = s j) (hk0 : k0 < 9) (nt k : Nat) : puS s' nt k = puS s nt k := by
  unfold puS pfS
  rw [h (6 + 7 * k + 0) (by omega) (by omega), h (6 + 7 * k + 1) (by omega) (by omega), h (6 + 7 * k + 2) (by omega) (by omega), h (6 + 7 * k + 4) (by omega) (by omega), lastO_cong (fun j hj => h j (by omega) (by omega))]
  cases lastO s (nI 0) nt with
  | none => rfl
  | some t =>
    show pushK _ (heldI (wkV _ s' t) _ _) = pushK _ (heldI (wkV _ s t) _ _)
    rw [wkV_cong2 (fun j hj => h j (by omega) (by omega))]
theorem lfS_p (h : ∀ j, j ≠ 3 → j ≠ 6 + 7 * k0 + 5 → s' j = s j) (hk0 : k0 < 9) (nt k : Nat) : lfS s' nt k = lfS s nt k := by
  have hsd : sd s' = sd s := funext (fun j => sd_p h j)
  unfold lfS
  rw [hsd]
  cases nxL (sd s) k with
  | none => rfl
  | some a => simp only [h (6 + 7 * a + 2) (by omega) (by omega), puS_p h hk0 nt a]
theorem rgS_p (h : ∀ j, j ≠ 3 → j ≠ 6 + 7 * k0 + 5 → s' j = s j) (hk0 : k0 < 9) (nt n k : Nat) : rgS s' nt n k = rgS s nt n k := by
  have hsd : sd s' = sd s := funext (fun j => sd_p h j)
  unfold rgS
  rw [hsd]
  cases nxR (sd s) (n - (k + 1)) (k + 1) with
  | none => rfl
  | some b => simp only [h (6 + 7 * b + 2) (by omega) (by omega), puS_p h hk0 nt b]
theorem thS_p (h : ∀ j, j ≠ 3 → j ≠ 6 + 7 * k0 + 5 → s' j = s j) (hk0 : k0 < 9) (nt n k : Nat) : thS s' nt n k = thS s nt n k := by
  unfold thS
  rw [sd_p h, h 4 (by omega) (by omega), lfS_p h hk0, rgS_p h hk0]
theorem brs_p (h : ∀ j, j ≠ 3 → j ≠ 6 + 7 * k0 + 5 → s' j = s j) {k : Nat} (hk : k ≠ k0) : brs s' k = brs s k := by unfold brs; rw [h _ (by omega) (by omega), h _ (by omega) (by omega), h _ (by omega) (by omega)]
end PP
/-- alike but for rent and the props of one house, which has more there -/
def EqP (k0 : Nat) (s s' : Nat → Int32) : Prop := (∀ j, j ≠ 3 → j ≠ 6 + 7 * k0 + 5 → s' j = s j) ∧ ∃ p p' : Nat, p ≤ p' ∧ p' ≤ 9 ∧ s (6 + 7 * k0 + 5) = nI p ∧ s' (6 + 7 * k0 + 5) = nI p'
theorem fall_p {k0 : Nat} {s s' : Nat → Int32} (h : EqP k0 s s') (i : Nat) : EqP k0 (fallS s i) (fallS s' i) := by
  obtain ⟨h1, p, p', hp, hp9, e, e'⟩ := h
  refine ⟨fun j a b => ?_, ?_⟩
  · unfold fallS upd
    split
    · rfl
    · split
      · rfl
      · exact h1 j a b
  · by_cases q : k0 = i
    · subst q
      exact ⟨0, 0, by omega, by omega, by rw [fallS, pk_us], by rw [fallS, pk_us]⟩
    · exact ⟨p, p', hp, hp9, by rw [fallS, pk_un (by omega), pk_un (by omega)]; exact e, by rw [fallS, pk_un (by omega), pk_un (by omega)]; exact e'⟩
theorem cm_p {k0 : Nat} {s s' t b b' : Nat → Int32} (h : EqP k0 s s') (hb : ∀ j, j ≠ k0 → b' j = b j) (hq : sd s k0 = true → offI (t k0) (nI 0) - b k0 ≤ 0) (hq' : sd s k0 = true → offI (t k0) (nI 0) - b' k0 ≤ 0) : ∀ i, EqP k0 (cmS t b s i) (cmS t b' s' i) := by
  intro i
  induction i with
  | zero => exact h
  | succ i ih =>
    obtain ⟨h1, p, p', hp, hp9, e, e'⟩ := ih
    have hsd : sd (cmS t b' s' i) i = sd (cmS t b s i) i := sd_p h1 i
    refine ⟨?_, ?_⟩
    · rw [cmS, cmS]
      by_cases q : i = k0
      · subst q
        have n1 : ¬ (sd (cmS t b s i) i = true ∧ ¬ offI (t i) (nI 0) - b i ≤ 0) := fun w => w.2 (hq (by rw [cmS_6] at w; exact w.1))
        have n2 : ¬ (sd (cmS t b' s' i) i = true ∧ ¬ offI (t i) (nI 0) - b' i ≤ 0) := fun w => w.2 (hq' (by rw [hsd, cmS_6] at w; exact w.1))
        rw [cm1, cm1, if_neg n1, if_neg n2]
        exact h1
      · intro j hj1 hj2
        rw [cm1, cm1, hsd, hb i q, h1 (6 + 7 * i + 4) (by omega) (by omega), h1 (6 + 7 * i + 2) (by omega) (by omega)]
        split
        · unfold upd
          split
          · rfl
          · split
            · rfl
            · exact h1 j hj1 hj2
        · exact h1 j hj1 hj2
    · obtain ⟨-, p, p', hp, hp9, e, e'⟩ := h
      exact ⟨p, p', hp, hp9, by rw [cmS_w _ _ _ _ 5 (by decide) (by decide) (by decide)]; exact e, by rw [cmS_w _ _ _ _ 5 (by decide) (by decide) (by decide)]; exact e'⟩
theorem fc_p {k0 : Nat} {s s' : Nat → Int32} (h : EqP k0 s s') : ∀ i, EqP k0 (fcS s i) (fcS s' i) := by
  intro i
  induction i with
  | zero => exact h
  | succ i ih =>
    rw [fcS, fcS, fc1, fc1, sd_p ih.1, ih.1 (6 + 7 * i + 4) (by omega) (by omega)]
    split
    · exact fall_p ih i
    · exact ih
theorem fw_p {k0 : Nat} {s s' : Nat → Int32} {p0 : Nat → Bool} (h : EqP k0 s s') (n k : Nat) : fnB p0 s' n k = fnB p0 s n k := by
  have hsd : sd s' = sd s := funext (fun j => sd_p h.1 j)
  rw [fnB, fnB, fwB, fwB, hsd, h.1 (6 + 7 * k + 2) (by omega) (by omega)]
theorem fn_p {k0 : Nat} {s s' : Nat → Int32} {p0 : Nat → Bool} {n : Nat} (h : EqP k0 s s') : ∀ i, EqP k0 (fnS p0 n s i).1 (fnS p0 n s' i).1 ∧ (fnS p0 n s' i).2 = (fnS p0 n s i).2 := by
  intro i
  induction i with
  | zero => exact ⟨h, rfl⟩
  | succ i ih =>
    rw [fnS, fnS, fw_p ih.1]
    split
    · exact ⟨fall_p ih.1 i, rfl⟩
    · exact ih
theorem fr_p {k0 : Nat} {p0 : Nat → Bool} {n : Nat} : ∀ (f : Nat) {s s' : Nat → Int32}, EqP k0 s s' → EqP k0 (frS p0 n f s) (frS p0 n f s') := by
  intro f
  induction f with
  | zero => intro s s' h; exact h
  | succ f ih =>
    intro s s' h
    obtain ⟨a, b⟩ := fn_p (p0 := p0) (n := n) h n
    rw [frS, frS, b]
    split
    · exact ih a
    · exact a
theorem re_p {k0 n : Nat} {s s' : Nat → Int32} (h : EqP k0 s s') : EqP k0 (reS s n) (reS s' n) := by
  obtain ⟨h1, p, p', hp, hp9, e, e'⟩ := h
  refine ⟨fun j a b => ?_, p, p', hp, hp9, by rw [reS, pk_un (by omega), pk_un (by omega)]; exact e, by rw [reS, pk_un (by omega), pk_un (by omega)]; exact e'⟩
  by_cases q : j = 2
  · rw [q, reS, reS, pk_us, pk_us, h1 2 (by decide) (by omega)]
  · rw [reS, reS, pk_un q, pk_un q, pk_un a, pk_un a]; exact h1 j a b
theorem day_p {k0 nt n : Nat} {s s' : Nat → Int32} (hk0 : k0 < 9) (h : EqP k0 s s') (hq : sd s k0 = true → offI (thS s nt n k0) (nI 0) - brs s k0 ≤ 0) (hq' : sd s k0 = true → offI (thS s nt n k0) (nI 0) - brs s' k0 ≤ 0) : EqP k0 (dayS s nt n) (dayS s' nt n) := by
  have hsd : sd s' = sd s := funext (fun j => sd_p h.1 j)
  have hth : thS s' nt n = thS s nt n := funext (fun j => thS_p h.1 hk0 nt n j)
  rw [dayS, dayS, hsd, hth]
  exact re_p (fr_p 10 (fc_p (cm_p h (fun j hj => brs_p h.1 hj) hq hq' n) n))
theorem brs_le {s s' : Nat → Int32} {k : Nat} (h : EqP k s s') (hb : sBd s k) : ∃ v v' : Nat, v ≤ v' ∧ v' ≤ 999 ∧ brs s k = nI v ∧ brs s' k = nI v' := by
  obtain ⟨kd, w, wl, cr, pr, b0, b0', b1, b1', b1'', b3, b3', b4, b4', b5, b5', b2, b2'⟩ := hb
  obtain ⟨h1, p, p', hp, hp9, e, e'⟩ := h
  unfold brs bearK
  rw [h1 (6 + 7 * k + 0) (by omega) (by omega), h1 (6 + 7 * k + 3) (by omega) (by omega), e, e', b3]
  split
  · exact ⟨wl + 10 * p + 5, wl + 10 * p' + 5, by omega, by omega, by simp only [nI_add, pk_mul], by simp only [nI_add, pk_mul]⟩
  · split
    · exact ⟨2 * (wl + 10 * p), 2 * (wl + 10 * p'), by omega, by omega, by simp only [nI_add, pk_mul], by simp only [nI_add, pk_mul]⟩
    · split
      · exact ⟨wl + 10 * p + 5, wl + 10 * p' + 5, by omega, by omega, by simp only [nI_add, pk_mul], by simp only [nI_add, pk_mul]⟩
      · split
        · exact ⟨2 * (wl + 10 * p), 2 * (wl + 10 * p'), by omega, by omega, by simp only [nI_add, pk_mul], by simp only [nI_add, pk_mul]⟩
        · split
          · exact ⟨999, 999, by omega, by omega, rfl, rfl⟩
          · exact ⟨wl + 10 * p, wl + 10 * p', by omega, by omega, by simp only [nI_add, pk_mul], by simp only [nI_add, pk_mul]⟩
theorem sub_le0 {a v : Nat} (ha : a < 100000) (hv : v < 100000) : (nI a - nI v ≤ 0) ↔ a ≤ v := by
  by_cases h : v < a
  · rw [pk_sub (by omega)]
    exact ⟨fun q => absurd (show nI (a - v) ≤ nI 0 from q) (nI_ge (by omega) (by omega)), fun q => absurd q (by omega)⟩
  · refine ⟨fun _ => by omega, fun _ => ?_⟩
    by_cases e : a = v
    · subst e; rw [pk_sub (by omega), Nat.sub_self]; decide
    · exact Int32.le_of_lt (pk_sneg (by omega) (by omega))
theorem day_pb {k0 nt n : Nat} {s s' : Nat → Int32} (hn : n ≤ 9) (hk : k0 < n) (hb : ∀ j, j < n → sBd s j) (hs : -20 ≤ (s 4).toInt ∧ (s 4).toInt ≤ 20) (h : EqP k0 s s') (hq : sd s k0 = true → offI (thS s nt n k0) (nI 0) - brs s k0 ≤ 0) : EqP k0 (dayS s nt n) (dayS s' nt n) := by
  refine day_p (by omega) h hq (fun w => ?_)
  have q := hq w
  have h2 := thS_bd (nt := nt) hb hs hk
  obtain ⟨a, ha, ea⟩ := off_M (M := 2026) (by decide) h2.1 h2.2
  obtain ⟨v, v', hv, hv9, ev, ev'⟩ := brs_le h (hb k0 hk)
  rw [ea, ev] at q
  rw [ea, ev']
  exact (sub_le0 (by omega) (by omega)).mpr (Nat.le_trans ((sub_le0 (by omega) (by omega)).mp q) hv)
/-- cracks go up alone -/
theorem cm_4 (t b s : Nat → Int32) (k : Nat) : ∀ n, k < n → cmS t b s n (6 + 7 * k + 4) = if sd s k = true ∧ ¬ offI (t k) (nI 0) - b k ≤ 0 then heldI (s (6 + 7 * k + 4) + (offI (t k) (nI 0) - b k)) (nI 0) (nI 999) else s (6 + 7 * k + 4) := by
  intro n
  induction n with
  | zero => intro h; omega
  | succ n ih =>
    intro h
    rw [cmS]
    by_cases e : k = n
    · subst e
      rw [cm1, cmS_6, cmS_ge t b s k 4 (by decide) k (Nat.le_refl k), cmS_ge t b s k 2 (by decide) k (Nat.le_refl k)]
      split
      · rw [pk_un (by omega), pk_us]
      · exact cmS_ge t b s k 4 (by decide) k (Nat.le_refl k)
    · rw [← ih (by omega), cm1]
      split
      · rw [pk_un (by omega), pk_un (by omega)]
      · rfl
theorem fall_4 (s : Nat → Int32) (i k : Nat) : fallS s i (6 + 7 * k + 4) = s (6 + 7 * k + 4) := by rw [fallS, pk_un (by omega), pk_un (by omega)]
theorem fcS_4 (s : Nat → Int32) (k : Nat) : ∀ i, fcS s i (6 + 7 * k + 4) = s (6 + 7 * k + 4) := by
  intro i
  induction i with
  | zero => rfl
  | succ i ih =>
    rw [fcS, fc1]
    split
    · rw [fall_4, ih]
    · exact ih
theorem fnS_4 (p0 : Nat → Bool) (n : Nat) (s : Nat → Int32) (k : Nat) : ∀ i, (fnS p0 n s i).1 (6 + 7 * k + 4) = s (6 + 7 * k + 4) := by
  intro i
  induction i with
  | zero => rfl
  | succ i ih =>
    rw [fnS]
    split
    · show fallS (fnS p0 n s i).1 i _ = _
      rw [fall_4, ih]
    · exact ih
theorem frS_4 (p0 : Nat → Bool) (n k : Nat) : ∀ (f : Nat) (s : Nat → Int32), frS p0 n f s (6 + 7 * k + 4) = s (6 + 7 * k + 4) := by
  intro f
  induction f with
  | zero => intro s; rfl
  | succ f ih =>
    intro s
    rw [frS]
    split
    · rw [ih, fnS_4]
    · rw [fnS_4]
theorem day_4 (s : Nat → Int32) (nt n k : Nat) : dayS s nt n (6 + 7 * k + 4) = cmS (thS s nt n) (brs s) s n (6 + 7 * k + 4) := by
  rw [dayS, reS, pk_un (by omega), pk_un (by omega), frS_4, fcS_4]
theorem day_cr {s : Nat → Int32} {nt n k : Nat} (hk : k < n) (hb : ∀ j, j < n → sBd s j) (hs : -20 ≤ (s 4).toInt ∧ (s 4).toInt ≤ 20) : ∃ cr cr' : Nat, s (6 + 7 * k + 4) = nI cr ∧ dayS s nt n (6 + 7 * k + 4) = nI cr' ∧ cr ≤ cr' ∧ cr' ≤ 999 ∧ (cr < 999 → cr' = cr → sd s k = true → offI (thS s nt n k) (nI 0) - brs s k ≤ 0) := by
  have h2 := thS_bd (nt := nt) hb hs hk
  obtain ⟨a, ha, ea⟩ := off_M (M := 2026) (by decide) h2.1 h2.2
  obtain ⟨v, hv, ev⟩ := brs_nI (hb k hk)
  obtain ⟨kd, w, wl, cr, pr, b0, b0', b1, b1', b1'', b3, b3', b4, b4', b5, b5', b2, b2'⟩ := hb k hk
  rw [day_4, cm_4 _ _ _ _ _ hk, ea, ev, b4]
  by_cases c : sd s k = true ∧ ¬ nI a - nI v ≤ 0
  · have hav : ¬ a ≤ v := fun q => c.2 ((sub_le0 (by omega) (by omega)).mpr q)
    rw [if_pos c, pk_sub (by omega), nI_add]
    by_cases q : cr + (a - v) ≤ 999
    · exact ⟨cr, cr + (a - v), rfl, held_in _ q, by omega, q, fun _ e => by omega⟩
    · refine ⟨cr, 999, rfl, ?_, by omega, by omega, fun _ e => by omega⟩
      unfold heldI
      rw [if_neg (show ¬ nI (cr + (a - v)) < nI 0 from nI_pos (by omega)), if_pos (nI_lt (by omega) (by omega))]
  · rw [if_neg c]
    refine ⟨cr, cr, rfl, rfl, by omega, by omega, fun _ _ w => ?_⟩
    refine Decidable.byContradiction (fun q => c ⟨w, q⟩)
theorem fcS_k {s : Nat → Int32} {k : Nat} (h1 : sd s k = true) (h2 : nI 100 ≤ s (6 + 7 * k + 4)) : ∀ i, sd (fcS s i) k = (if k < i then false else true) := by
  intro i
  induction i with
  | zero => rw [if_neg (by omega)]; exact h1
  | succ i ih =>
    rw [fcS, fc1]
    by_cases e : k = i
    · subst e
      rw [if_neg (by omega)] at ih
      rw [if_pos ⟨ih, by rw [fcS_4]; exact h2⟩, fall_sd, if_pos rfl, if_pos (by omega)]
    · have E : sd (fcS s i) k = (if k < i + 1 then false else true) := by
        rw [ih]
        by_cases q : k < i
        · rw [if_pos q, if_pos (by omega)]
        · rw [if_neg q, if_neg (by omega)]
      split
      · rw [fall_sd, if_neg e]; exact E
      · exact E
theorem day_fall {s : Nat → Int32} {nt n k : Nat} (hk : k < n) (hb : ∀ j, j < n → sBd s j) (hs : -20 ≤ (s 4).toInt ∧ (s 4).toInt ≤ 20) (h1 : sd s k = true) (h2 : nI 100 ≤ s (6 + 7 * k + 4)) : sd (dayS s nt n) k = false := by
  obtain ⟨c, c', e, e', hc, hc9, -⟩ := day_cr (nt := nt) hk hb hs
  rw [e] at h2
  have hc1 : 100 ≤ c := (nI_leI (by decide) (by omega)).mp h2
  have F := fcS_k (s := cmS (thS s nt n) (brs s) s n) (k := k) (by rw [cmS_6]; exact h1) (by rw [← day_4, e']; exact nI_le (by omega) (by omega)) n
  rw [if_pos hk] at F
  cases hq : sd (dayS s nt n) k with
  | false => rfl
  | true =>
    have e2 : sd (dayS s nt n) k = sd (frS (sd s) n 10 (fcS (cmS (thS s nt n) (brs s) s n) n)) k := by
      rw [dayS]; unfold sd; rw [reS, pk_un (by omega), pk_un (by omega)]
    rw [e2] at hq
    have := frS_sd _ _ _ _ _ hq
    rw [F] at this
    cases this
theorem it_bd {s : Nat → Int32} {nt n : Nat} (hn : n ≤ 9) (hb : ∀ j, j < n → sBd s j) (hs : -20 ≤ (s 4).toInt ∧ (s 4).toInt ≤ 20) : ∀ i, (∀ j, j < n → sBd (itS s nt n i) j) ∧ -20 ≤ (itS s nt n i 4).toInt ∧ (itS s nt n i 4).toInt ≤ 20 := by
  intro i
  refine ⟨?_, by rw [itS_out s nt n hn 4 (by omega) (by decide) (by decide)]; exact hs⟩
  induction i with
  | zero => exact hb
  | succ i ih => exact fun j hj => sBd_day (ih j hj)
theorem it_cr {s : Nat → Int32} {nt n k : Nat} (hn : n ≤ 9) (hk : k < n) (hb : ∀ j, j < n → sBd s j) (hs : -20 ≤ (s 4).toInt ∧ (s 4).toInt ≤ 20) (a : Nat) : ∀ b, ∃ c c' : Nat, itS s nt n a (6 + 7 * k + 4) = nI c ∧ itS s nt n (a + b) (6 + 7 * k + 4) = nI c' ∧ c ≤ c' ∧ c' ≤ 999 := by
  intro b
  induction b with
  | zero =>
    obtain ⟨kd, w, wl, cr, pr, b0, b0', b1, b1', b1'', b3, b3', b4, b4', -⟩ := (it_bd (nt := nt) hn hb hs a).1 k hk
    exact ⟨cr, cr, b4, b4, Nat.le_refl _, b4'⟩
  | succ b ih =>
    obtain ⟨c, c', e, e', h1, h2⟩ := ih
    obtain ⟨q1, q2⟩ := it_bd (nt := nt) hn hb hs (a + b)
    obtain ⟨d, d', f, f', g, g9, -⟩ := day_cr (nt := nt) hk q1 q2
    have : c' = d := nI_j (by omega) (by omega) (e'.symm.trans f)
    exact ⟨c, d', e, f', by omega, g9⟩
/-- more props on a house that did not crack up to the first fall: one falls all the same -/
theorem prop_no {s : Nat → Int32} {nt n m i k q : Nat} (hn : n ≤ 9) (hk : k < n) (hb : ∀ j, j < n → sBd s j) (hs : -20 ≤ (s 4).toInt ∧ (s 4).toInt ≤ 20) (hi : i ≤ m) (h1 : cntS (itS s nt n i) n < cntS s n) (h3 : itS s nt n i (6 + 7 * k + 4) ≤ s (6 + 7 * k + 4)) (hi1 : 1 ≤ i) (hp : ∃ p, s (6 + 7 * k + 5) = nI p ∧ p ≤ q) (hq9 : q ≤ 9) : keepB (upd s (6 + 7 * k + 5) (nI q)) nt n m = false := by
  have hE : EqP k s (upd s (6 + 7 * k + 5) (nI q)) := by
    obtain ⟨p, e, hpq⟩ := hp
    exact ⟨fun j _ b => pk_un b, p, q, hpq, hq9, e, pk_us⟩
  have hsd0 : sd (upd s (6 + 7 * k + 5) (nI q)) = sd s := funext (fun j => sd_p hE.1 j)
  have hcnt0 : cntS (upd s (6 + 7 * k + 5) (nI q)) n = cntS s n := by unfold cntS; rw [hsd0]
  cases hkb : keepB (upd s (6 + 7 * k + 5) (nI q)) nt n m with
  | false => rfl
  | true =>
    exfalso
    have K := (ff_keep hn).mpr (of_decide_eq_true hkb)
    obtain ⟨kd, w, wl, cr, pr, b0, b0', b1, b1', b1'', b3, b3', b4, b4', -⟩ := hb k hk
    by_cases A : sd s k = true ∧ 100 ≤ cr
    · have hb' : ∀ j, j < n → sBd (upd s (6 + 7 * k + 5) (nI q)) j := by
        intro j hj
        by_cases e : j = k
        · subst e
          exact bdS (hb j hj) (by decide) (by decide) (show inB (nI q) 0 9 = true from inB_3 (nI_pos (by omega)) (show nI q ≤ nI 9 from nI_le hq9 (by decide)))
        · obtain ⟨kd, w, wl, cr, pr, b0, b0', b1, b1', b1'', b3, b3', b4, b4', b5, b5', b2, b2'⟩ := hb j hj
          exact ⟨kd, w, wl, cr, pr, by rw [pk_un (by omega)]; exact b0, b0', by rw [pk_un (by omega)]; exact b1, b1', b1'', by rw [pk_un (by omega)]; exact b3, b3', by rw [pk_un (by omega)]; exact b4, b4', by rw [pk_un (by omega)]; exact b5, b5', by rw [pk_un (by omega)]; exact b2, by rw [pk_un (by omega)]; exact b2'⟩
      have F := day_fall (nt := nt) hk hb' (by rw [pk_un (by omega)]; exact hs) (by rw [hsd0]; exact A.1) (by rw [pk_un (by omega), b4]; exact nI_le A.2 (by omega))
      have K1 := K 1 (by omega)
      rw [cnt_st _ n hn, cnt_st _ n hn] at K1
      have S := stN_same (s := upd s (6 + 7 * k + 5) (nI q)) (s' := itS (upd s (6 + 7 * k + 5) (nI q)) nt n 1) (fun j hj => it_sd 1 hj) n K1 k hk
      rw [hsd0, A.1] at S
      have S : sd (dayS (upd s (6 + 7 * k + 5) (nI q)) nt n) k = true := S
      rw [F] at S
      cases S
    · have E : ∀ j, j ≤ i → EqP k (itS s nt n j) (itS (upd s (6 + 7 * k + 5) (nI q)) nt n j) := by
        intro j
        induction j with
        | zero => intro _; exact hE
        | succ j ih =>
          intro hj
          obtain ⟨q1, q2⟩ := it_bd (nt := nt) hn hb hs j
          refine day_pb hn hk q1 q2 (ih (by omega)) (fun ws => ?_)
          have ws0 : sd s k = true := it_sd j ws
          have hcr : cr < 100 := Nat.lt_of_not_le (fun w => A ⟨ws0, w⟩)
          obtain ⟨d, d', f, f', g, g9, G⟩ := day_cr (nt := nt) hk q1 q2
          obtain ⟨c1, c1', x1, x1', y1, z1⟩ := it_cr (nt := nt) hn hk hb hs 0 j
          obtain ⟨c2, c2', x2, x2', y2, z2⟩ := it_cr (nt := nt) hn hk hb hs (j + 1) (i - (j + 1))
          rw [Nat.zero_add] at x1'
          rw [show j + 1 + (i - (j + 1)) = i by omega] at x2'
          have t1 : c1 = cr := nI_j (by omega) (by omega) (x1.symm.trans b4)
          have t2 : c1' = d := nI_j (by omega) (by omega) (x1'.symm.trans f)
          have t3 : c2 = d' := nI_j (by omega) (by omega) (x2.symm.trans f')
          rw [x2', b4] at h3
          have t4 : c2' ≤ cr := (nI_leI (by omega) (by omega)).mp h3
          exact G (by omega) (by omega) ws
      have hsdi : sd (itS (upd s (6 + 7 * k + 5) (nI q)) nt n i) = sd (itS s nt n i) := funext (fun j => sd_p (E i (Nat.le_refl i)).1 j)
      have Ki := K i hi
      unfold cntS at Ki h1
      rw [hsdi, hsd0] at Ki
      omega
