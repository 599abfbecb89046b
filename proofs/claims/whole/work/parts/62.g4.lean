/-! ===== many days: a day in which nothing moves is followed by its like ===== -/
/-- all that a street needs to go on -/
def StO (ε : Ev) (σ : Sg) (c : Nat) (s : Nat → Int32) (nt n : Nat) : Prop := SR σ c s n ∧ TR ε σ c s nt ∧ (∀ k, k < n → sBd s k) ∧ -20 ≤ (s 4).toInt ∧ (s 4).toInt ≤ 20
theorem dayO {ε : Ev} {c n nt : Nat} {σ : Sg} {s : Nat → Int32} (hc : c < 900) (h : StO ε σ c s nt n) : ∃ σ', fn_X4_goOneDay ε c σ = some (bI (dyB s nt n), σ') ∧ Fr c σ σ' ∧ StO ε σ' c (dayS s nt n) nt n := by
  obtain ⟨h1, h2, h3, h4⟩ := h
  obtain ⟨σ', a1, a2, a3, a4⟩ := day_eq hc h1 h3 h4 h2
  have e4 := dayS_out s nt n h1.1 4 (by omega) (by decide) (by decide)
  exact ⟨σ', a1, a2, a3, a4, fun k hk => sBd_day (h3 k hk), by rw [e4]; exact h4⟩
section QQ
variable {s s' : Nat → Int32}
theorem sd_c (h : ∀ j, 4 ≤ j → s' j = s j) (k : Nat) : sd s' k = sd s k := by unfold sd; rw [h _ (by omega)]
theorem puS_c (h : ∀ j, 4 ≤ j → s' j = s j) (nt k : Nat) : puS s' nt k = puS s nt k := by
  unfold puS pfS
  rw [h (6 + 7 * k + 0) (by omega), h (6 + 7 * k + 1) (by omega), h (6 + 7 * k + 2) (by omega), h (6 + 7 * k + 4) (by omega), lastO_cong (fun j hj => h j (by omega))]
  cases lastO s (nI 0) nt with
  | none => rfl
  | some t =>
    show pushK _ (heldI (wkV _ s' t) _ _) = pushK _ (heldI (wkV _ s t) _ _)
    rw [wkV_cong2 (fun j hj => h j (by omega))]
theorem lfS_c (h : ∀ j, 4 ≤ j → s' j = s j) (nt k : Nat) : lfS s' nt k = lfS s nt k := by
  have hsd : sd s' = sd s := funext (fun j => sd_c h j)
  unfold lfS
  rw [hsd]
  cases nxL (sd s) k with
  | none => rfl
  | some a => simp only [h (6 + 7 * a + 2) (by omega), puS_c h nt a]
theorem rgS_c (h : ∀ j, 4 ≤ j → s' j = s j) (nt n k : Nat) : rgS s' nt n k = rgS s nt n k := by
  have hsd : sd s' = sd s := funext (fun j => sd_c h j)
  unfold rgS
  rw [hsd]
  cases nxR (sd s) (n - (k + 1)) (k + 1) with
  | none => rfl
  | some b => simp only [h (6 + 7 * b + 2) (by omega), puS_c h nt b]
theorem thS_c (h : ∀ j, 4 ≤ j → s' j = s j) (nt n k : Nat) : thS s' nt n k = thS s nt n k := by
  unfold thS
  rw [sd_c h, h 4 (by omega), lfS_c h, rgS_c h]
theorem brs_c (h : ∀ j, 4 ≤ j → s' j = s j) (k : Nat) : brs s' k = brs s k := by unfold brs; rw [h _ (by omega), h _ (by omega), h _ (by omega)]
theorem mvB_c (h : ∀ j, 4 ≤ j → s' j = s j) (t b : Nat → Int32) : ∀ i, mvB t b s' i = mvB t b s i := by
  intro i
  induction i with
  | zero => rfl
  | succ i ih => rw [mvB, mvB, ih, sd_c h]
theorem cm1_c {t b : Int32} {k : Nat} (h : ∀ j, 4 ≤ j → s' j = s j) : ∀ j, 4 ≤ j → cm1 t b s' k j = cm1 t b s k j := by
  intro j hj
  unfold cm1
  rw [sd_c h, h (6 + 7 * k + 4) (by omega), h (6 + 7 * k + 2) (by omega)]
  split
  · unfold upd
    split
    · rfl
    · split
      · rfl
      · exact h j hj
  · exact h j hj
theorem cmS_c {t b : Nat → Int32} (h : ∀ j, 4 ≤ j → s' j = s j) : ∀ i, ∀ j, 4 ≤ j → cmS t b s' i j = cmS t b s i j := by
  intro i
  induction i with
  | zero => exact h
  | succ i ih => intro j hj; rw [cmS, cmS]; exact cm1_c ih j hj
theorem fcS_c (h : ∀ j, 4 ≤ j → s' j = s j) : ∀ i, ∀ j, 4 ≤ j → fcS s' i j = fcS s i j := by
  intro i
  induction i with
  | zero => exact h
  | succ i ih =>
    intro j hj
    rw [fcS, fcS, fc1, fc1, sd_c ih, ih (6 + 7 * i + 4) (by omega)]
    split
    · unfold fallS upd
      split
      · rfl
      · split
        · rfl
        · exact ih j hj
    · exact ih j hj
theorem fcB_c (h : ∀ j, 4 ≤ j → s' j = s j) : ∀ i, fcB s' i = fcB s i := by
  intro i
  induction i with
  | zero => rfl
  | succ i ih => rw [fcB, fcB, ih, sd_c (fcS_c h i), fcS_c h i _ (by omega)]
theorem dyB_c (h : ∀ j, 4 ≤ j → s' j = s j) (nt n : Nat) : dyB s' nt n = dyB s nt n := by
  unfold dyB
  have e1 : thS s' nt n = thS s nt n := funext (fun k => thS_c h nt n k)
  have e2 : brs s' = brs s := funext (fun k => brs_c h k)
  rw [e1, e2, mvB_c h, fcB_c (cmS_c h n)]
end QQ
theorem cmS_q (t b s : Nat → Int32) : ∀ i, mvB t b s i = false → cmS t b s i = s := by
  intro i
  induction i with
  | zero => intro _; rfl
  | succ i ih =>
    intro h
    rw [mvB, Bool.or_eq_false_iff] at h
    rw [cmS, ih h.1, cm1, if_neg (fun q => by
      have h2 := h.2
      rw [q.1, decide_eq_false q.2] at h2
      cases h2)]
theorem day_q {s : Nat → Int32} {nt n : Nat} (h : dyB s nt n = false) : dayS s nt n = reS s n := by
  rw [dyB, Bool.or_eq_false_iff] at h
  rw [dayS]
  rw [cmS_q _ _ s n h.1] at h ⊢
  rw [fcS_f s n h.2, frS_id (fun k => rfl) 9]
/-- k days in which nothing moves -/
def reN (s : Nat → Int32) (n k : Nat) : Nat → Int32 := upd (upd s 3 (s 3 + nI k * smS s 5 n)) 2 (s 2 + nI k)
theorem reN_hi (s : Nat → Int32) (n k : Nat) : ∀ j, 4 ≤ j → reN s n k j = s j := fun j hj => by rw [reN, pk_un (by omega), pk_un (by omega)]
theorem smS_c {s s' : Nat → Int32} (h : ∀ j, 4 ≤ j → s' j = s j) (m : Nat) : ∀ n, smS s' m n = smS s m n := by
  intro n
  induction n with
  | zero => rfl
  | succ n ih => rw [smS, smS, ih, h _ (by omega)]
theorem reN_0 (s : Nat → Int32) (n : Nat) : reN s n 0 = s := by
  funext j
  unfold reN upd
  split
  · rename_i e; subst e; exact add_0 _
  · split
    · rename_i e; subst e; rw [show nI 0 * smS s 5 n = 0 from Int32.zero_mul]; exact add_0 _
    · rfl
theorem reN_s (s : Nat → Int32) (n k : Nat) : reS (reN s n k) n = reN s n (k + 1) := by
  funext j
  unfold reS
  rw [prS_sm, smS_c (reN_hi s n k)]
  unfold reN upd
  by_cases e2 : j = 2
  · subst e2
    simp only [if_true]
    rw [Int32.add_assoc, nI_add]
  · by_cases e3 : j = 3
    · subst e3
      simp only [if_true, show ¬ (3 = 2) from by decide, if_false]
      rw [Int32.add_assoc, show nI (k + 1) = nI k + nI 1 from (nI_add k 1).symm, Int32.add_mul, show nI 1 * smS s 5 n = smS s 5 n from Int32.one_mul _]
    · simp only [e2, e3, if_false]
theorem it_q {s : Nat → Int32} {nt n : Nat} (h : dyB s nt n = false) : ∀ k, itS s nt n k = reN s n k := by
  intro k
  induction k with
  | zero => exact (reN_0 s n).symm
  | succ k ih =>
    rw [itS, ih, day_q (by rw [dyB_c (reN_hi s n k)]; exact h), reN_s]
theorem itS_day (s : Nat → Int32) (nt n : Nat) : ∀ k, itS (dayS s nt n) nt n k = itS s nt n (k + 1) := by
  intro k
  induction k with
  | zero => rfl
  | succ k ih => rw [itS, ih]; rfl
