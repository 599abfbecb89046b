theorem ob_s {α β γ : Type} {a : α} {b : β} {f : α → β → Option γ} : ob (some (a, b)) f = f a b := rfl
theorem o1_s {α γ : Type} {a : α} {f : α → Option γ} : o1 (some a) f = f a := rfl
theorem oq_s {α γ : Type} {a : α} {x : Option γ} {f : α → Option γ} : oq (some a) x f = f a := rfl
theorem oq_n {α γ : Type} {x : Option γ} {f : α → Option γ} : oq none x f = x := rfl
theorem ite_so {γ : Type} {p : Prop} [Decidable p] {a b : Int32} {σ : γ} : (if p then some (a, σ) else some (b, σ)) = some (if p then a else b, σ) := by split <;> rfl
theorem bearing_eq {ε : Ev} {c k : Nat} {σ : Sg} {s : Nat → Int32} (h : hR σ c k s) : fn_X0_bearing ε (c + 7 + k) σ = some (brs s k, σ) := by
  have e0 := h.1 0 (by decide)
  have e3 := h.1 3 (by decide)
  have e5 := h.1 5 (by decide)
  simp only [fn_X0_bearing, fn_X0_bearing_L52, fn_X0_bearing_L56, e0, e3, e5, brs, bearK, ite_so]
  repeat' split
  all_goals simp_all
theorem sub_5 (x : Int32) : nI 99 - x - nI 5 = nI 94 - x := by
  rw [Int32.sub_eq_add_neg, Int32.sub_eq_add_neg, Int32.sub_eq_add_neg, Int32.add_assoc, Int32.add_comm (-x), ← Int32.add_assoc, show nI 99 + -nI 5 = nI 94 from by decide]
theorem worth_eq {ε : Ev} {c k : Nat} {σ : Sg} {s : Nat → Int32} (h : hR σ c k s) : fn_X0_worth ε (c + 7 + k) σ = some (wth s k, σ) := by
  have e0 := h.1 0 (by decide)
  have e3 := h.1 3 (by decide)
  simp only [fn_X0_worth, e0, e3, wth, worthK, ite_so]
  repeat' split
  all_goals simp_all
  all_goals exact sub_5 _
theorem cracks_L {ε : Ev} {c : Nat} {σ : Sg} {s : Nat → Int32} {n : Nat} (h : SR σ c s n) (k30 : Int32 → Sg → Option (Int32 × Sg)) : ∀ (f i : Nat), i ≤ n → n + 1 ≤ i + f → fn_X4_cracks_L4 ε c k30 f (smS s 4 i) (nI i) σ = k30 (smS s 4 n) σ := by
  have hn9 := h.1
  intro f
  induction f with
  | zero => intro i h1 h2; omega
  | succ f ih =>
    intro i h1 h2
    have hm : σ.1 c 6 = nI n := h.2.2.1
    simp (disch := omega) only [fn_X4_cracks_L4, hm, nI_leI, nI_clamp, nI_lt0, nI_add, false_or]
    by_cases hi : n ≤ i
    · rw [if_pos hi, show i = n by omega]
    · rw [if_neg hi, if_pos (by omega), (h.2.2.2.2.2.2.2 i (by omega)).1 4 (by decide)]
      exact ih (i + 1) (by omega) (by omega)
theorem cracks_eq {ε : Ev} {c : Nat} {σ : Sg} {s : Nat → Int32} {n : Nat} (h : SR σ c s n) : fn_X4_cracks ε c σ = some (smS s 4 n, σ) := by
  have hn9 := h.1
  exact cracks_L h _ 4000 0 (by omega) (by omega)
theorem props_L {ε : Ev} {c : Nat} {σ : Sg} {s : Nat → Int32} {n : Nat} (h : SR σ c s n) (k30 : Int32 → Sg → Option (Int32 × Sg)) : ∀ (f i : Nat), i ≤ n → n + 1 ≤ i + f → fn_X4_props_L4 ε c k30 f (smS s 5 i) (nI i) σ = k30 (smS s 5 n) σ := by
  have hn9 := h.1
  intro f
  induction f with
  | zero => intro i h1 h2; omega
  | succ f ih =>
    intro i h1 h2
    have hm : σ.1 c 6 = nI n := h.2.2.1
    simp (disch := omega) only [fn_X4_props_L4, hm, nI_leI, nI_clamp, nI_lt0, nI_add, false_or]
    by_cases hi : n ≤ i
    · rw [if_pos hi, show i = n by omega]
    · rw [if_neg hi, if_pos (by omega), (h.2.2.2.2.2.2.2 i (by omega)).1 5 (by decide)]
      exact ih (i + 1) (by omega) (by omega)
theorem props_eq {ε : Ev} {c : Nat} {σ : Sg} {s : Nat → Int32} {n : Nat} (h : SR σ c s n) : fn_X4_props ε c σ = some (smS s 5 n, σ) := by
  have hn9 := h.1
  exact props_L h _ 4000 0 (by omega) (by omega)
theorem bits_eq : ∀ m, m < 512 → fn_J6_bitCount_0f7a4 (nI m) = some (nI (pcN m)) := by decide +kernel
theorem many_eq {ε : Ev} {c : Nat} {σ : Sg} {s : Nat → Int32} {n : Nat} (h : SR σ c s n) : fn_X4_howManyStand ε c σ = some (nI (cntS s n), σ) := by
  have hn9 := h.1
  have hl : maskN (sd s) n < 512 := Nat.lt_of_lt_of_le (maskN_lt _ _) (Nat.pow_le_pow_right (by decide) hn9)
  rw [fn_X4_howManyStand, standing_eq h]
  rw [ob_s, mask_nI _ _ (by omega), bits_eq _ hl, o1_s]
  rfl
