/-! ===== a text at work, in the class ===== -/
theorem pA_e (σ : Sg) (c : Nat) (f : Nat → Int32) : (pA σ c f).1 c = f := mU_s _ _ _
theorem pA_n {σ : Sg} {c c' : Nat} {f : Nat → Int32} (h : c' ≠ c) : (pA σ c f).1 c' = σ.1 c' := mU_n _ _ h
theorem pA_2 (σ : Sg) (c : Nat) (f : Nat → Int32) : (pA σ c f).2 = σ.2 := rfl
theorem pA_self (σ : Sg) (c : Nat) : pA σ c (σ.1 c) = σ := by unfold pA; rw [mU_self]
theorem pI_pA (σ : Sg) (c k : Nat) (f : Nat → Int32) (z : Int32) : pI (pA σ c f) c k z = pA σ c (upd f k z) := by unfold pI; rw [pA_e]; unfold pA; rw [mU_mU]
/-- the place of a name among a key's names -/
def nmIx (key j d : Nat) : Prop := (key = 0 ∧ ((j = 119 ∧ d = 0) ∨ (j = 108 ∧ d = 1) ∨ (j = 99 ∧ d = 2))) ∨ (key = 1 ∧ ((j = 114 ∧ d = 0) ∨ (j = 100 ∧ d = 1))) ∨ (key = 2 ∧ ((j = 99 ∧ d = 0) ∨ (j = 112 ∧ d = 1)))
def sgns : List Nat := [33, 38, 42, 43, 45, 47, 60, 61, 62, 124]
/-- a step of the class's code, and of the reference's -/
def stR (key : Nat) (cd wh vv : Int32) : Prop := (wh = nI 0 ∧ ∃ u, u ≤ 9999 ∧ vv = nI u ∧ cd = nI u) ∨ (wh = nI 1 ∧ ∃ j d, vv = nI j ∧ nmIx key j d ∧ cd = nI (10000 + d)) ∨ (wh = nI 2 ∧ ∃ u, u ∈ sgns ∧ vv = nI u ∧ cd = -(nI u))
/-- text t of the row is the text at the cell x -/
def TxR (ε : Ev) (σ : Sg) (x : Nat) (s : Nat → Int32) (t : Nat) : Prop := isX5 ε x ∧ σ.1 x 0 = nI t ∧ ∃ key m p, key ≤ 2 ∧ s (69 + 200 * t) = nI key ∧ σ.1 x 1 = nI key ∧ s (69 + 200 * t + 1) = nI p ∧ σ.1 x 2 = nI p ∧ 1 ≤ p ∧ p ≤ 96 ∧ s (69 + 200 * t + 2) = nI m ∧ m ≤ 96 ∧ sLn ε (x + 1) = m ∧ sLn ε (x + 2) = p ∧ (∀ k, k < m → stR key (σ.1 (x + 1) k) (s (69 + 200 * t + 4 + 2 * k)) (s (69 + 200 * t + 4 + 2 * k + 1))) ∧ (∀ k, k ≤ m → ∃ h, wkH s (69 + 200 * t) k = some h ∧ h ≤ p) ∧ wkH s (69 + 200 * t) m = some 1
theorem joined_eq (a b : Int32) : ∀ u ∈ sgns, u ≠ 33 → fn_X5_joined (nI u) a b = some (joinI (nI u) a b) := by
  intro u hu h33
  simp only [sgns, List.mem_cons, List.not_mem_nil, or_false] at hu
  rcases hu with rfl | rfl | rfl | rfl | rfl | rfl | rfl | rfl | rfl | rfl
  · exact absurd rfl h33
  · show (if a = 0 then some (nI 0) else if b = 0 then some (nI 0) else some (nI 1)) = some (bI (decide (a ≠ 0) && decide (b ≠ 0)))
    by_cases h1 : a = 0 <;> by_cases h2 : b = 0 <;> simp [h1, h2, bI] <;> rfl
  · rfl
  · rfl
  · rfl
  · show (if b = 0 then some (nI 0) else if ¬ b = 0 then some (a / b) else none) = some (if b = 0 then 0 else a / b)
    by_cases h2 : b = 0 <;> simp [h2] <;> rfl
  · show (if b ≤ a then some (nI 0) else some (nI 1)) = some (bI (decide (a < b)))
    by_cases h1 : b ≤ a
    · rw [if_pos h1, decide_eq_false (Int32.not_lt.mpr h1)]; rfl
    · rw [if_neg h1, decide_eq_true (Int32.not_le.mp h1)]; rfl
  · show (if a = b then some (nI 1) else some (nI 0)) = some (bI (decide (a = b)))
    by_cases h1 : a = b <;> simp [h1, bI] <;> rfl
  · show (if a ≤ b then some (nI 0) else some (nI 1)) = some (bI (decide (b < a)))
    by_cases h1 : a ≤ b
    · rw [if_pos h1, decide_eq_false (Int32.not_lt.mpr h1)]; rfl
    · rw [if_neg h1, decide_eq_true (Int32.not_le.mp h1)]; rfl
  · show (if a = 0 then (if b = 0 then some (nI 0) else some (nI 1)) else some (nI 1)) = some (bI (decide (a ≠ 0) || decide (b ≠ 0)))
    by_cases h1 : a = 0 <;> by_cases h2 : b = 0 <;> simp [h1, h2, bI] <;> rfl
def topI : Nat → Int32
  | 0 => -1
  | l + 1 => nI l
theorem topI_s (l : Nat) : topI l + nI 1 = nI l := by
  cases l with
  | zero => decide
  | succ l => exact nI_add l 1
theorem neg_nn : ∀ u ∈ sgns, -(-(nI u)) = nI u ∧ (-(nI u) < 0) ∧ ¬ (0 ≤ -(nI u)) ∧ (-(nI u) = -33 ↔ u = 33) := by decide +kernel
theorem m1_s (l : Nat) : nI (l + 1) + (-1) = nI l := pk_m1 l
