/-! ===== plain facts about the class's functions ===== -/
theorem pI_e (σ : Sg) (c k : Nat) (x : Int32) : (pI σ c k x).1 c k = x := by simp [pI, mU, upd]
theorem pI_n {σ : Sg} {c k : Nat} {x : Int32} {c' k' : Nat} (h : c' ≠ c ∨ k' ≠ k) : (pI σ c k x).1 c' k' = σ.1 c' k' := by
  by_cases h1 : c' = c
  · subst h1
    have h2 : k' ≠ k := by rcases h with h | h; exact absurd rfl h; exact h
    simp [pI, mU, upd, h2]
  · simp [pI, mU, h1]
theorem pI_nc {σ : Sg} {c k : Nat} {x : Int32} {c' : Nat} (h : c' ≠ c) : (pI σ c k x).1 c' = σ.1 c' := by simp [pI, mU, h]
theorem pI_2 (σ : Sg) (c k : Nat) (x : Int32) : (pI σ c k x).2 = σ.2 := rfl
theorem nI_lt0 {n : Nat} (h : n < 2 ^ 31) : (nI n < 0) = False := eq_false (nI_pos h)
theorem nI_z {n : Nat} (h : n < 2 ^ 31) : (nI n = 0) = (n = 0) := by rw [← nI_0]; exact propext (nI_eq h (by decide))
theorem nI_0le {n : Nat} (h : n < 2 ^ 31) : (0 ≤ nI n) = True := eq_true (nI_pos' h)
/-- the cells of a street, and the scratch of texts, may have changed -/
def Fr (c : Nat) (σ σ' : Sg) : Prop := (∀ x, (x < c ∨ c + 16 ≤ x) → (x < 1000 ∨ x % 3 ≠ 0) → σ'.1 x = σ.1 x) ∧ σ'.2 = σ.2
theorem Fr.rf (c : Nat) (σ : Sg) : Fr c σ σ := ⟨fun _ _ _ => rfl, rfl⟩
theorem Fr.tr {c : Nat} {σ τ ρ : Sg} (h : Fr c σ τ) (h2 : Fr c τ ρ) : Fr c σ ρ := ⟨fun x a b => (h2.1 x a b).trans (h.1 x a b), h2.2.trans h.2⟩
theorem Fr.pI {c x k : Nat} {σ : Sg} {z : Int32} (h1 : c ≤ x) (h2 : x < c + 16) : Fr c σ (pI σ x k z) := ⟨fun y a _ => pI_nc (by omega), rfl⟩
/-- house k of the street at c is what the row says -/
def hR (σ : Sg) (c k : Nat) (s : Nat → Int32) : Prop := (∀ w, w < 6 → σ.1 (c + 7 + k) w = s (6 + 7 * k + w)) ∧ σ.1 (c + 7 + k) 6 = (if s (6 + 7 * k + 6) = 0 then nI 1 else nI 0) ∧ (s (6 + 7 * k + 6) = nI 0 ∨ s (6 + 7 * k + 6) = nI 1)
/-- the street at c is what the row says, texts apart -/
def SR (σ : Sg) (c : Nat) (s : Nat → Int32) (n : Nat) : Prop := n ≤ 9 ∧ s 0 = nI n ∧ σ.1 c 6 = nI n ∧ σ.1 c 8 = s 4 ∧ σ.1 c 9 = s 3 ∧ σ.1 c 10 = s 2 ∧ σ.1 c 11 = s 5 ∧ ∀ k, k < n → hR σ c k s
theorem hR_st {σ : Sg} {c k : Nat} {s : Nat → Int32} (h : hR σ c k s) : (σ.1 (c + 7 + k) 6 = 0) = (sd s k = false) := by
  have e := h.2.1
  by_cases hz : s (6 + 7 * k + 6) = 0
  · rw [if_pos hz] at e
    rw [e, sd, decide_eq_true hz]
    simp [nI_z]
  · rw [if_neg hz] at e
    rw [e, sd, decide_eq_false hz]
    simp [nI_z]
theorem or_0 (x : Int32) : x ||| nI 0 = x := by
  apply Int32.toBitVec_inj.mp
  show x.toBitVec ||| 0#32 = x.toBitVec
  simp
theorem standing_L {ε : Ev} {c : Nat} {σ : Sg} {s : Nat → Int32} {n : Nat} (h : SR σ c s n) (k36 : Int32 → Sg → Option (Int32 × Sg)) : ∀ (f i : Nat), i ≤ n → n + 1 ≤ i + f → fn_X4_standing_L4 ε c k36 f (maskI (sd s) i) (nI i) σ = k36 (maskI (sd s) n) σ := by
  have hn9 := h.1
  intro f
  induction f with
  | zero => intro i h1 h2; omega
  | succ f ih =>
    intro i h1 h2
    have hm : σ.1 c 6 = nI n := h.2.2.1
    simp (disch := omega) only [fn_X4_standing_L4, fn_X4_standing_L30, hm, nI_leI, nI_clamp, nI_lt0, nI_add, false_or]
    by_cases hi : n ≤ i
    · rw [if_pos hi, show i = n by omega]
    · rw [if_neg hi, if_pos (by omega)]
      have hk := hR_st (h.2.2.2.2.2.2.2 i (by omega))
      have K := ih (i + 1) (by omega) (by omega)
      rw [maskI] at K
      by_cases hs : sd s i = true
      · rw [hs, if_pos rfl] at K
        rw [if_neg (by rw [hk, hs]; decide)]
        exact K
      · have hs : sd s i = false := by cases h9 : sd s i; rfl; exact absurd h9 hs
        rw [hs, if_neg (by decide), or_0] at K
        rw [if_pos (by rw [hk, hs])]
        exact K
theorem standing_eq {ε : Ev} {c : Nat} {σ : Sg} {s : Nat → Int32} {n : Nat} (h : SR σ c s n) : fn_X4_standing ε c σ = some (maskI (sd s) n, σ) := by
  have hn9 := h.1
  exact standing_L h _ 4000 0 (by omega) (by omega)
