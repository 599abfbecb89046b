/-! ===== thrusts, in the class ===== -/
theorem Fs.pIc {σ τ : Sg} (h : Fs σ τ) (c k : Nat) (z : Int32) (hc : c < 1000) : Fs (pI σ c k z) (pI τ c k z) := by
  refine ⟨fun y hy => ?_, h.2⟩
  by_cases e : y = c
  · subst e; rw [pI_s, pI_s, h.1 y hy]
  · rw [pI_nc e, pI_nc e]; exact h.1 y hy
theorem hR.fs {σ σ' : Sg} {c k : Nat} {s : Nat → Int32} (h : hR σ c k s) (hc : c + 7 + k < 1000) (hf : ∀ y, y = c + 7 + k → σ'.1 y = σ.1 y) : hR σ' c k s := by
  have e := hf _ rfl
  unfold hR at h ⊢
  rw [e]
  exact h
/-- only thrusts, lesser, greater and the scratch of texts have changed -/
def Ft (c : Nat) (σ σ' : Sg) : Prop := (∀ x, x ≠ c + 4 → x ≠ c + 5 → x ≠ c + 6 → (x < 1000 ∨ x % 3 ≠ 0) → σ'.1 x = σ.1 x) ∧ σ'.2 = σ.2
theorem Ft.rf (c : Nat) (σ : Sg) : Ft c σ σ := ⟨fun _ _ _ _ _ => rfl, rfl⟩
theorem Ft.tr {c : Nat} {σ τ ρ : Sg} (h : Ft c σ τ) (h2 : Ft c τ ρ) : Ft c σ ρ := ⟨fun x a b d e => (h2.1 x a b d e).trans (h.1 x a b d e), h2.2.trans h.2⟩
theorem Fs.ft {σ τ : Sg} (c : Nat) (h : Fs σ τ) : Ft c σ τ := ⟨fun x _ _ _ b => h.1 x b, h.2⟩
theorem Ft.pI {c x k : Nat} {σ : Sg} {z : Int32} (h : x = c + 4 ∨ x = c + 5 ∨ x = c + 6) : Ft c σ (pI σ x k z) := ⟨fun y a b d _ => pI_nc (by omega), rfl⟩
theorem Ft.fr {c : Nat} {σ τ : Sg} (h : Ft c σ τ) : Fr c σ τ := ⟨fun x a b => h.1 x (by omega) (by omega) (by omega) b, h.2⟩
theorem hR.ft {σ σ' : Sg} {c k : Nat} {s : Nat → Int32} (h : hR σ c k s) (hc : c + 7 + k < 1000) (hf : Ft c σ σ') : hR σ' c k s := h.fs hc (fun y e => hf.1 y (by omega) (by omega) (by omega) (by omega))
theorem TR.ft {ε : Ev} {σ σ' : Sg} {c nt : Nat} {s : Nat → Int32} (h : TR ε σ c s nt) (hc : c < 900) (hf : Ft c σ σ') : TR ε σ' c s nt := h.fr hf.2 (by rw [hf.1 c (by omega) (by omega) (by omega) (by omega)]) (fun y h1 h2 => hf.1 y (by omega) (by omega) (by omega) (Or.inr h2)) rfl (fun _ _ => rfl)
theorem nxL_some {p : Nat → Bool} : ∀ {k a : Nat}, nxL p k = some a → a < k ∧ p a = true ∧ ∀ j, a < j → j < k → p j = false := by
  intro k
  induction k with
  | zero => intro a h; cases h
  | succ k ih =>
    intro a h
    rw [nxL] at h
    by_cases hp : p k = true
    · rw [if_pos hp] at h
      cases h
      exact ⟨by omega, hp, fun j h1 h2 => by omega⟩
    · rw [if_neg hp] at h
      obtain ⟨h1, h2, h3⟩ := ih h
      refine ⟨by omega, h2, fun j h4 h5 => ?_⟩
      by_cases e : j = k
      · subst e; exact Bool.eq_false_iff.mpr hp
      · exact h3 j h4 (by omega)
theorem nxL_none {p : Nat → Bool} : ∀ {k : Nat}, nxL p k = none → ∀ j, j < k → p j = false := by
  intro k
  induction k with
  | zero => intro _ j h; omega
  | succ k ih =>
    intro h j hj
    rw [nxL] at h
    by_cases hp : p k = true
    · rw [if_pos hp] at h; cases h
    · rw [if_neg hp] at h
      by_cases e : j = k
      · subst e; exact Bool.eq_false_iff.mpr hp
      · exact ih h j (by omega)
theorem nxR_ext (p : Nat → Bool) : ∀ (f o : Nat), nxR p (f + 1) o = (match nxR p f o with | some b => some b | none => if p (o + f) then some (o + f) else none) := by
  intro f
  induction f with
  | zero => intro o; rfl
  | succ f ih =>
    intro o
    rw [show nxR p (f + 1 + 1) o = if p o then some o else nxR p (f + 1) (o + 1) from rfl, show nxR p (f + 1) o = if p o then some o else nxR p f (o + 1) from rfl]
    by_cases hp : p o = true
    · rw [if_pos hp, if_pos hp]
    · rw [if_neg hp, if_neg hp, ih (o + 1), show o + 1 + f = o + (f + 1) by omega]
theorem nxR_none {p : Nat → Bool} : ∀ {f o : Nat}, (∀ j, o ≤ j → j < o + f → p j = false) → nxR p f o = none := by
  intro f
  induction f with
  | zero => intro o _; rfl
  | succ f ih =>
    intro o h
    rw [nxR, if_neg (by rw [h o (by omega) (by omega)]; decide)]
    exact ih (fun j h1 h2 => h j (by omega) (by omega))
theorem nxR_some {p : Nat → Bool} : ∀ {f o a : Nat}, o ≤ a → a < o + f → p a = true → ∃ b, nxR p f o = some b := by
  intro f
  induction f with
  | zero => intro o a h1 h2; omega
  | succ f ih =>
    intro o a h1 h2 h3
    rw [nxR]
    by_cases hp : p o = true
    · exact ⟨o, by rw [if_pos hp]⟩
    · rw [if_neg hp]
      by_cases e : a = o
      · subst e; exact absurd h3 hp
      · exact ih (o := o + 1) (a := a) (by omega) (by omega) h3
/-- a house further on changes nothing but for the last that stands ahead of it -/
theorem nxR_step {p : Nat → Bool} {k i : Nat} (hk : k < i) (h : p i = false ∨ nxL p i ≠ some k) (hp : p k = true) : nxR p (i + 1 - (k + 1)) (k + 1) = nxR p (i - (k + 1)) (k + 1) := by
  rw [show i + 1 - (k + 1) = (i - (k + 1)) + 1 by omega, nxR_ext, show k + 1 + (i - (k + 1)) = i by omega]
  cases e : nxR p (i - (k + 1)) (k + 1) with
  | some b => rfl
  | none =>
    rcases h with h | h
    · rw [h]; rfl
    · exfalso
      cases e2 : nxL p i with
      | none => have := nxL_none e2 k hk; rw [hp] at this; cases this
      | some a =>
        obtain ⟨h1, h2, h3⟩ := nxL_some e2
        have hka : k < a := by
          rcases Nat.lt_trichotomy k a with q | q | q
          · exact q
          · subst q; exact absurd e2 h
          · have := h3 k q hk; rw [hp] at this; cases this
        obtain ⟨b, eb⟩ := nxR_some (p := p) (f := i - (k + 1)) (o := k + 1) (a := a) (by omega) (by omega) h2
        rw [eb] at e
        cases e
theorem thS_step {s : Nat → Int32} {nt k i : Nat} (hk : k < i) (h : sd s i = false ∨ nxL (sd s) i ≠ some k) : thS s nt (i + 1) k = thS s nt i k := by
  unfold thS
  by_cases hp : sd s k = true
  · rw [if_pos hp, if_pos hp, rgS, rgS, nxR_step hk h hp]
  · rw [if_neg hp, if_neg hp]
theorem sub_0 (x : Int32) : x - nI 0 = x := Int32.sub_zero x
theorem add_0 (x : Int32) : x + nI 0 = x := Int32.add_zero x
