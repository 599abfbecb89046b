/-! ===== one street becomes like another ===== -/
theorem hBe_eq {ε : Ev} {x y : Nat} {σ : Sg} (hne : y ≠ x) (hb : σ.1 y 6 = 0 ∨ σ.1 y 6 = 1) : ∃ σ', fn_X0_beLike ε x y σ = some ((), σ') ∧ (∀ z, z ≠ x → σ'.1 z = σ.1 z) ∧ (∀ w, w < 7 → σ'.1 x w = σ.1 y w) ∧ σ'.2 = σ.2 := by
  have r : ∀ (ρ : Sg) (k : Nat) (z : Int32) (w : Nat), (pI ρ x k z).1 y w = ρ.1 y w := fun ρ k z w => by rw [pI_nc hne]
  simp only [fn_X0_beLike, r]
  rw [if_pos hb]
  refine ⟨_, rfl, fun z hz => ?_, fun w hw => ?_, rfl⟩
  · simp only [pI_nc hz]
  · rcases (show w = 0 ∨ w = 1 ∨ w = 2 ∨ w = 3 ∨ w = 4 ∨ w = 5 ∨ w = 6 by omega) with rfl | rfl | rfl | rfl | rfl | rfl | rfl <;> simp [pI, mU, upd]
/-- what the first loop does -/
theorem be1_L {ε : Ev} {c c1 n : Nat} {σ : Sg} (hc : c = 16 ∨ c = 32 ∨ c = 48) (hc1 : c1 = 16 ∨ c1 = 32 ∨ c1 = 48) (hne : c ≠ c1) (hn9 : n ≤ 9) (hm : σ.1 c1 6 = nI n) (hb : ∀ k, k < n → σ.1 (c1 + 7 + k) 6 = 0 ∨ σ.1 (c1 + 7 + k) 6 = 1) (k31 : Sg → Option (Unit × Sg)) : ∀ (f i : Nat) (τ : Sg), i ≤ n → n + 1 ≤ i + f → Fh c σ τ → (∀ k, k < i → ∀ w, w < 7 → τ.1 (c + 7 + k) w = σ.1 (c1 + 7 + k) w) → ∃ τ', fn_X4_beLike_L2 ε c c1 k31 f (nI i) τ = k31 τ' ∧ Fh c σ τ' ∧ ∀ k, k < n → ∀ w, w < 7 → τ'.1 (c + 7 + k) w = σ.1 (c1 + 7 + k) w := by
  intro f
  induction f with
  | zero => intro i τ h1 h2; omega
  | succ f ih =>
    intro i τ h1 h2 hf hI
    have hm' : τ.1 c1 6 = nI n := by rw [hf.1 c1 (by omega) (by omega)]; exact hm
    simp (disch := omega) only [fn_X4_beLike_L2, hm', nI_leI, nI_clamp, nI_lt0, false_or, nI_add]
    by_cases hi : n ≤ i
    · rw [if_pos hi]
      exact ⟨τ, rfl, hf, fun k hk => hI k (by omega)⟩
    · rw [if_neg hi, if_pos (by omega)]
      have e7 : τ.1 (c1 + 7 + i) = σ.1 (c1 + 7 + i) := hf.1 _ (by omega) (by omega)
      obtain ⟨τ1, e1, a1, a2, a3⟩ := hBe_eq (ε := ε) (x := c + 7 + i) (y := c1 + 7 + i) (σ := τ) (by omega) (by rw [e7]; exact hb i (by omega))
      rw [e1, ob_s]
      refine ih (i + 1) τ1 (by omega) (by omega) ⟨fun x h3 h4 => by rw [a1 x (by omega)]; exact hf.1 x h3 h4, by rw [a3]; exact hf.2⟩ (fun k hk w hw => ?_)
      by_cases e : k = i
      · subst e; rw [a2 w hw, e7]
      · rw [a1 _ (by omega)]; exact hI k (by omega) w hw
theorem pT_1 (σ : Sg) (c k : Nat) (x : Option Nat) : (pT σ c k x).1 = σ.1 := rfl
theorem pT_e (σ : Sg) (c k : Nat) (x : Option Nat) : (pT σ c k x).2 c k = x := by simp [pT]
theorem pT_n {σ : Sg} {c k : Nat} {x : Option Nat} {c' : Nat} (h : c' ≠ c) : (pT σ c k x).2 c' = σ.2 c' := by funext j; simp [pT, h]
theorem pT_k {σ : Sg} {c k : Nat} {x : Option Nat} {j : Nat} (h : j ≠ k) : (pT σ c k x).2 c j = σ.2 c j := by simp [pT, h]
/-- every text that is named is named before -/
def Tsub (σ τ : Sg) : Prop := ∀ c k x, τ.2 c k = some x → ∃ c' k', σ.2 c' k' = some x
theorem Tsub.rf (σ : Sg) : Tsub σ σ := fun c k x h => ⟨c, k, h⟩
theorem Tsub.pT {σ τ : Sg} (h : Tsub σ τ) (c k c' k' : Nat) : Tsub σ (pT τ c k (τ.2 c' k')) := by
  intro a b x hx
  by_cases e : a = c
  · subst e
    by_cases e2 : b = k
    · subst e2; rw [pT_e] at hx; exact h _ _ _ hx
    · rw [pT_k e2] at hx; exact h _ _ _ hx
  · rw [pT_n e] at hx; exact h _ _ _ hx
theorem be2_L {ε : Ev} {c c1 nt : Nat} {σ : Sg} (hne : c ≠ c1) (hc : c = 16 ∨ c = 32 ∨ c = 48) (hc1 : c1 = 16 ∨ c1 = 32 ∨ c1 = 48) (hnt : nt ≤ 14) (hm : σ.1 c1 7 = nI nt) (hx : ∀ t, t < nt → ∀ x ∈ σ.2 (c1 + 2) t, isX5 ε x) (k59 : Sg → Option (Unit × Sg)) : ∀ (f i : Nat) (τ : Sg), i ≤ nt → nt + 1 ≤ i + f → τ.1 = σ.1 → (∀ x, x ≠ c + 2 → τ.2 x = σ.2 x) → (∀ t, t < i → τ.2 (c + 2) t = σ.2 (c1 + 2) t) → Tsub σ τ → ∃ τ', fn_X4_beLike_L33 ε c c1 k59 f (nI i) τ = k59 τ' ∧ τ'.1 = σ.1 ∧ (∀ x, x ≠ c + 2 → τ'.2 x = σ.2 x) ∧ (∀ t, t < nt → τ'.2 (c + 2) t = σ.2 (c1 + 2) t) ∧ Tsub σ τ' := by
  intro f
  induction f with
  | zero => intro i τ h1 h2; omega
  | succ f ih =>
    intro i τ h1 h2 hf h3 hI hTs
    have hm' : τ.1 c1 7 = nI nt := by rw [hf]; exact hm
    have e2 : τ.2 (c1 + 2) = σ.2 (c1 + 2) := h3 _ (by omega)
    simp (disch := omega) only [fn_X4_beLike_L33, hm', nI_leI, nI_clamp, nI_lt0, false_or, nI_add, e2]
    by_cases hi : nt ≤ i
    · rw [if_pos hi]
      exact ⟨τ, rfl, hf, h3, fun k hk => hI k (by omega), hTs⟩
    · rw [if_neg hi, if_pos (by omega), if_pos (hx i (by omega))]
      refine ih (i + 1) _ (by omega) (by omega) hf (fun x h7 => by rw [pT_n h7]; exact h3 x h7) (fun t ht => ?_) (by rw [← e2]; exact hTs.pT _ _ _ _)
      by_cases e : t = i
      · subst e; exact pT_e _ _ _ _
      · rw [pT_k e]; exact hI t (by omega)
theorem be3_L {ε : Ev} {c c1 : Nat} {σ : Sg} (hne : c ≠ c1) (hc : c = 16 ∨ c = 32 ∨ c = 48) (hc1 : c1 = 16 ∨ c1 = 32 ∨ c1 = 48) (hx : ∀ t, t < 3 → ∀ x ∈ σ.2 (c1 + 3) t, isX5 ε x) (k84 : Sg → Option (Unit × Sg)) : ∀ (f i : Nat) (τ : Sg), i ≤ 3 → 3 + 1 ≤ i + f → τ.1 = σ.1 → (∀ x, x ≠ c + 3 → τ.2 x = σ.2 x) → (∀ t, t < i → τ.2 (c + 3) t = σ.2 (c1 + 3) t) → Tsub σ τ → ∃ τ', fn_X4_beLike_L61 ε c c1 k84 f (nI i) τ = k84 τ' ∧ τ'.1 = σ.1 ∧ (∀ x, x ≠ c + 3 → τ'.2 x = σ.2 x) ∧ (∀ t, t < 3 → τ'.2 (c + 3) t = σ.2 (c1 + 3) t) ∧ Tsub σ τ' := by
  intro f
  induction f with
  | zero => intro i τ h1 h2; omega
  | succ f ih =>
    intro i τ h1 h2 hf h3 hI hTs
    have e2 : τ.2 (c1 + 3) = σ.2 (c1 + 3) := h3 _ (by omega)
    simp (disch := omega) only [fn_X4_beLike_L61, nI_leI, nI_clamp, nI_lt0, false_or, nI_add, e2]
    by_cases hi : 3 ≤ i
    · rw [if_pos hi]
      exact ⟨τ, rfl, hf, h3, fun k hk => hI k (by omega), hTs⟩
    · rw [if_neg hi, if_pos (by omega), if_pos (hx i (by omega))]
      refine ih (i + 1) _ (by omega) (by omega) hf (fun x h7 => by rw [pT_n h7]; exact h3 x h7) (fun t ht => ?_) (by rw [← e2]; exact hTs.pT _ _ _ _)
      by_cases e : t = i
      · subst e; exact pT_e _ _ _ _
      · rw [pT_k e]; exact hI t (by omega)
/-- another street's cells are as they were -/
def Fb (c : Nat) (σ σ' : Sg) : Prop := (∀ x, (x < c ∨ c + 16 ≤ x) → (x < 1000 ∨ x % 3 ≠ 0) → σ'.1 x = σ.1 x) ∧ ∀ x, x ≠ c + 2 → x ≠ c + 3 → σ'.2 x = σ.2 x
theorem be_eq {ε : Ev} {c c1 n nt : Nat} {σ : Sg} {s : Nat → Int32} (hc : c = 16 ∨ c = 32 ∨ c = 48) (hc1 : c1 = 16 ∨ c1 = 32 ∨ c1 = 48) (hne : c ≠ c1) (h : StO ε σ c1 s nt n) : ∃ σ', fn_X4_beLike ε c c1 σ = some ((), σ') ∧ Fb c σ σ' ∧ StO ε σ' c s nt n ∧ Tsub σ σ' := by
  obtain ⟨hS, hT, hB, hs4⟩ := h
  have hn9 := hS.1
  obtain ⟨hnt, ht1, ht7, htx, hkey⟩ := hT
  have hbit : ∀ k, k < n → σ.1 (c1 + 7 + k) 6 = 0 ∨ σ.1 (c1 + 7 + k) 6 = 1 := by
    intro k hk
    have e := (hS.2.2.2.2.2.2.2 k hk).2.1
    by_cases hz : s (6 + 7 * k + 6) = 0
    · rw [if_pos hz] at e; exact Or.inr e
    · rw [if_neg hz] at e; exact Or.inl e
  have hx2 : ∀ t, t < nt → ∀ x ∈ σ.2 (c1 + 2) t, isX5 ε x := by
    intro t ht x hx
    obtain ⟨y, e1, e2⟩ := htx t ht
    rw [e1] at hx
    cases hx
    exact e2.1
  have hx3 : ∀ t, t < 3 → ∀ x ∈ σ.2 (c1 + 3) t, isX5 ε x := by
    intro t ht x hx
    rw [hkey t (by omega)] at hx
    cases hO : lastO s (nI t) nt with
    | none => rw [hO] at hx; cases hx
    | some u => rw [hO] at hx; exact hx2 u (lastO_some hO).1 x hx
  obtain ⟨σ1, e1, f1, g1⟩ := be1_L (ε := ε) hc hc1 hne hn9 hS.2.2.1 hbit (fn_X4_beLike_L31 ε c c1) 4000 0 σ (by omega) (by omega) (Fh.rf c σ) (fun k hk => by omega)
  have c1e : σ1.1 c1 = σ.1 c1 := f1.1 c1 (by omega) (by omega)
  obtain ⟨σ2, e2, f2, g2, i2, j2⟩ := be2_L (ε := ε) (σ := σ1) hne hc hc1 hnt (by rw [c1e]; exact ht7) (by rw [f1.2]; exact hx2) (fn_X4_beLike_L59 ε c c1) 4000 0 σ1 (by omega) (by omega) rfl (fun _ _ => rfl) (fun t ht => by omega) (Tsub.rf σ1)
  have q3 : σ2.2 (c1 + 3) = σ.2 (c1 + 3) := by rw [g2 _ (by omega), f1.2]
  obtain ⟨σ3, e3, f3, g3, i3, j3⟩ := be3_L (ε := ε) (σ := σ2) hne hc hc1 (by rw [q3]; exact hx3) (fn_X4_beLike_L84 ε c c1) 4000 0 σ2 (by omega) (by omega) rfl (fun _ _ => rfl) (fun t ht => by omega) (Tsub.rf σ2)
  have s31 : σ3.1 = σ1.1 := f3.trans f2
  have r : ∀ (ρ : Sg) (k : Nat) (z : Int32) (w : Nat), (pI ρ c k z).1 c1 w = ρ.1 c1 w := fun ρ k z w => by rw [pI_nc (by omega)]
  have E : fn_X4_beLike ε c c1 σ = fn_X4_beLike_L84 ε c c1 σ3 := by
    rw [fn_X4_beLike]
    refine e1.trans ?_
    rw [fn_X4_beLike_L31]
    refine e2.trans ?_
    rw [fn_X4_beLike_L59]
    exact e3
  rw [E]
  simp only [fn_X4_beLike_L84, r]
  have v : ∀ w, σ3.1 c1 w = σ.1 c1 w := fun w => by rw [s31, c1e]
  refine ⟨_, rfl, ⟨fun x h7 h8 => ?_, fun x h7 h8 => ?_⟩, ⟨⟨hn9, hS.2.1, ?_, ?_, ?_, ?_, ?_, fun k hk => ?_⟩, ⟨hnt, ht1, ?_, fun t ht => ?_, fun key hk => ?_⟩, hB, hs4⟩, ?_⟩
  · simp only [pI_nc (show x ≠ c by omega)]
    rw [s31]
    exact f1.1 x (by omega) h8
  · show σ3.2 x = σ.2 x
    rw [g3 x h8, g2 x h7, f1.2]
  · simp (disch := decide) only [pI_n, pI_e, v, ne_eq, or_true]; simp [pI, mU, upd, v]; exact hS.2.2.1
  · simp [pI, mU, upd, v]; exact hS.2.2.2.1
  · simp [pI, mU, upd, v]; exact hS.2.2.2.2.1
  · simp [pI, mU, upd, v]; exact hS.2.2.2.2.2.1
  · simp [pI, mU, upd, v]; exact hS.2.2.2.2.2.2.1
  · have hk7 : ∀ w, w < 7 → σ3.1 (c + 7 + k) w = σ.1 (c1 + 7 + k) w := fun w hw => by rw [s31]; exact g1 k hk w hw
    obtain ⟨b1, b2, b3⟩ := hS.2.2.2.2.2.2.2 k hk
    have hh : hR σ3 c k s := ⟨fun w hw => by rw [hk7 w (by omega)]; exact b1 w hw, by rw [hk7 6 (by omega)]; exact b2, b3⟩
    refine hh.fs (by omega) (fun y hy => ?_)
    simp only [pI_nc (show y ≠ c by omega)]
  · simp [pI, mU, upd, v]; exact ht7
  · obtain ⟨x, a1, a2⟩ := htx t ht
    have e4 : σ3.2 (c + 2) t = some x := by rw [g3 _ (by omega), i2 t ht, f1.2]; exact a1
    refine ⟨x, e4, a2.fr (fun y h7 h8 => ?_) (fun _ _ => rfl)⟩
    simp only [pI_nc (show y ≠ c by omega)]
    rw [s31]
    exact f1.1 y (by omega) (Or.inr h8)
  · show σ3.2 (c + 3) key = _
    rw [i3 key (by omega), q3, hkey key hk]
    cases hO : lastO s (nI key) nt with
    | none => rfl
    | some u =>
      show σ.2 (c1 + 2) u = σ3.2 (c + 2) u
      rw [g3 _ (by omega), i2 u (lastO_some hO).1, f1.2]
  · intro a b x hx
    obtain ⟨a2, b2, h9⟩ := j3 a b x hx
    obtain ⟨a3, b3, h8⟩ := j2 a2 b2 x h9
    rw [f1.2] at h8
    exact ⟨a3, b3, h8⟩
