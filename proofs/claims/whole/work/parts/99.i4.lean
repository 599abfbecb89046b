/-! ===== reading a text: pieces ===== -/
def Sim (tp : Nat) (B : Nat → Nat) (b key : Nat) (σ0 : Sg) (v0 s0 : Nat → Int32) (r : Nat → Nat → Int32) (F : Sg → Option (Int32 × Sg)) (G : Mg → Option (Int32 × Mg)) (dp tn : Nat) : Prop := ∀ σ v s st en L P h, FS tp B b key σ0 v0 s0 r σ v s st en L P P h dp tn st → (∃ σ' v' s' st' en' L' P', F σ = some (nI 1, σ') ∧ G (v, s, r) = some (nI 1, (v', s', r)) ∧ FS tp B b key σ0 v0 s0 r σ' v' s' st' en' L' P' P' (h + 1) dp tn st' ∧ L' + st ≤ L + st' ∧ st ≤ st') ∨ (∃ σ' v' s', F σ = some (nI 0, σ') ∧ G (v, s, r) = some (nI 0, (v', s', r)) ∧ FW b σ0 v0 s0 σ' v' s')
section PC
variable {ε : Ev} {tp : Nat} {B : Nat → Nat} {b key : Nat} {σ0 : Sg} {v0 s0 : Nat → Int32} {r : Nat → Nat → Int32} {dp tn : Nat}
theorem FW.wr {σ : Sg} {v s : Nat → Int32} (h : FW b σ0 v0 s0 σ v s) (z : Int32) : ∃ σ', fn_X1_write ε z σ = some ((), σ') ∧ FW b σ0 v0 s0 σ' v s := by
  obtain ⟨⟨m1, m2, m3⟩, ⟨st, h1, h2, h3⟩, L, l1, l2⟩ := h
  rw [fn_X1_write, l2]
  by_cases q : 96 ≤ L
  · rw [if_pos (nI_le q (by omega)), fn_X1_write_L29]
    exact ⟨σ, rfl, ⟨m1, m2, m3⟩, ⟨st, h1, h2, h3⟩, L, l1, l2⟩
  · have e7 : (pI σ 66 L z).1 64 7 = nI L := by rw [pI_nc (by decide)]; exact l2
    rw [if_neg (nI_ge (by omega) (by omega)), nI_clamp (by omega), if_pos (g_in (show L < 96 by omega) (by decide)), fn_X1_write_L29, e7, nI_add]
    exact ⟨_, rfl, ⟨fun x a c => by rw [pI_nc a, pI_nc c]; exact m1 x a c, m2, m3⟩, ⟨st, h1, by rw [pI_n (Or.inr (by decide)), pI_nc (by decide)]; exact h2, h3⟩, L + 1, by omega, pI_e _ _ _ _⟩
theorem pcs {σ : Sg} {v s : Nat → Int32} {st en L P h : Nat} (hF : FS tp B b key σ0 v0 s0 r σ v s st en L P P h dp tn st) (hlt : st < en) (hg : (σ.1 64 4 = nI 1 ∧ v 19 = nI 1) ∨ (σ.1 64 4 = nI 2 ∧ v 19 = nI 2)) {cd wh vv : Int32} (hR : stR key cd wh vv) (hw : ¬ wh = nI 2) : ∃ σ' v' s' st' en', fn_X1_takePiece ε cd σ = some (nI 1, σ') ∧ (ob (fn_X7_step wh vv (v, s, r)) (fun _ τ => ob (fn_X7_nextToken (upd τ.1 26 (τ.1 26 + nI 1), τ.2.1, τ.2.2)) (fun _ τ' => some (nI 1, τ')))) = some (nI 1, (v', s', r)) ∧ FS tp B b key σ0 v0 s0 r σ' v' s' st' en' (L + 1) (P + 1) (P + 1) (h + 1) dp tn st' ∧ L + 1 + st ≤ L + st' ∧ st ≤ st' := by
  obtain ⟨b1, b2, b3, b4, b5, b6, b7⟩ := hF.bd
  have hP := hF.hP
  obtain ⟨σ1, s1, v1, e1, e2, F1, c1, c2⟩ := wr_ok (ε := ε) (hF.mono (K' := st + 1) (by omega) (by omega)) (by omega) hR (h' := h + 1) (Or.inr (Or.inr ⟨hw, rfl⟩)) (Q' := P + 1) (by omega) (by omega)
  have p8 : σ1.1 64 8 = nI P := F1.2.2.2.1.2.2.2.2.2.2.1
  have p26 : v1 26 = nI P := F1.2.2.2.1.2.2.2.2.2.2.2.1
  have F2 := F1.pc (by omega)
  obtain ⟨σ3, v3, st3, en3, e3, e4, F3, g3⟩ := adv (ε := ε) F2 (by
    rw [pI_n (Or.inr (by decide)), c1, pk_un (by decide), c2]
    rcases hg with w | w
    · exact Or.inl w
    · exact Or.inr (Or.inl w))
  obtain ⟨d1, d2, d3, d4, d5, d6, d7⟩ := F3.bd
  refine ⟨σ3, v3, s1, st3, en3, ?_, ?_, F3.mono (by omega) (by omega), by omega, by omega⟩
  · rw [fn_X1_takePiece, e1, ob_s, p8, nI_add, e3, ob_s]
  · rw [e2, ob_s]
    dsimp only
    rw [p26, nI_add, e4, ob_s]
theorem dv_n {st : Nat} : ∀ k, (∀ j, st ≤ j → j < st + k → cls (B j) = 2) → ∃ u, u < 10 ^ k ∧ dv B st k = nI u := by
  intro k
  induction k with
  | zero => intro _; exact ⟨0, by decide, rfl⟩
  | succ k ih =>
    intro h
    obtain ⟨u, hu, e⟩ := ih (fun j a c => h j a (by omega))
    obtain ⟨q1, q2⟩ := cls_2 (h (st + k) (by omega) (by omega))
    refine ⟨10 * u + B (st + k) - 48, ?_, ?_⟩
    · rw [Nat.pow_succ]; omega
    · rw [dv, e, pk_mul, nI_add, pk_sub (by omega)]
theorem numC_L {σ : Sg} {st en : Nat} (hen : en ≤ 96) (h3 : σ.1 64 3 = nI en) (h5 : ∀ j, j < en → σ.1 65 j = nI (B j)) (k51 : Int32 → Sg → Option (Int32 × Sg)) : ∀ (f i : Nat), st ≤ i → i ≤ en → en + 1 ≤ i + f → fn_X1_isNumber_L22 ε k51 f (dv B st (i - st)) (nI i) σ = k51 (dv B st (en - st)) σ := by
  intro f
  induction f with
  | zero => intro i h0 h1 h2; omega
  | succ f ih =>
    intro i h0 h1 h2
    simp only [fn_X1_isNumber_L22, h3]
    by_cases q : i = en
    · subst q; rw [if_pos (nI_le (Nat.le_refl i) (by omega))]
    · have K := ih (i + 1) (by omega) (by omega) (by omega)
      rw [show i + 1 - st = (i - st) + 1 by omega, dv, show st + (i - st) = i by omega] at K
      rw [if_neg (nI_ge (by omega) (by omega)), nI_clamp (by omega), if_pos (g_in (show i < 96 by omega) (by decide)), h5 i (by omega), nI_add]
      exact K
/-- the place of a name, if it is one -/
def nmW (key c : Nat) : Option Nat := if key = 0 then (if c = 119 then some 0 else if c = 108 then some 1 else if c = 99 then some 2 else none) else if key = 1 then (if c = 114 then some 0 else if c = 100 then some 1 else none) else (if c = 99 then some 0 else if c = 112 then some 1 else none)
theorem ix_eq : ∀ key, key ≤ 2 → ∀ c, c < 256 → fn_J0_indexOf_0f7a4 (3 + key) ((Int32.toUInt32 (nI c) % 65536).toInt32) = some (match nmW key c with | none => -1 | some d => nI d) := by decide +kernel
theorem nm_eq : ∀ key, key ≤ 2 → ∀ c, c < 256 → fn_X7_isName (nI key) (nI c) = some (nI (if nmW key c = none then 0 else 1)) := by decide +kernel
theorem nm_ix {key c d : Nat} (hk : key ≤ 2) (h : nmW key c = some d) : nmIx key c d := by
  unfold nmW at h
  have e : key = 0 ∨ key = 1 ∨ key = 2 := by omega
  rcases e with rfl | rfl | rfl
  · refine Or.inl ⟨rfl, ?_⟩
    rw [if_pos rfl] at h
    by_cases c1 : c = 119
    · rw [if_pos c1] at h; cases h; exact Or.inl ⟨c1, rfl⟩
    · rw [if_neg c1] at h
      by_cases c2 : c = 108
      · rw [if_pos c2] at h; cases h; exact Or.inr (Or.inl ⟨c2, rfl⟩)
      · rw [if_neg c2] at h
        by_cases c3 : c = 99
        · rw [if_pos c3] at h; cases h; exact Or.inr (Or.inr ⟨c3, rfl⟩)
        · rw [if_neg c3] at h; cases h
  · refine Or.inr (Or.inl ⟨rfl, ?_⟩)
    rw [if_neg (by decide), if_pos rfl] at h
    by_cases c1 : c = 114
    · rw [if_pos c1] at h; cases h; exact Or.inl ⟨c1, rfl⟩
    · rw [if_neg c1] at h
      by_cases c2 : c = 100
      · rw [if_pos c2] at h; cases h; exact Or.inr ⟨c2, rfl⟩
      · rw [if_neg c2] at h; cases h
  · refine Or.inr (Or.inr ⟨rfl, ?_⟩)
    rw [if_neg (by decide), if_neg (by decide)] at h
    by_cases c1 : c = 99
    · rw [if_pos c1] at h; cases h; exact Or.inl ⟨c1, rfl⟩
    · rw [if_neg c1] at h
      by_cases c2 : c = 112
      · rw [if_pos c2] at h; cases h; exact Or.inr ⟨c2, rfl⟩
      · rw [if_neg c2] at h; cases h
end PC
