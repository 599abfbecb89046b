theorem nI_j {a b : Nat} (ha : a < 2 ^ 31) (hb : b < 2 ^ 31) (e : nI a = nI b) : a = b := by
  have := congrArg Int32.toNatClampNeg e
  rwa [nI_clamp ha, nI_clamp hb] at this
theorem StO.ft {ε : Ev} {σ σ' : Sg} {c n nt : Nat} {s : Nat → Int32} (h : StO ε σ c s nt n) (hc : c < 900) (hf : Ft c σ σ') : StO ε σ' c s nt n := by
  obtain ⟨⟨a1, a2, a3, a4, a5, a6, a7, a8⟩, hT, hB, hd⟩ := h
  have e := hf.1 c (by omega) (by omega) (by omega) (by omega)
  exact ⟨⟨a1, a2, by rw [e]; exact a3, by rw [e]; exact a4, by rw [e]; exact a5, by rw [e]; exact a6, by rw [e]; exact a7, fun k hk => (a8 k hk).fs (by omega) (fun y hy => hf.1 y (by omega) (by omega) (by omega) (by omega))⟩, hT.ft hc hf, hB, hd⟩
theorem rel_ft {ε : Ev} {σ σ' : Sg} {μ : Mg} (h : Rel ε σ μ) (hf : Ft 16 σ σ') : Rel ε σ' μ := by
  obtain ⟨n, nt, d, hS, hd, hd2⟩ := h.1
  exact rel_now h (fun x a b => hf.1 x (by omega) (by omega) (by omega) b) (fun x _ _ => by rw [hf.2]) (h.2.2.2.2.2.2.same hf.2) ⟨n, nt, d, hS.ft (by decide) hf, hd, hd2⟩
theorem over_le {s : Nat → Int32} {nt n k : Nat} (hb : ∀ j, j < n → sBd s j) (hs : -20 ≤ (s 4).toInt ∧ (s 4).toInt ≤ 20) (hk : k < n) : (offI (thS s nt n k) (nI 0) - brs s k ≤ 0) ↔ (offI (thS s nt n k) (nI 0) ≤ brs s k) := by
  have h2 := thS_bd (nt := nt) hb hs hk
  obtain ⟨a, ha, ea⟩ := off_M (M := 2026) (by decide) h2.1 h2.2
  obtain ⟨v, hv, ev⟩ := brs_nI (hb k hk)
  rw [ea, ev]
  by_cases h : v < a
  · rw [pk_sub (by omega)]
    exact ⟨fun q => absurd (show nI (a - v) ≤ nI 0 from q) (nI_ge (by omega) (by omega)), fun q => absurd q (nI_ge h (by omega))⟩
  · refine ⟨fun _ => nI_le (by omega) (by omega), fun _ => ?_⟩
    by_cases e : a = v
    · subst e; rw [pk_sub (by omega), Nat.sub_self]; decide
    · exact Int32.le_of_lt (pk_sneg (by omega) (by omega))
theorem nh_L {ε : Ev} {c n nt : Nat} {σ : Sg} {s : Nat → Int32} (h : StO ε σ c s nt n) (hT : ThI σ c s nt n) (k36 : Int32 → Sg → Option (Int32 × Sg)) : ∀ (f i : Nat), i ≤ n → n + 1 ≤ i + f → fn_X4_notHolding_L8 ε c k36 f (maskI (loB s nt n) i) (nI i) σ = k36 (maskI (loB s nt n) n) σ := by
  have hn9 := h.1.1
  intro f
  induction f with
  | zero => intro i h1 h2; omega
  | succ f ih =>
    intro i h1 h2
    have hm : σ.1 c 6 = nI n := h.1.2.2.1
    simp (disch := omega) only [fn_X4_notHolding_L8, fn_X4_notHolding_L30, hm, nI_leI, nI_add]
    by_cases hi : n ≤ i
    · rw [if_pos hi, show i = n by omega]
    · have K := ih (i + 1) (by omega) (by omega)
      have hv := over_le (nt := nt) h.2.2.1 h.2.2.2 (show i < n by omega)
      rw [maskI] at K
      rw [if_neg hi, tooMuch_eq h.1 (by omega) (hT i (by omega)).1, ob_s]
      have eL : loB s nt n i = (sd s i && !decide (offI (thS s nt n i) (nI 0) ≤ brs s i)) := rfl
      cases hs : sd s i with
      | false =>
        rw [hs, Bool.false_and] at eL
        rw [eL, if_neg (by decide), or_0] at K
        rw [if_neg (show ¬ (false = true) from by decide), if_pos (by decide)]
        exact K
      | true =>
        rw [hs, Bool.true_and] at eL
        rw [if_pos (show true = true from rfl)]
        by_cases hle : offI (thS s nt n i) (nI 0) ≤ brs s i
        · rw [decide_eq_true hle] at eL
          rw [eL, if_neg (by decide), or_0] at K
          rw [if_pos (hv.mpr hle)]
          exact K
        · rw [decide_eq_false hle] at eL
          rw [eL, if_pos (by decide)] at K
          rw [if_neg (fun q => hle (hv.mp q))]
          exact K
theorem street_ok {ε : Ev} {σ : Sg} {μ : Mg} (h : Rel ε σ μ) (y : Int32) : RStp ε (fn_X6_street ε y σ) (fn_X7_street y μ) := by
  obtain ⟨n, nt, d, hS, hd, hd2⟩ := h.1
  have hn9 := hS.1.1
  have e9 : σ.1 16 9 = μ.2.1 3 := hS.1.2.2.2.2.1
  rw [fn_X7_street, hS.nOf.1, hS.nOf.2, cif_pos hS.ok, fn_X6_street, streetP, standing_eq hS.1, ob_s, cracks_eq hS.1, ob_s, props_eq hS.1, ob_s]
  by_cases h0 : y = nI 0
  · rw [if_pos h0, if_pos h0]; exact ⟨_, σ, μ, by rw [e9], rfl, h⟩
  rw [if_neg h0, if_neg h0]
  by_cases h1 : y = nI 1
  · rw [if_pos h1, if_pos h1]; exact ⟨_, σ, μ, rfl, rfl, h⟩
  rw [if_neg h1, if_neg h1]
  by_cases h2 : y = nI 2
  · rw [if_pos h2, if_pos h2]; exact ⟨_, σ, μ, rfl, rfl, h⟩
  rw [if_neg h2, if_neg h2]
  by_cases h3 : y = nI 3
  · rw [if_pos h3, if_pos h3]; exact ⟨_, σ, μ, rfl, rfl, h⟩
  rw [if_neg h3, if_neg h3]
  by_cases h4 : y = nI 4
  · obtain ⟨τ, e, hf, hI⟩ := work_eq (ε := ε) (c := 16) (by decide) hS.1 hS.2.2.1 hS.2.1
    have e2 : fn_X4_notHolding ε 16 σ = some (maskI (loB μ.2.1 nt n) n, τ) := by
      rw [fn_X4_notHolding, e, ob_s]
      exact nh_L (hS.ft (by decide) hf) hI _ 4000 0 (by omega) (by omega)
    rw [if_pos h4, if_pos h4, e2, ob_s]; exact ⟨_, τ, μ, rfl, rfl, rel_ft h hf⟩
  rw [if_neg h4, if_neg h4]
  exact ⟨_, σ, μ, rfl, rfl, h⟩
