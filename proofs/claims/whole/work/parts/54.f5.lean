/-! ===== pushes, in the class ===== -/
/-- only the scratch of texts has changed -/
def Fs (σ σ' : Sg) : Prop := (∀ x, (x < 1000 ∨ x % 3 ≠ 0) → σ'.1 x = σ.1 x) ∧ σ'.2 = σ.2
theorem Fs.rf (σ : Sg) : Fs σ σ := ⟨fun _ _ => rfl, rfl⟩
theorem Fs.tr {σ τ ρ : Sg} (h : Fs σ τ) (h2 : Fs τ ρ) : Fs σ ρ := ⟨fun x a => (h2.1 x a).trans (h.1 x a), h2.2.trans h.2⟩
theorem Fs.fr {σ τ : Sg} (c : Nat) (h : Fs σ τ) : Fr c σ τ := ⟨fun x _ b => h.1 x b, h.2⟩
theorem Fs.pA {ε : Ev} {σ : Sg} {x : Nat} (g : Nat → Int32) (h : isX5 ε x) : Fs σ (pA σ (x + 2) g) := ⟨fun y a => pA_n (by have := h.1; have := h.2.2; omega), rfl⟩
/-- what holds of a house's numbers -/
def sBd (s : Nat → Int32) (k : Nat) : Prop := ∃ kd w wl cr pr : Nat, s (6 + 7 * k + 0) = nI kd ∧ kd ≤ 5 ∧ s (6 + 7 * k + 1) = nI w ∧ 1 ≤ w ∧ w ≤ 99 ∧ s (6 + 7 * k + 3) = nI wl ∧ wl ≤ 99 ∧ s (6 + 7 * k + 4) = nI cr ∧ cr ≤ 999 ∧ s (6 + 7 * k + 5) = nI pr ∧ pr ≤ 9 ∧ -50 ≤ (s (6 + 7 * k + 2)).toInt ∧ (s (6 + 7 * k + 2)).toInt ≤ 50
/-- the texts of a street -/
def TR (ε : Ev) (σ : Sg) (c : Nat) (s : Nat → Int32) (nt : Nat) : Prop := nt ≤ 14 ∧ s 1 = nI nt ∧ σ.1 c 7 = nI nt ∧ (∀ t, t < nt → ∃ x, σ.2 (c + 2) t = some x ∧ TxR ε σ x s t) ∧ ∀ key, key ≤ 2 → σ.2 (c + 3) key = (match lastO s (nI key) nt with
  | none => none
  | some t => σ.2 (c + 2) t)
theorem TxR.fr {ε : Ev} {σ σ' : Sg} {x t : Nat} {s s' : Nat → Int32} (h : TxR ε σ x s t) (h1 : ∀ y, 1000 ≤ y → y % 3 ≠ 0 → σ'.1 y = σ.1 y) (hs : ∀ j, 69 ≤ j → s' j = s j) : TxR ε σ' x s' t := by
  obtain ⟨h5, hnum, key, m, p, hk2, hks, hkx, hps, hpx, hp1, hp96, hms, hm96, hlm, hlp, hst, hh, h11⟩ := h
  have a5 := h5.1
  have b5 := h5.2.2
  refine ⟨h5, by rw [h1 x (by omega) (by omega)]; exact hnum, key, m, p, hk2, by rw [hs _ (by omega)]; exact hks, by rw [h1 x (by omega) (by omega)]; exact hkx, by rw [hs _ (by omega)]; exact hps, by rw [h1 x (by omega) (by omega)]; exact hpx, hp1, hp96, by rw [hs _ (by omega)]; exact hms, hm96, hlm, hlp, fun k hk => ?_, fun k hk => ?_, ?_⟩
  · rw [h1 (x + 1) (by omega) (by omega), hs _ (by omega), hs _ (by omega)]; exact hst k hk
  · rw [wkH_cong (fun j hj => hs j (by omega))]; exact hh k hk
  · rw [wkH_cong (fun j hj => hs j (by omega))]; exact h11
theorem lastO_cong {s s' : Nat → Int32} {key : Int32} (hs : ∀ j, 69 ≤ j → s' j = s j) : ∀ n, lastO s' key n = lastO s key n := by
  intro n
  induction n with
  | zero => rfl
  | succ n ih => rw [lastO, lastO, ih, hs _ (by omega)]
theorem TR.fr {ε : Ev} {σ σ' : Sg} {c nt : Nat} {s s' : Nat → Int32} (h : TR ε σ c s nt) (h2 : σ'.2 = σ.2) (h7 : σ'.1 c 7 = σ.1 c 7) (h1 : ∀ y, 1000 ≤ y → y % 3 ≠ 0 → σ'.1 y = σ.1 y) (hs1 : s' 1 = s 1) (hs : ∀ j, 69 ≤ j → s' j = s j) : TR ε σ' c s' nt := by
  obtain ⟨a, b, c', d, e⟩ := h
  refine ⟨a, hs1.trans b, h7.trans c', fun t ht => ?_, fun key hk => ?_⟩
  · obtain ⟨x, e1, e2⟩ := d t ht
    exact ⟨x, by rw [h2]; exact e1, e2.fr h1 hs⟩
  · rw [h2, lastO_cong hs]
    exact e key hk
theorem held_eq (z : Int32) : mxI (nI 0) (mnI (nI 999) z) = heldI z (nI 0) (nI 999) := by
  unfold mxI mnI heldI
  by_cases h1 : z < nI 999
  · rw [if_pos h1]
    by_cases h2 : z < nI 0
    · rw [if_pos h2, if_neg (Int32.not_lt.mpr (Int32.le_of_lt h2))]
    · rw [if_neg h2, if_neg (Int32.not_lt.mpr (Int32.le_of_lt h1))]
      by_cases h3 : nI 0 < z
      · rw [if_pos h3]
      · rw [if_neg h3]; exact Int32.le_antisymm (Int32.not_lt.mp h2) (Int32.not_lt.mp h3)
  · rw [if_neg h1, if_neg (fun h => h1 (Int32.lt_trans h (by decide))), if_pos (by decide)]
    by_cases h3 : nI 999 < z
    · rw [if_pos h3]
    · rw [if_neg h3]; exact Int32.le_antisymm (Int32.not_lt.mp h1) (Int32.not_lt.mp h3)
theorem ab_off (z : Int32) : abI z = offI z (nI 0) := by
  unfold abI offI
  by_cases h : 0 ≤ z
  · rw [if_pos h, if_neg (show ¬ z < nI 0 from Int32.not_lt.mpr h)]; exact (Int32.sub_zero z).symm
  · rw [if_neg h, if_pos (show z < nI 0 from Int32.not_le.mp h)]; rfl
theorem off_ab {z : Int32} (h1 : -50 ≤ z.toInt) (h2 : z.toInt ≤ 50) : ∃ a : Nat, a ≤ 50 ∧ offI z (nI 0) = nI a := by
  unfold offI
  by_cases h : z < nI 0
  · rw [if_pos h]
    have hz := Int32.lt_iff_toInt_lt.mp h
    rw [nI_toInt (by decide)] at hz
    refine ⟨(-z.toInt).toNat, by omega, ?_⟩
    apply Int32.toInt_inj.mp
    rw [nI_toInt (by omega), Int32.toInt_sub, nI_toInt (by decide)]
    rw [Int.bmod_eq_of_le (by omega) (by omega)]
    omega
  · rw [if_neg h]
    have hz := fun q => h (Int32.lt_iff_toInt_lt.mpr q)
    rw [nI_toInt (by decide)] at hz
    have hz : 0 ≤ z.toInt := Int.not_lt.mp hz
    refine ⟨z.toInt.toNat, by omega, ?_⟩
    rw [show nI 0 = 0 from rfl, Int32.sub_zero]
    apply Int32.toInt_inj.mp
    rw [nI_toInt (by omega)]
    omega
theorem held_in (u : Nat) (h : u ≤ 999) : heldI (nI u) (nI 0) (nI 999) = nI u := by
  unfold heldI
  rw [if_neg (show ¬ nI u < nI 0 from nI_pos (by omega)), if_neg (nI_nlt (by omega) (by decide))]
theorem held_nI (z : Int32) : ∃ u, u ≤ 999 ∧ heldI z (nI 0) (nI 999) = nI u := by
  unfold heldI
  by_cases h : z < nI 0
  · exact ⟨0, by omega, by rw [if_pos h]⟩
  · rw [if_neg h]
    by_cases h2 : nI 999 < z
    · exact ⟨999, by omega, by rw [if_pos h2]⟩
    · rw [if_neg h2]
      obtain ⟨j, hj, rfl⟩ := nI_of h
      exact ⟨j, Nat.not_lt.mp (fun q => h2 (nI_lt (a := 999) (b := j) q hj)), rfl⟩
theorem pushing_eq {ε : Ev} {H : Nat} {σ : Sg} {kd : Int32} (hk : σ.1 H 0 = kd) (z : Int32) : fn_X0_pushing ε H z σ = some (pushK kd (heldI z (nI 0) (nI 999)), σ) := by
  obtain ⟨u, hu, e⟩ := held_nI z
  have e3 : mxI (nI 0) (nI u / nI 2 - nI 5) = if nI u / nI 2 ≤ nI 5 then nI 0 else nI u / nI 2 - nI 5 := by
    rw [pk_div (by omega) (by decide) (by decide)]
    unfold mxI
    by_cases h : u / 2 ≤ 5
    · rw [if_pos (nI_le h (by decide))]
      by_cases h5 : u / 2 = 5
      · rw [h5]; decide
      · rw [if_neg (show ¬ nI 0 < nI (u / 2) - nI 5 from Int32.not_lt.mpr (Int32.le_of_lt (pk_sneg (b := 5) (by decide) (by omega))))]
    · rw [pk_sub (by omega), if_pos (nI_lt (a := 0) (by omega) (by omega)), if_neg (nI_ge (by omega) (by omega))]
  simp only [fn_X0_pushing, held_eq, hk, e, e3, pushK, ite_so]
  repeat' split
  all_goals simp_all
theorem pushOf_eq {ε : Ev} {c k nt : Nat} {σ : Sg} {s : Nat → Int32} (hc9 : c < 900) (hk9 : k < 9) (h : hR σ c k s) (hb : sBd s k) (ht : TR ε σ c s nt) : ∃ σ', fn_X4_pushOf ε c (c + 7 + k) σ = some (puS s nt k, σ') ∧ Fs σ σ' := by
  have e0 := h.1 0 (by decide)
  have e1 := h.1 1 (by decide)
  have e2 := h.1 2 (by decide)
  have e4 := h.1 4 (by decide)
  have hc := ht.2.2.2.2 0 (by decide)
  obtain ⟨kd, w, wl, cr, pr, b0, b0', b1, b1', b1'', b3, b3', b4, b4', b5, b5', b2, b2'⟩ := hb
  simp (disch := omega) only [fn_X4_pushOf, nI_clamp, nI_lt0, false_or]
  rw [if_pos (by decide), hc, puS]
  cases hO : lastO s (nI 0) nt with
  | none =>
    obtain ⟨a, ha, ea⟩ := off_ab b2 b2'
    refine ⟨σ, ?_, Fs.rf σ⟩
    rw [oq_n, fn_X4_pushOf_L45, pushing_eq e0, ob_s, pfS, hO, e1, e2, ab_off, b1, ea, pk_mul, pk_div (by
      have : w * a ≤ 99 * 50 := Nat.mul_le_mul b1'' ha
      omega) (by decide) (by decide), held_in _ (by
      have : w * a ≤ 99 * 50 := Nat.mul_le_mul b1'' ha
      omega)]
  | some t =>
    have hj := lastO_some hO
    obtain ⟨x, ex, tx⟩ := ht.2.2.2.1 t hj.1
    show ∃ σ', oq (σ.2 (c + 2) t) _ _ = _ ∧ _
    rw [ex, oq_s, if_pos tx.1, e1, e2, e4, ab_off]
    obtain ⟨g, eg⟩ := value_eq (s (6 + 7 * k + 1)) (offI (s (6 + 7 * k + 2)) (nI 0)) (s (6 + 7 * k + 4)) (nmP (s (6 + 7 * k + 1)) (offI (s (6 + 7 * k + 2)) (nI 0)) (s (6 + 7 * k + 4))) tx (fun key j d hk hk2 hj2 => by
      rw [hj.2] at hk
      have hk : key = 0 := ((nI_eq (by decide) (by omega)).mp hk).symm
      subst hk
      rcases hj2 with ⟨-, ⟨rfl, rfl⟩ | ⟨rfl, rfl⟩ | ⟨rfl, rfl⟩⟩ | ⟨h, -⟩ | ⟨h, -⟩
      · rfl
      · rfl
      · rfl
      · omega
      · omega)
    refine ⟨pA σ (x + 2) g, ?_, Fs.pA g tx.1⟩
    rw [eg, ob_s, fn_X4_pushOf_L45, pushing_eq (kd := s (6 + 7 * k + 0)) (by rw [pA_n (by have := tx.1.1; omega)]; exact e0), ob_s, pfS, hO]
