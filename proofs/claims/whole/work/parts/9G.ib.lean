/-! ===== the call text ===== -/
theorem wkH_c4 {s s2 : Nat → Int32} {b : Nat} (h : ∀ j, b + 4 ≤ j → s2 j = s j) : ∀ k, wkH s2 b k = wkH s b k := by
  intro k
  induction k with
  | zero => rfl
  | succ k ih => rw [wkH, wkH, ih, h (b + 4 + 2 * k) (by omega), h (b + 4 + 2 * k + 1) (by omega)]
theorem bO_b {nt : Nat} : 69 + 200 * nt ≤ bO nt + 4 ∧ bO nt ≤ 2865 ∨ 14 < nt := by
  unfold bO
  by_cases e : nt = 14
  · rw [if_pos e]; omega
  · rw [if_neg e]; omega
theorem bO_l {nt : Nat} (h : nt < 14) : bO nt = 69 + 200 * nt := by unfold bO; rw [if_neg (by omega)]
theorem isX5_b {ε : Ev} {x : Nat} (h : isX5 ε x) : x + 2 < tNew ε := by
  obtain ⟨h1, h2, h3⟩ := h
  have h2' : x < 1000 + 3 * ε.2.1 := h2
  show x + 2 < 1000 + 3 * ε.2.1
  omega
section TXT
variable {ε : Ev} {σ τ : Sg} {v s v' s' : Nat → Int32} {r : Nat → Nat → Int32} {n nt : Nat}
theorem rel_rd {d : Nat} (h : Rel ε σ (v, s, r)) (hS : StO ε σ 16 s nt n) (hd : d ≤ 9999) (hd2 : s 2 = nI d) (hm : Fm (bO nt) σ τ v v' s s') : Rel ε (pI τ 64 1 (nI 0)) (upd v' 16 (nI 0), s', r) := by
  obtain ⟨-, ⟨i1, i2⟩, -, hsh, hsl, hw, hT⟩ := h
  obtain ⟨m1, m2, m3, m4, m5, m6⟩ := hm
  have hb := bO_b (nt := nt)
  have hnt := hS.2.1.1
  have o : ∀ x, x ≠ 64 → x ≠ 66 → (pI τ 64 1 (nI 0)).1 x = σ.1 x := fun x a b => by rw [pI_nc a]; exact m1 x a b
  have o2 : (pI τ 64 1 (nI 0)).2 = σ.2 := m2
  have vo : ∀ x, (x < 17 ∨ 27 ≤ x) → x ≠ 16 → upd v' 16 (nI 0) x = v x := fun x a b => by rw [pk_un b]; exact m3 x a
  have u16 : upd v' 16 (nI 0) 16 = nI 0 := pk_us
  have hx : ∀ y, isX5 ε y → (pI τ 64 1 (nI 0)).1 y = σ.1 y ∧ (pI τ 64 1 (nI 0)).1 (y + 1) = σ.1 (y + 1) := fun y hy => by
    have := hy.1
    exact ⟨o y (by omega) (by omega), o (y + 1) (by omega) (by omega)⟩
  refine ⟨⟨n, nt, d, hS.gen (by decide) (EvG.refl ε) (fun x a b => o x (by omega) (by omega)) (by rw [o2]) (by rw [o2]) hx (fun j hj => m4 j (by omega)), hd, (m4 2 (by omega)).trans hd2⟩, ⟨?_, ?_⟩, ⟨0, by decide, pI_e _ _ _ _, u16, fun j hj => absurd hj (by omega)⟩, hsh.sm (fun x a b => o x (by omega) (by omega)) (fun _ _ _ => rfl), hsl.sm (fun x a b => o x (by omega) (by omega)) (fun _ _ _ => rfl), hw.sm (by rw [o 0 (by decide) (by decide)]) (o 3 (by decide) (by decide)) (vo 31 (by decide) (by decide)) rfl, hT.same o2⟩
  · show (pI τ 64 1 (nI 0)).1 0 8 = upd v' 16 (nI 0) 3
    rw [o 0 (by decide) (by decide), vo 3 (by decide) (by decide)]; exact i1
  · show upd v' 16 (nI 0) 3 = nI 0 ∨ (upd v' 16 (nI 0) 3 = nI 1 ∧ ∃ n nt d, StO ε (pI τ 64 1 (nI 0)) 32 (r 1) nt n ∧ d ≤ 9999 ∧ r 1 2 = nI d)
    rw [vo 3 (by decide) (by decide)]
    rcases i2 with i2 | ⟨i2, n, nt, d, a, b⟩
    · exact Or.inl i2
    · exact Or.inr ⟨i2, n, nt, d, a.gen (by decide) (EvG.refl ε) (fun x c e => o x (by omega) (by omega)) (by rw [o2]) (by rw [o2]) hx (fun _ _ => rfl), b⟩
/-- the row of the reference with the new text -/
def sNw (s' : Nat → Int32) (nt key P L : Nat) : Nat → Int32 := upd (upd (upd (upd s' (69 + 200 * nt) (nI key)) (69 + 200 * nt + 1) (nI P)) (69 + 200 * nt + 2) (nI L)) 1 (nI (nt + 1))
/-- the class's state with the new text -/
def gNw (ε : Ev) (ρ : Sg) (nt key P : Nat) (g : Nat → Int32) : Sg := pI (pT (pT (sG ε ρ (nI nt) (nI key) (nI P) g) 18 nt (some (tNew ε))) 19 key (some (tNew ε))) 16 7 (nI (nt + 1))
theorem rel_nw {d key L P Q tp st en : Nat} {B : Nat → Nat} (h : Rel ε σ (v, s, r)) (hS : StO ε σ 16 s nt n) (hnt : nt < 14) (hd : d ≤ 9999) (hd2 : s 2 = nI d) (hF : FS tp B (bO nt) key σ v s r τ v' s' st en L P P 1 0 0 st) (a b e : Nat) (g : Nat → Int32) (hg : ∀ j, j < L → g j = (pI τ 64 1 (nI 0)).1 66 j) : Rel (eG ε a b e L P) (gNw ε (pI τ 64 1 (nI 0)) nt key P g) (upd v' 16 (nI 0), sNw s' nt key P L, r) := by
  have hP1 := hF.hP
  obtain ⟨-, hm, -, ⟨k5, k2, d22, t23, l7, l24, p8, p26, hl, hk6, hp⟩, hst, hH, hh⟩ := hF
  obtain ⟨-, ⟨i1, i2⟩, -, hsh, hsl, hw, hT⟩ := h
  obtain ⟨m1, m2, m3, m4, m5, m6⟩ := hm
  have hbl := bO_l hnt
  rw [hbl] at m4 hst hH hh
  have hge : 1000 ≤ tNew ε := Nat.le_add_right _ _
  have o : ∀ x, x ≠ 64 → x ≠ 66 → x ≠ 16 → x < tNew ε → (gNw ε (pI τ 64 1 (nI 0)) nt key P g).1 x = σ.1 x := fun x q1 q2 q3 q4 => by
    rw [gNw, pI_nc q3, pT_1, pT_1]
    show (if x = tNew ε then _ else if x = tNew ε + 1 then g else if x = tNew ε + 2 then _ else (pI τ 64 1 (nI 0)).1 x) = σ.1 x
    rw [if_neg (by omega), if_neg (by omega), if_neg (by omega), pI_nc q1]; exact m1 x q1 q2
  have o16 : ∀ k, k ≠ 7 → (gNw ε (pI τ 64 1 (nI 0)) nt key P g).1 16 k = σ.1 16 k := fun k hk => by
    rw [gNw, pI_n (Or.inr hk), pT_1, pT_1]
    show (if 16 = tNew ε then _ else if 16 = tNew ε + 1 then g else if 16 = tNew ε + 2 then _ else (pI τ 64 1 (nI 0)).1 16) k = σ.1 16 k
    rw [if_neg (by omega), if_neg (by omega), if_neg (by omega), pI_nc (by decide), m1 16 (by decide) (by decide)]
  have o64 : (gNw ε (pI τ 64 1 (nI 0)) nt key P g).1 64 1 = nI 0 := by
    rw [gNw, pI_nc (by decide), pT_1, pT_1]
    show (if 64 = tNew ε then _ else if 64 = tNew ε + 1 then g else if 64 = tNew ε + 2 then _ else (pI τ 64 1 (nI 0)).1 64) 1 = nI 0
    rw [if_neg (by omega), if_neg (by omega), if_neg (by omega), pI_e]
  have ot : (gNw ε (pI τ 64 1 (nI 0)) nt key P g).1 (tNew ε) = fun k => if k = 0 then nI nt else if k = 1 then nI key else nI P := by
    rw [gNw, pI_nc (by omega), pT_1, pT_1]
    show (if tNew ε = tNew ε then _ else _) = _
    rw [if_pos rfl]
  have ot1 : (gNw ε (pI τ 64 1 (nI 0)) nt key P g).1 (tNew ε + 1) = g := by
    rw [gNw, pI_nc (by omega), pT_1, pT_1]
    show (if tNew ε + 1 = tNew ε then _ else if tNew ε + 1 = tNew ε + 1 then g else _) = g
    rw [if_neg (by omega), if_pos rfl]
  have r2 : ∀ c, c ≠ 18 → c ≠ 19 → (gNw ε (pI τ 64 1 (nI 0)) nt key P g).2 c = σ.2 c := fun c q1 q2 => by
    show (pT (pT (sG ε (pI τ 64 1 (nI 0)) (nI nt) (nI key) (nI P) g) 18 nt (some (tNew ε))) 19 key (some (tNew ε))).2 c = σ.2 c
    rw [pT_n q2, pT_n q1, ← m2]; rfl
  have r18 : (gNw ε (pI τ 64 1 (nI 0)) nt key P g).2 18 = (pT (sG ε (pI τ 64 1 (nI 0)) (nI nt) (nI key) (nI P) g) 18 nt (some (tNew ε))).2 18 := by
    show (pT (pT (sG ε (pI τ 64 1 (nI 0)) (nI nt) (nI key) (nI P) g) 18 nt (some (tNew ε))) 19 key (some (tNew ε))).2 18 = _
    rw [pT_n (by decide)]
  have r18n : ∀ k, k ≠ nt → (gNw ε (pI τ 64 1 (nI 0)) nt key P g).2 18 k = σ.2 18 k := fun k hk => by rw [r18, pT_k hk, ← m2]; rfl
  have r18e : (gNw ε (pI τ 64 1 (nI 0)) nt key P g).2 18 nt = some (tNew ε) := by rw [r18, pT_e]
  have r19n : ∀ k, k ≠ key → (gNw ε (pI τ 64 1 (nI 0)) nt key P g).2 19 k = σ.2 19 k := fun k hk => by
    show (pT (pT (sG ε (pI τ 64 1 (nI 0)) (nI nt) (nI key) (nI P) g) 18 nt (some (tNew ε))) 19 key (some (tNew ε))).2 19 k = σ.2 19 k
    rw [pT_k hk, pT_n (by decide), ← m2]; rfl
  have r19e : (gNw ε (pI τ 64 1 (nI 0)) nt key P g).2 19 key = some (tNew ε) := by
    show (pT (pT (sG ε (pI τ 64 1 (nI 0)) (nI nt) (nI key) (nI P) g) 18 nt (some (tNew ε))) 19 key (some (tNew ε))).2 19 key = _
    rw [pT_e]
  have vo : ∀ x, (x < 17 ∨ 27 ≤ x) → x ≠ 16 → upd v' 16 (nI 0) x = v x := fun x a b => by rw [pk_un b]; exact m3 x a
  have hx5 : isX5 (eG ε a b e L P) (tNew ε) := ⟨hge, by show 1000 + 3 * ε.2.1 < 1000 + 3 * (ε.2.1 + 1); omega, by show (1000 + 3 * ε.2.1) % 3 = 1; omega⟩
  have u16 : upd v' 16 (nI 0) 16 = nI 0 := pk_us
  have hx : ∀ y, isX5 ε y → (gNw ε (pI τ 64 1 (nI 0)) nt key P g).1 y = σ.1 y ∧ (gNw ε (pI τ 64 1 (nI 0)) nt key P g).1 (y + 1) = σ.1 (y + 1) := fun y hy => by
    have h1 := hy.1
    have h2 := isX5_b hy
    exact ⟨o y (by omega) (by omega) (by omega) (by omega), o (y + 1) (by omega) (by omega) (by omega) (by omega)⟩
  have sn : ∀ j, j ≠ 1 → (j < 69 + 200 * nt ∨ 69 + 200 * nt + 4 ≤ j) → sNw s' nt key P L j = s' j := fun j q1 q2 => by rw [sNw, pk_un q1, pk_un (by omega), pk_un (by omega), pk_un (by omega)]
  have s0 : sNw s' nt key P L (69 + 200 * nt) = nI key := by rw [sNw, pk_un (by omega), pk_un (by omega), pk_un (by omega), pk_us]
  have s1 : sNw s' nt key P L (69 + 200 * nt + 1) = nI P := by rw [sNw, pk_un (by omega), pk_un (by omega), pk_us]
  have s2 : sNw s' nt key P L (69 + 200 * nt + 2) = nI L := by rw [sNw, pk_un (by omega), pk_us]
  have sl : ∀ j, j ≠ 1 → j < 69 + 200 * nt → sNw s' nt key P L j = s j := fun j q1 q2 => by rw [sn j q1 (Or.inl q2)]; exact m4 j (by omega)
  have s11 : sNw s' nt key P L 1 = nI (nt + 1) := by rw [sNw, pk_us]
  have o7 : (gNw ε (pI τ 64 1 (nI 0)) nt key P g).1 16 7 = nI (nt + 1) := by rw [gNw, pI_e]
  have hwk := wkH_c4 (s := s') (s2 := sNw s' nt key P L) (b := 69 + 200 * nt) (fun j hj => sn j (by omega) (Or.inr hj))
  have hX : TxR (eG ε a b e L P) (gNw ε (pI τ 64 1 (nI 0)) nt key P g) (tNew ε) (sNw s' nt key P L) nt := by
    refine ⟨hx5, by rw [ot]; rfl, key, L, P, k2, s0, by rw [ot]; rfl, s1, by rw [ot]; rfl, hP1, by omega, s2, by omega, ?_, ?_, fun k hk => ?_, fun k hk => by rw [hwk k]; exact hH k hk, by rw [hwk L]; exact hh⟩
    · show (if tNew ε + 1 = tNew ε + 1 then L else _) = L
      rw [if_pos rfl]
    · show (if tNew ε + 2 = tNew ε + 1 then L else if tNew ε + 2 = tNew ε + 2 then P else _) = P
      rw [if_neg (by omega), if_pos rfl]
    · rw [ot1, hg k hk, pI_nc (by decide), sn _ (by omega) (by omega), sn _ (by omega) (by omega)]; exact hst k hk
  refine ⟨⟨n, nt + 1, d, hS.new hnt k2 (EvG.g ε a b e L P) (fun y q1 q2 => o y (by omega) (by omega) (by omega) (by omega)) o16 o7 r18n r18e r19n r19e hx sl s11 s0 hX, hd, (sl 2 (by decide) (by omega)).trans hd2⟩, ⟨?_, ?_⟩, ⟨0, by decide, o64, u16, fun j hj => absurd hj (by omega)⟩, hsh.sm (fun x q1 q2 => o x (by omega) (by omega) (by omega) (by omega)) (fun _ _ _ => rfl), hsl.sm (fun x q1 q2 => o x (by omega) (by omega) (by omega) (by omega)) (fun _ _ _ => rfl), hw.sm (by rw [o 0 (by decide) (by decide) (by decide) (by omega)]) (o 3 (by decide) (by decide) (by decide) (by omega)) (vo 31 (by decide) (by decide)) rfl, ?_⟩
  · show (gNw ε (pI τ 64 1 (nI 0)) nt key P g).1 0 8 = upd v' 16 (nI 0) 3
    rw [o 0 (by decide) (by decide) (by decide) (by omega), vo 3 (by decide) (by decide)]; exact i1
  · show upd v' 16 (nI 0) 3 = nI 0 ∨ (upd v' 16 (nI 0) 3 = nI 1 ∧ ∃ n nt d, StO (eG ε a b e L P) (gNw ε (pI τ 64 1 (nI 0)) _ key P g) 32 (r 1) nt n ∧ d ≤ 9999 ∧ r 1 2 = nI d)
    rw [vo 3 (by decide) (by decide)]
    rcases i2 with i2 | ⟨i2, n', nt', d', q, q'⟩
    · exact Or.inl i2
    · exact Or.inr ⟨i2, n', nt', d', q.gen (by decide) (EvG.g ε a b e L P) (fun x q1 q2 => o x (by omega) (by omega) (by omega) (by omega)) (r2 34 (by decide) (by decide)) (r2 35 (by decide) (by decide)) hx (fun _ _ => rfl), q'⟩
  · intro c k x hcx
    by_cases c1 : c = 19
    · subst c1
      by_cases kk : k = key
      · subst kk; rw [r19e] at hcx; cases hcx; exact hx5
      · rw [r19n k kk] at hcx; exact (EvG.g ε a b e L P x (hT _ _ _ hcx)).1
    · by_cases c2 : c = 18
      · subst c2
        by_cases kk : k = nt
        · subst kk; rw [r18e] at hcx; cases hcx; exact hx5
        · rw [r18n k kk] at hcx; exact (EvG.g ε a b e L P x (hT _ _ _ hcx)).1
      · rw [r2 c c2 c1] at hcx; exact (EvG.g ε a b e L P x (hT _ _ _ hcx)).1
end TXT
