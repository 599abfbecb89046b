/-! ===== a text more: what was there stays ===== -/
def EvG (ε ε' : Ev) : Prop := ∀ x, isX5 ε x → isX5 ε' x ∧ sLn ε' (x + 1) = sLn ε (x + 1) ∧ sLn ε' (x + 2) = sLn ε (x + 2)
theorem EvG.refl (ε : Ev) : EvG ε ε := fun _ h => ⟨h, rfl, rfl⟩
theorem EvG.g (ε : Ev) (a b e n m : Nat) : EvG ε (eG ε a b e n m) := by
  intro x h
  obtain ⟨h1, h2, h3⟩ := h
  have h2' : x < 1000 + 3 * ε.2.1 := h2
  refine ⟨⟨h1, ?_, h3⟩, ?_, ?_⟩
  · show x < 1000 + 3 * (ε.2.1 + 1); omega
  · show (if x + 1 = 1000 + 3 * ε.2.1 + 1 then n else if x + 1 = 1000 + 3 * ε.2.1 + 2 then m else ε.1 (x + 1)) = ε.1 (x + 1)
    rw [if_neg (by omega), if_neg (by omega)]
  · show (if x + 2 = 1000 + 3 * ε.2.1 + 1 then n else if x + 2 = 1000 + 3 * ε.2.1 + 2 then m else ε.1 (x + 2)) = ε.1 (x + 2)
    rw [if_neg (by omega), if_neg (by omega)]
theorem TxR.gen {ε ε' : Ev} {σ σ' : Sg} {x t nt : Nat} {s s' : Nat → Int32} (h : TxR ε σ x s t) (ht : t < nt) (he : EvG ε ε') (h1 : ∀ y, isX5 ε y → σ'.1 y = σ.1 y ∧ σ'.1 (y + 1) = σ.1 (y + 1)) (hs : ∀ j, 69 ≤ j → j < 69 + 200 * nt → s' j = s j) : TxR ε' σ' x s' t := by
  obtain ⟨h5, hnum, key, m, p, hk2, hks, hkx, hps, hpx, hp1, hp96, hms, hm96, hlm, hlp, hst, hh, h11⟩ := h
  have hw := wkH_lo (s := s) (s2 := s') (b := 69 + 200 * t) (M := m) (fun j a b => hs j (by omega) (by omega))
  obtain ⟨e1, e2, e3⟩ := he x h5
  obtain ⟨f1, f2⟩ := h1 x h5
  refine ⟨e1, by rw [f1]; exact hnum, key, m, p, hk2, by rw [hs _ (by omega) (by omega)]; exact hks, by rw [f1]; exact hkx, by rw [hs _ (by omega) (by omega)]; exact hps, by rw [f1]; exact hpx, hp1, hp96, by rw [hs _ (by omega) (by omega)]; exact hms, hm96, e2.trans hlm, e3.trans hlp, fun k hk => ?_, fun k hk => ?_, ?_⟩
  · rw [f2, hs _ (by omega) (by omega), hs _ (by omega) (by omega)]; exact hst k hk
  · rw [hw k hk]; exact hh k hk
  · rw [hw m (Nat.le_refl m)]; exact h11
theorem lastO_gen {s s' : Nat → Int32} {key : Int32} {nt : Nat} (hs : ∀ j, 69 ≤ j → j < 69 + 200 * nt → s' j = s j) : ∀ n, n ≤ nt → lastO s' key n = lastO s key n := by
  intro n
  induction n with
  | zero => intro _; rfl
  | succ n ih => intro hn; rw [lastO, lastO, ih (by omega), hs _ (by omega) (by omega)]
theorem StO.gen {ε ε' : Ev} {σ σ' : Sg} {c n nt : Nat} {s s' : Nat → Int32} (hc : c < 900) (h : StO ε σ c s nt n) (he : EvG ε ε') (hi : ∀ x, c ≤ x → x < c + 16 → σ'.1 x = σ.1 x) (h2 : σ'.2 (c + 2) = σ.2 (c + 2)) (h3 : σ'.2 (c + 3) = σ.2 (c + 3)) (h1 : ∀ y, isX5 ε y → σ'.1 y = σ.1 y ∧ σ'.1 (y + 1) = σ.1 (y + 1)) (hs : ∀ j, j < 69 + 200 * nt → s' j = s j) : StO ε' σ' c s' nt n := by
  obtain ⟨⟨a1, a2, a3, a4, a5, a6, a7, a8⟩, ⟨b1, b2, b3, b4, b5⟩, hB, hd⟩ := h
  have e := hi c (by omega) (by omega)
  refine ⟨⟨a1, by rw [hs 0 (by omega)]; exact a2, by rw [e]; exact a3, by rw [e, hs 4 (by omega)]; exact a4, by rw [e, hs 3 (by omega)]; exact a5, by rw [e, hs 2 (by omega)]; exact a6, by rw [e, hs 5 (by omega)]; exact a7, fun k hk => ?_⟩, ⟨b1, by rw [hs 1 (by omega)]; exact b2, by rw [e]; exact b3, fun t ht => ?_, fun key hk => ?_⟩, fun k hk => ?_, by rw [hs 4 (by omega)]; exact hd⟩
  · obtain ⟨c1, c2, c3⟩ := a8 k hk
    have e2 := hi (c + 7 + k) (by omega) (by omega)
    exact ⟨fun w hw => by rw [e2, hs _ (by omega)]; exact c1 w hw, by rw [e2, hs _ (by omega)]; exact c2, by rw [hs _ (by omega)]; exact c3⟩
  · obtain ⟨x, e1, e2⟩ := b4 t ht
    exact ⟨x, by rw [h2]; exact e1, e2.gen ht he h1 (fun j _ hj => hs j hj)⟩
  · rw [h3, h2, lastO_gen (fun j _ hj => hs j hj) nt (Nat.le_refl nt)]; exact b5 key hk
  · obtain ⟨kd, w, wl, cr, pr, b0, b0', b1, b1', b1'', b3, b3', b4, b4', b5, b5', b2, b2'⟩ := hB k hk
    exact ⟨kd, w, wl, cr, pr, by rw [hs _ (by omega)]; exact b0, b0', by rw [hs _ (by omega)]; exact b1, b1', b1'', by rw [hs _ (by omega)]; exact b3, b3', by rw [hs _ (by omega)]; exact b4, b4', by rw [hs _ (by omega)]; exact b5, b5', by rw [hs _ (by omega)]; exact b2, by rw [hs _ (by omega)]; exact b2'⟩
/-- a new text behind the others -/
theorem StO.new {ε ε' : Ev} {σ σ' : Sg} {n nt key x : Nat} {s s' : Nat → Int32} (h : StO ε σ 16 s nt n) (hnt : nt < 14) (hkey : key ≤ 2) (he : EvG ε ε') (hi : ∀ y, 17 ≤ y → y < 32 → σ'.1 y = σ.1 y) (hi6 : ∀ k, k ≠ 7 → σ'.1 16 k = σ.1 16 k) (h7 : σ'.1 16 7 = nI (nt + 1)) (h2 : ∀ k, k ≠ nt → σ'.2 18 k = σ.2 18 k) (h2' : σ'.2 18 nt = some x) (h3 : ∀ k, k ≠ key → σ'.2 19 k = σ.2 19 k) (h3' : σ'.2 19 key = some x) (h1 : ∀ y, isX5 ε y → σ'.1 y = σ.1 y ∧ σ'.1 (y + 1) = σ.1 (y + 1)) (hs : ∀ j, j ≠ 1 → j < 69 + 200 * nt → s' j = s j) (hs1 : s' 1 = nI (nt + 1)) (hk : s' (69 + 200 * nt) = nI key) (hx : TxR ε' σ' x s' nt) : StO ε' σ' 16 s' (nt + 1) n := by
  obtain ⟨⟨a1, a2, a3, a4, a5, a6, a7, a8⟩, ⟨b1, b2, b3, b4, b5⟩, hB, hd⟩ := h
  refine ⟨⟨a1, by rw [hs 0 (by decide) (by omega)]; exact a2, by rw [hi6 6 (by decide)]; exact a3, by rw [hi6 8 (by decide), hs 4 (by decide) (by omega)]; exact a4, by rw [hi6 9 (by decide), hs 3 (by decide) (by omega)]; exact a5, by rw [hi6 10 (by decide), hs 2 (by decide) (by omega)]; exact a6, by rw [hi6 11 (by decide), hs 5 (by decide) (by omega)]; exact a7, fun k hk => ?_⟩, ⟨by omega, hs1, h7, fun t ht => ?_, fun ky hk2 => ?_⟩, fun k hk => ?_, by rw [hs 4 (by decide) (by omega)]; exact hd⟩
  · obtain ⟨c1, c2, c3⟩ := a8 k hk
    have e2 := hi (16 + 7 + k) (by omega) (by omega)
    exact ⟨fun w hw => by rw [e2, hs _ (by omega) (by omega)]; exact c1 w hw, by rw [e2, hs _ (by omega) (by omega)]; exact c2, by rw [hs _ (by omega) (by omega)]; exact c3⟩
  · by_cases et : t = nt
    · subst et; exact ⟨x, h2', hx⟩
    · obtain ⟨y, e1, e2⟩ := b4 t (by omega)
      exact ⟨y, by rw [h2 t et]; exact e1, e2.gen (nt := nt) (by omega) he h1 (fun j hj hj2 => hs j (by omega) hj2)⟩
  · rw [lastO, hk]
    by_cases ek : key = ky
    · subst ek
      rw [if_pos rfl]
      show σ'.2 19 key = σ'.2 18 nt
      rw [h3', h2']
    · rw [if_neg (fun w => ek (nI_j (by omega) (by omega) w)), lastO_gen (fun j hj hj2 => hs j (by omega) hj2) nt (Nat.le_refl nt), h3 ky (fun w => ek w.symm)]
      have e := b5 ky hk2
      cases hl : lastO s (nI ky) nt with
      | none => rw [hl] at e; exact e
      | some t =>
        rw [hl] at e
        have ht := (lastO_some hl).1
        show σ.2 19 ky = σ'.2 18 t
        rw [h2 t (by omega)]; exact e
  · obtain ⟨kd, w, wl, cr, pr, b0, b0', b1, b1', b1'', b3, b3', b4, b4', b5, b5', b2, b2'⟩ := hB k hk
    exact ⟨kd, w, wl, cr, pr, by rw [hs _ (by omega) (by omega)]; exact b0, b0', by rw [hs _ (by omega) (by omega)]; exact b1, b1', b1'', by rw [hs _ (by omega) (by omega)]; exact b3, b3', by rw [hs _ (by omega) (by omega)]; exact b4, b4', by rw [hs _ (by omega) (by omega)]; exact b5, b5', by rw [hs _ (by omega) (by omega)]; exact b2, by rw [hs _ (by omega) (by omega)]; exact b2'⟩
