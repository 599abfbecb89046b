/-! ===== a text is read ===== -/
def bO (nt : Nat) : Nat := if nt = 14 then 2865 else 69 + 200 * nt
theorem TT0 {tp : Nat} {B : Nat → Nat} {σ : Sg} {v : Nat → Int32} {st en : Nat} (h : TT tp B σ v st en) : (σ.1 64 4 = 0) = (v 19 = 0) := by
  unfold TT at h
  rcases h with ⟨e1, e2, -⟩ | ⟨e1, e2, -⟩ | ⟨e1, e2, -⟩ | ⟨e1, e2, -⟩ | ⟨e1, e2, -⟩ | ⟨e1, e2⟩
  · rw [e1, e2]
  · rw [e1, e2]
  · rw [e1, e2]
  · rw [e1, e2]
  · rw [e1, e2]; exact propext ⟨fun w => absurd w (by decide), fun w => absurd w (by decide)⟩
  · rw [e1, e2]
theorem parse_ok {ε : Ev} {σ : Sg} {v s : Nat → Int32} {r : Nat → Nat → Int32} {n nt : Nat} (hS : StO ε σ 16 s nt n) (hT : RTape σ (v, s, r)) : (∃ τ v' s', fn_X1_isText ε σ = some (nI 0, τ) ∧ fn_X7_parse (v, s, r) = some (-1, (upd v' 16 (nI 0), s', r)) ∧ FW (bO nt) σ v s τ v' s') ∨ ∃ τ v' s' st en L P key tp B, fn_X1_isText ε σ = some (nI 1, τ) ∧ fn_X7_parse (v, s, r) = some (nI key, (upd v' 16 (nI 0), s', r)) ∧ FS tp B (bO nt) key σ v s r τ v' s' st en L P P 1 0 0 st := by
  obtain ⟨tp, t1, t2, t3, t4⟩ := hT
  have hnt := hS.2.1.1
  have hs1 := hS.2.1.2.1
  have hb5 : bO nt ≤ 2865 := by unfold bO; by_cases e : nt = 14 <;> simp [e]; omega
  let B : Nat → Nat := fun j => (σ.1 65 j).toNatClampNeg
  have hB : ∀ j, j < tp → B j < 256 ∧ σ.1 65 j = nI (B j) ∧ r 15 j = nI (B j) := fun j hj => by
    obtain ⟨b, b1, b2, b3⟩ := t4 j hj
    have e : B j = b := by show (σ.1 65 j).toNatClampNeg = b; rw [b2, nI_clamp (by omega)]
    rw [e]; exact ⟨b1, b2, b3⟩
  have E7 : fn_X7_parse (v, s, r) = fn_X7_parse_L60 (nI (bO nt + 4)) ((upd (upd (upd (upd (upd (upd v 18 (nI 0)) 19 (nI 3)) 22 (nI 0)) 23 (nI 0)) 24 (nI 0)) 26 (nI 0), s, r)) := by
    rw [fn_X7_parse, nI_clamp (show 1 < 2 ^ 31 by decide), if_pos (g_in (show 1 < 3069 by decide) (by decide))]
    dsimp only
    simp only [hs1]
    unfold bO
    by_cases e : nt = 14
    · rw [if_pos e, if_pos (show nI 14 ≤ nI nt from by rw [e]; decide)]
    · rw [if_neg e, if_neg (show ¬ nI 14 ≤ nI nt from nI_ge (by omega) (by decide)), fn_X7_textAt, ob_s, pk_mul, nI_add, nI_add]
  generalize hvi : upd (upd (upd (upd (upd (upd v 18 (nI 0)) 19 (nI 3)) 22 (nI 0)) 23 (nI 0)) 24 (nI 0)) 26 (nI 0) = vi at E7
  generalize hvj : upd vi 25 (nI (bO nt + 4)) = vj
  have j18 : vj 18 = nI 0 := by rw [← hvj, ← hvi, pk_un (by decide), pk_un (by decide), pk_un (by decide), pk_un (by decide), pk_un (by decide), pk_un (by decide), pk_us]
  have j22 : vj 22 = nI 0 := by rw [← hvj, ← hvi, pk_un (by decide), pk_un (by decide), pk_un (by decide), pk_un (by decide), pk_us]
  have j23 : vj 23 = nI 0 := by rw [← hvj, ← hvi, pk_un (by decide), pk_un (by decide), pk_un (by decide), pk_us]
  have j24 : vj 24 = nI 0 := by rw [← hvj, ← hvi, pk_un (by decide), pk_un (by decide), pk_us]
  have j26 : vj 26 = nI 0 := by rw [← hvj, ← hvi, pk_un (by decide), pk_us]
  have j25 : vj 25 = nI (bO nt + 4) := by rw [← hvj, pk_us]
  have jo : ∀ x, (x < 17 ∨ 27 ≤ x) → vj x = v x := fun x hx => by rw [← hvj, ← hvi, pk_un (by omega), pk_un (by omega), pk_un (by omega), pk_un (by omega), pk_un (by omega), pk_un (by omega), pk_un (by omega)]
  generalize hsi : pI (pI (pI (pI σ 64 3 (nI 0)) 64 4 (nI 0)) 64 7 (nI 0)) 64 8 (nI 0) = σi
  have i3 : σi.1 64 3 = nI 0 := by rw [← hsi, pI_n (Or.inr (by decide)), pI_n (Or.inr (by decide)), pI_n (Or.inr (by decide)), pI_e]
  have i4 : σi.1 64 4 = nI 0 := by rw [← hsi, pI_n (Or.inr (by decide)), pI_n (Or.inr (by decide)), pI_e]
  have i7 : σi.1 64 7 = nI 0 := by rw [← hsi, pI_n (Or.inr (by decide)), pI_e]
  have i8 : σi.1 64 8 = nI 0 := by rw [← hsi, pI_e]
  have i1 : σi.1 64 1 = σ.1 64 1 := by rw [← hsi, pI_n (Or.inr (by decide)), pI_n (Or.inr (by decide)), pI_n (Or.inr (by decide)), pI_n (Or.inr (by decide))]
  have io : ∀ x, x ≠ 64 → σi.1 x = σ.1 x := fun x hx => by rw [← hsi, pI_nc hx, pI_nc hx, pI_nc hx, pI_nc hx]
  have i2 : σi.2 = σ.2 := by rw [← hsi]; rfl
  have T0 : Tp tp B σi vj r := ⟨t1, fun j hj => (hB j hj).1, i1.trans t2, (jo 16 (by decide)).trans t3, fun j hj => by rw [io 65 (by decide)]; exact (hB j hj).2.1, fun j hj => (hB j hj).2.2⟩
  obtain ⟨σ1, v1, st1, en1, e1, e2, -, hK1, o1, o2, o3, o4⟩ := next_ok (ε := ε) (s := s) T0 false i3 j18 (Nat.zero_le tp) ⟨⟨by rw [i4]; decide, by rw [i4]; decide⟩, Or.inl rfl⟩
  have T1 : Tp tp B σ1 v1 r := ⟨t1, fun j hj => (hB j hj).1, by rw [o2 1 (by decide) (by decide) (by decide)]; exact T0.2.2.1, by rw [o4 16 (by decide)]; exact T0.2.2.2.1, fun j hj => by rw [o1 65 (by decide)]; exact T0.2.2.2.2.1 j hj, T0.2.2.2.2.2⟩
  rw [fn_X1_isText, E7, fn_X7_parse_L60]
  dsimp only
  rw [hsi, hvj, e1, e2, ob_s, ob_s]
  have FM : ∀ (τ : Sg) (v' : Nat → Int32), (∀ x, x ≠ 64 → τ.1 x = σ1.1 x) → τ.2 = σ1.2 → (∀ x, (x < 17 ∨ 22 ≤ x) → v' x = v1 x) → Fm (bO nt) σ τ v v' s s := fun τ v' a1 a2 a3 => ⟨fun x hx _ => by rw [a1 x hx, o1 x hx]; exact io x hx, by rw [a2, o3, i2], fun x hx => by rw [a3 x (by omega), o4 x (by omega)]; exact jo x hx, fun _ _ => rfl, by rw [a3 25 (by decide), o4 25 (by decide)]; exact j25, hb5⟩
  rcases key_ok (ε := ε) (s := s) T1 hK1 with ⟨k4, k19, key, hk2, hse, f1, f2⟩ | ⟨f1, f2⟩
  · rw [f1, f2, ob_s, ob_s]
    have p0 : (pI σ1 64 5 (nI key)).1 64 5 = nI key := pI_e _ _ _ _
    rw [p0, if_pos (show (0 : Int32) ≤ nI key from nI_le (a := 0) (Nat.zero_le _) (by omega)), if_neg (show ¬ nI key < 0 from nI_pos (by omega)), fn_X7_parse_L81, if_neg (show ¬ nI 1 = 0 from by decide)]
    obtain ⟨q2, q17, q3, q18, l1, l2, hTT⟩ := hK1
    have T2 : Tp tp B (pI σ1 64 5 (nI key)) v1 r := ⟨t1, fun j hj => (hB j hj).1, by rw [pI_n (Or.inr (by decide))]; exact T1.2.2.1, T1.2.2.2.1, fun j hj => by rw [pI_nc (by decide)]; exact T1.2.2.2.2.1 j hj, T1.2.2.2.2.2⟩
    obtain ⟨σ2, v2, st2, en2, g1, g2, g3, hK2, u1, u2, u3, u4⟩ := next_ok (ε := ε) (s := s) T2 true (en := en1) (by rw [pI_n (Or.inr (by decide))]; exact q3) q18 l2 ⟨Or.inl (by rw [pI_n (Or.inr (by decide))]; exact k4), Or.inl k19, by omega⟩
    have l22 := hK2.2.2.2.2.1
    have l23 := hK2.2.2.2.2.2.1
    have hF : FS tp B (bO nt) key σ v s r σ2 v2 s st2 en2 0 0 0 0 0 0 st2 := by
      refine ⟨⟨t1, fun j hj => (hB j hj).1, by rw [u2 1 (by decide) (by decide) (by decide)]; exact T2.2.2.1, by rw [u4 16 (by decide)]; exact T2.2.2.2.1, fun j hj => by rw [u1 65 (by decide)]; exact T2.2.2.2.2.1 j hj, T2.2.2.2.2.2⟩, FM σ2 v2 (fun x hx => by rw [u1 x hx, pI_nc hx]) (by rw [u3]; rfl) u4, hK2, ⟨by rw [u2 5 (by decide) (by decide) (by decide)]; exact p0, hk2, by rw [u4 22 (by decide), o4 22 (by decide)]; exact j22, by rw [u4 23 (by decide), o4 23 (by decide)]; exact j23, by rw [u2 7 (by decide) (by decide) (by decide), pI_n (Or.inr (by decide)), o2 7 (by decide) (by decide) (by decide)]; exact i7, by rw [u4 24 (by decide), o4 24 (by decide)]; exact j24, by rw [u2 8 (by decide) (by decide) (by decide), pI_n (Or.inr (by decide)), o2 8 (by decide) (by decide) (by decide)]; exact i8, by rw [u4 26 (by decide), o4 26 (by decide)]; exact j26, by omega, by omega, Nat.le_refl 0⟩, fun k hk => absurd hk (by omega), fun k hk => ?_, rfl⟩
      have e : k = 0 := by omega
      subst e
      exact ⟨0, rfl, Nat.le_refl 0⟩
    rw [g1, g2, ob_s, ob_s]
    rcases or_sim (ε := ε) (piece_sim (ε := ε) (tp := tp) (B := B) (b := bO nt) (key := key) (σ0 := σ) (v0 := v) (s0 := s) (r := r) 20 0 0 (by decide) (by decide) (by decide)) σ2 v2 s st2 en2 0 0 0 hF with ⟨τ, v', s', st', en', L', P', w1, w2, hF', -, -⟩ | ⟨τ, v', s', w1, w2, hW⟩
    · rw [w1, w2, ob_s, ob_s, if_neg (show ¬ nI 1 = 0 from by decide), if_neg (show ¬ nI 1 = 0 from by decide)]
      dsimp only
      have h0 := TT0 hF'.2.2.1.2.2.2.2.2.2
      by_cases z : v' 19 = 0
      · rw [if_pos (show τ.1 64 4 = 0 from by rw [h0]; exact z), if_pos z, fn_X1_isText_L66, if_pos (show nI 1 = 0 ∨ nI 1 = 1 from by decide), fn_X7_parse_L110, fn_X7_parse_L111, if_neg (show ¬ nI 1 = 0 from by decide), fn_X7_parse_L125]
        exact Or.inr ⟨τ, v', s', st', en', L', P', key, tp, B, rfl, rfl, hF'⟩
      · rw [if_neg (show ¬ τ.1 64 4 = 0 from by rw [h0]; exact z), if_neg z, fn_X1_isText_L65, fn_X1_isText_L66, if_pos (show nI 0 = 0 ∨ nI 0 = 1 from by decide), fn_X7_parse_L109, fn_X7_parse_L110, fn_X7_parse_L111, if_pos (show nI 0 = 0 from rfl), fn_X7_parse_L125]
        exact Or.inl ⟨τ, v', s', rfl, rfl, hF'.w⟩
    · rw [w1, w2, ob_s, ob_s, if_pos (show nI 0 = 0 from rfl), if_pos (show nI 0 = 0 from rfl), fn_X1_isText_L65, fn_X1_isText_L66, if_pos (show nI 0 = 0 ∨ nI 0 = 1 from by decide), fn_X7_parse_L109, fn_X7_parse_L110, fn_X7_parse_L111, if_pos (show nI 0 = 0 from rfl), fn_X7_parse_L125]
      exact Or.inl ⟨τ, v', s', rfl, rfl, hW⟩
  · rw [f1, f2, ob_s, ob_s]
    have p0 : (pI σ1 64 5 (-1)).1 64 5 = -1 := pI_e _ _ _ _
    rw [p0, if_neg (show ¬ (0 : Int32) ≤ -1 from by decide), if_pos (show (-1 : Int32) < 0 from by decide), fn_X7_parse_L81, if_pos (show nI 0 = 0 from rfl), fn_X7_parse_L111, if_pos (show nI 0 = 0 from rfl), fn_X7_parse_L125]
    refine Or.inl ⟨_, v1, s, rfl, rfl, FM _ _ (fun x hx => pI_nc hx) rfl (fun _ _ => rfl), ⟨st1, ?_, ?_, hK1.2.1⟩, 0, by decide, ?_⟩
    · have := hK1.2.2.2.2.1
      have := hK1.2.2.2.2.2.1
      omega
    · rw [pI_n (Or.inr (by decide))]; exact hK1.1
    · rw [pI_n (Or.inr (by decide)), o2 7 (by decide) (by decide) (by decide)]; exact i7
