/-! ===== the call text, whole ===== -/
theorem mx1 {P : Nat} (h1 : 1 ≤ P) (h2 : P < 2 ^ 31) : mxI (nI 1) (nI P) = nI P := by
  unfold mxI
  by_cases e : P = 1
  · subst e; rw [if_neg (by decide)]
  · rw [if_pos (nI_lt (by omega) (by omega))]
theorem text_ok {ε : Ev} {σ : Sg} {μ : Mg} (h : Rel ε σ μ) : ∃ τ μ' res, fn_X7_text μ = some (res, μ') ∧
    ((fn_X1_isText ε σ = some (nI 0, τ) ∧ res = (-100) - (pI τ 64 1 (nI 0)).1 64 2 ∧ Rel ε (pI τ 64 1 (nI 0)) μ')
    ∨ (fn_X1_isText ε σ = some (nI 1, τ) ∧ ¬ (pI τ 64 1 (nI 0)).1 16 7 < nI 14 ∧ res = -1000000003 ∧ Rel ε (pI τ 64 1 (nI 0)) μ')
    ∨ (fn_X1_isText ε σ = some (nI 1, τ) ∧ (pI τ 64 1 (nI 0)).1 16 7 < nI 14 ∧ (∀ c k x, (pI τ 64 1 (nI 0)).2 c k = some x → x < tNew ε) ∧ ∃ (n m : Nat) (σ3 : (Nat → Int32) → Sg), (pI τ 64 1 (nI 0)).1 64 7 = nI n ∧ n ≤ 96 ∧ mxI (nI 1) ((pI τ 64 1 (nI 0)).1 64 8) = nI m ∧ m ≤ 96 ∧ (∀ (a b e : Nat) (g : Nat → Int32), (∀ j, j < n → g j = (pI τ 64 1 (nI 0)).1 66 j) → fn_X4_addText (eG ε a b e n m) 16 (tNew ε) (sG ε (pI τ 64 1 (nI 0)) ((pI τ 64 1 (nI 0)).1 16 7) ((pI τ 64 1 (nI 0)).1 64 5) ((pI τ 64 1 (nI 0)).1 64 8) g) = some ((), σ3 g)) ∧ ∀ (a b e : Nat) (g : Nat → Int32), (∀ j, j < n → g j = (pI τ 64 1 (nI 0)).1 66 j) → res = (σ3 g).1 16 7 - nI 1 ∧ Rel (eG ε a b e n m) (σ3 g) μ')) := by
  obtain ⟨v, s, r⟩ := μ
  obtain ⟨n, nt, d, hS, hd, hd2⟩ := h.1
  have hS : StO ε σ 16 s nt n := hS
  have hd2 : s 2 = nI d := hd2
  have hnt := hS.2.1.1
  have hs1 := hS.2.1.2.1
  have h167 : σ.1 16 7 = nI nt := hS.2.1.2.2.1
  have hbb := bO_b (nt := nt)
  rcases parse_ok hS h.2.2.1 with ⟨τ, v', s', e1, e2, hm, ⟨st, st1, st2, st3⟩, -⟩ | ⟨τ, v', s', st, en, L, P, key, tp, B, e1, e2, hF⟩
  · refine ⟨τ, (upd v' 16 (nI 0), s', r), (-100) - nI st, ?_, Or.inl ⟨e1, ?_, rel_rd h hS hd hd2 hm⟩⟩
    · rw [fn_X7_text, e2, ob_s, if_neg (show ¬ (0 : Int32) ≤ -1 from by decide)]
      dsimp only
      rw [pk_un (by decide), st3]
    · rw [pI_n (Or.inr (by decide)), st2]
  · have hm := hF.2.1
    have hk2 : key ≤ 2 := hF.2.2.2.1.2.1
    have k5 : τ.1 64 5 = nI key := hF.2.2.2.1.1
    have l7 : τ.1 64 7 = nI L := hF.2.2.2.1.2.2.2.2.1
    have l24 : v' 24 = nI L := hF.2.2.2.1.2.2.2.2.2.1
    have p8 : τ.1 64 8 = nI P := hF.2.2.2.1.2.2.2.2.2.2.1
    have p26 : v' 26 = nI P := hF.2.2.2.1.2.2.2.2.2.2.2.1
    obtain ⟨b1, b2, b3, b4, -⟩ := hF.bd
    have hP1 := hF.hP
    have hs1' : s' 1 = nI nt := (hm.2.2.2.1 1 (by omega)).trans hs1
    have t7 : (pI τ 64 1 (nI 0)).1 16 7 = nI nt := by rw [pI_nc (by decide), hm.1 16 (by decide) (by decide)]; exact h167
    by_cases e14 : nt = 14
    · refine ⟨τ, (upd v' 16 (nI 0), s', r), -1000000003, ?_, Or.inr (Or.inl ⟨e1, by rw [t7, e14]; decide, rfl, rel_rd h hS hd hd2 hm⟩)⟩
      rw [fn_X7_text, e2, ob_s, if_pos (show (0 : Int32) ≤ nI key from nI_le (a := 0) (Nat.zero_le _) (by omega)), nI_clamp (show 1 < 2 ^ 31 by decide), if_pos (g_in (show 1 < 3069 by decide) (by decide))]
      dsimp only
      rw [if_pos (show s' 1 = nI 14 from by rw [hs1', e14])]
    · have hlt : nt < 14 := by omega
      refine ⟨τ, (upd v' 16 (nI 0), sNw s' nt key P L, r), nI nt, ?_, Or.inr (Or.inr ⟨e1, by rw [t7]; exact nI_lt (by omega) (by decide), ?_, L, P, gNw ε (pI τ 64 1 (nI 0)) nt key P, ?_, by omega, ?_, by omega, ?_, ?_⟩)⟩
      · rw [fn_X7_text, e2, ob_s, if_pos (show (0 : Int32) ≤ nI key from nI_le (a := 0) (Nat.zero_le _) (by omega)), nI_clamp (show 1 < 2 ^ 31 by decide), if_pos (g_in (show 1 < 3069 by decide) (by decide))]
        dsimp only
        rw [if_neg (show ¬ s' 1 = nI 14 from by rw [hs1']; exact fun w => e14 (nI_j (by omega) (by omega) w)), fn_X7_textAt, ob_s]
        dsimp only
        simp only [hs1', pk_mul, nI_add, Nat.add_zero, nI_clamp (show 69 + 200 * nt < 2 ^ 31 by omega), nI_clamp (show 69 + 200 * nt + 1 < 2 ^ 31 by omega), nI_clamp (show 69 + 200 * nt + 2 < 2 ^ 31 by omega), if_pos (g_in (show 69 + 200 * nt < 3069 by omega) (show 3069 < 2 ^ 31 by decide)), if_pos (g_in (show 69 + 200 * nt + 1 < 3069 by omega) (show 3069 < 2 ^ 31 by decide)), if_pos (g_in (show 69 + 200 * nt + 2 < 3069 by omega) (show 3069 < 2 ^ 31 by decide))]
        have q1 : upd (upd (upd s' (69 + 200 * nt) (nI key)) (69 + 200 * nt + 1) (upd v' 16 (nI 0) 26)) (69 + 200 * nt + 2) (upd v' 16 (nI 0) 24) 1 = nI nt := by rw [pk_un (by omega), pk_un (by omega), pk_un (by omega)]; exact hs1'
        rw [q1, nI_add, pk_us, pk_un (show (26 : Nat) ≠ 16 by decide), pk_un (show (24 : Nat) ≠ 16 by decide), p26, l24, pk_sub (by omega)]
        rfl
      · intro c k x hx
        have hx : τ.2 c k = some x := hx
        rw [hm.2.1] at hx
        have := isX5_b (h.2.2.2.2.2.2 c k x hx)
        omega
      · rw [pI_n (Or.inr (by decide))]; exact l7
      · rw [pI_n (Or.inr (by decide)), p8]; exact mx1 hP1 (by omega)
      · intro a b e g hg
        have hge : 1000 ≤ tNew ε := Nat.le_add_right _ _
        rw [t7, pI_n (Or.inr (show (5 : Nat) ≠ 1 by decide)), pI_n (Or.inr (show (8 : Nat) ≠ 1 by decide)), k5, p8]
        have c16 : (sG ε (pI τ 64 1 (nI 0)) (nI nt) (nI key) (nI P) g).1 16 7 = nI nt := by
          show (if 16 = tNew ε then _ else if 16 = tNew ε + 1 then g else if 16 = tNew ε + 2 then _ else (pI τ 64 1 (nI 0)).1 16) 7 = nI nt
          rw [if_neg (by omega), if_neg (by omega), if_neg (by omega)]; exact t7
        have cn : (sG ε (pI τ 64 1 (nI 0)) (nI nt) (nI key) (nI P) g).1 (tNew ε) 1 = nI key := by
          show (if tNew ε = tNew ε then (fun k => if k = 0 then nI nt else if k = 1 then nI key else nI P) else _) 1 = nI key
          rw [if_pos rfl]; rfl
        simp only [fn_X4_addText, pT_1, c16, cn, nI_clamp (show nt < 2 ^ 31 by omega), nI_clamp (show key < 2 ^ 31 by omega)]
        rw [if_neg (nI_ge hlt (by decide)), if_neg (nI_pos (by omega)), if_pos (nI_lt (by omega) (by decide)), if_pos (g_in (show nt < 14 by omega) (by decide)), if_pos (g_in (show key < 3 by omega) (by decide)), nI_add]
        rfl
      · intro a b e g hg
        refine ⟨?_, rel_nw (Q := 0) h hS hlt hd hd2 hF a b e g hg⟩
        rw [gNw, pI_e, pk_sub (by omega)]
        rfl
