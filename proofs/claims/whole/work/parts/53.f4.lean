theorem value_L {ε : Ev} {x : Nat} {σ : Sg} {s : Nat → Int32} {t : Nat} (z1 z2 z3 : Int32) (nm : Nat → Int32) {key m p : Nat} (hp96 : p ≤ 96) (hm96 : m ≤ 96) (hlm : sLn ε (x + 1) = m) (hlp : sLn ε (x + 2) = p)
    (hst : ∀ k, k < m → stR key (σ.1 (x + 1) k) (s (69 + 200 * t + 4 + 2 * k)) (s (69 + 200 * t + 4 + 2 * k + 1)))
    (hh : ∀ k, k ≤ m → ∃ h, wkH s (69 + 200 * t) k = some h ∧ h ≤ p) (hnm : ∀ j d, nmIx key j d → nm j = (if d = 0 then z1 else if d = 1 then z2 else z3))
    (k185 : Int32 → Sg → Option (Int32 × Sg)) : ∀ (f i : Nat) (stk : List Int32) (g : Nat → Int32), i ≤ m → m + 1 ≤ i + f → wkR nm s (69 + 200 * t) i = some stk → pR g stk → ∃ stk' g', wkR nm s (69 + 200 * t) m = some stk' ∧ pR g' stk' ∧ fn_X5_value_L17 ε x z1 z2 z3 k185 f (topI stk.length) (nI i) (pA σ (x + 2) g) = k185 (topI stk'.length) (pA σ (x + 2) g') := by
  intro f
  induction f with
  | zero => intro i stk g h1 h2; omega
  | succ f ih =>
    intro i stk g h1 h2 hs hg
    by_cases hi : m ≤ i
    · have e : i = m := by omega
      subst e
      refine ⟨stk, g, hs, hg, ?_⟩
      simp (disch := omega) only [fn_X5_value_L17, hlm, nI_leI]
      rw [if_pos (Nat.le_refl _)]
    · have hr1 : (pA σ (x + 2) g).1 (x + 1) = σ.1 (x + 1) := pA_n (by omega)
      simp (disch := omega) only [fn_X5_value_L17, hlm, hlp, nI_leI, nI_clamp, nI_lt0, false_or, hr1, topI_s]
      rw [if_neg hi, if_pos (by omega)]
      obtain ⟨h, eh, hle⟩ := hh i h1
      obtain ⟨h', eh', hle'⟩ := hh (i + 1) (by omega)
      have eR : wkR nm s (69 + 200 * t) (i + 1) = wk1 nm (s (69 + 200 * t + 4 + 2 * i)) (s (69 + 200 * t + 4 + 2 * i + 1)) stk := by rw [wkR, hs]; rfl
      obtain ⟨stk1, e1, e2⟩ := wkH_R nm (i + 1) h' eh'
      obtain ⟨stk0, e3, e4⟩ := wkH_R nm i h eh
      rw [hs] at e3
      cases e3
      have ep : ∀ z : Int32, pI (pA σ (x + 2) g) (x + 2) stk.length z = pA σ (x + 2) (upd g stk.length z) := fun z => pI_pA _ _ _ _ _
      have push : ∀ z : Int32, wkR nm s (69 + 200 * t) (i + 1) = some (z :: stk) → ∃ stk' g', wkR nm s (69 + 200 * t) m = some stk' ∧ pR g' stk' ∧ fn_X5_value_L95 ε x z1 z2 z3 (fn_X5_value_L17 ε x z1 z2 z3 k185 f) k185 (nI stk.length) (nI i) z (nI stk.length) (pA σ (x + 2) g) = k185 (topI stk'.length) (pA σ (x + 2) g') := by
        intro z hz
        have hl : stk.length < p := by
          rw [e1] at hz
          cases hz
          simp only [List.length_cons] at e2
          omega
        obtain ⟨stk', g', a1, a2, a3⟩ := ih (i + 1) (z :: stk) (upd g stk.length z) (by omega) (by omega) hz (pR_push z hg)
        refine ⟨stk', g', a1, a2, ?_⟩
        simp (disch := omega) only [fn_X5_value_L95, fn_X5_value_L179, hlp, nI_clamp, nI_lt0, false_or, ep, nI_add]
        rw [if_pos (by omega)]
        exact a3
      rcases hst i (by omega) with ⟨hw, u, hu, hv, hc⟩ | ⟨hw, j, d, hv, hn, hc⟩ | ⟨hw, u, hu, hv, hc⟩
      · rw [hw, hv, wk1_push (by decide), if_pos (by decide)] at eR
        have hl : stk.length < p := by
          rw [e1] at eR
          cases eR
          simp only [List.length_cons] at e2
          omega
        simp (disch := omega) only [hc, nI_lt0, nI_leI]
        rw [if_neg (by decide), if_neg (by omega), if_neg (by omega)]
        exact push _ eR
      · rw [hw, hv, wk1_push (by decide), if_neg (by decide), nI_clamp (by rcases hn with ⟨-, h⟩ | ⟨-, h⟩ | ⟨-, h⟩ <;> omega), hnm j d hn] at eR
        have hd : d ≤ 2 := by rcases hn with ⟨-, h⟩ | ⟨-, h⟩ | ⟨-, h⟩ <;> omega
        have hl : stk.length < p := by
          rw [e1] at eR
          cases eR
          simp only [List.length_cons] at e2
          omega
        simp (disch := omega) only [hc, nI_lt0, nI_leI, nI_eq]
        rw [if_neg (by decide), if_neg (by omega), if_pos (by omega)]
        by_cases d0 : d = 0
        · rw [if_pos (by omega)]
          rw [if_pos d0] at eR
          exact push _ eR
        · rw [if_neg (by omega)]
          rw [if_neg d0] at eR
          by_cases d1 : d = 1
          · rw [if_pos (by omega)]
            rw [if_pos d1] at eR
            exact push _ eR
          · rw [if_neg (by omega)]
            rw [if_neg d1] at eR
            exact push _ eR
      · obtain ⟨n1, n2, n3, n4⟩ := neg_nn u hu
        rw [hw, hv] at eR
        rw [hc, if_pos n2]
        by_cases h33 : u = 33
        · subst h33
          match stk, hs, hg, e4, eR, ep, push with
          | [], hs, hg, e4, eR, _, _ => rw [wk1_nil rfl] at eR; rw [eR] at e1; cases e1
          | y :: tl, hs, hg, e4, eR, _, _ =>
            rw [wk1_not rfl rfl] at eR
            have ty : topI (y :: tl).length = nI tl.length := rfl
            have hl : tl.length < p := by simp only [List.length_cons] at e4; omega
            have hy : (pA σ (x + 2) g).1 (x + 2) tl.length = y := by rw [pA_e]; exact hg.1
            have ep2 : ∀ z : Int32, pI (pA σ (x + 2) g) (x + 2) tl.length z = pA σ (x + 2) (upd g tl.length z) := fun z => pI_pA _ _ _ _ _
            rw [ty]
            simp (disch := omega) only [fn_X5_value_L99, fn_X5_value_L132, fn_X5_value_L179, hlp, nI_clamp, nI_lt0, false_or, hy, ep2, nI_add]
            rw [if_pos (n4.mpr rfl), if_neg (by decide), if_pos (by omega)]
            by_cases hz : y = 0
            · rw [if_pos hz] at eR ⊢
              rw [if_pos (by omega)]
              exact ih (i + 1) (nI 1 :: tl) (upd g tl.length (nI 1)) (by omega) (by omega) eR (pR_push _ hg.2)
            · rw [if_neg hz] at eR ⊢
              rw [if_pos (by omega)]
              exact ih (i + 1) (nI 0 :: tl) (upd g tl.length (nI 0)) (by omega) (by omega) eR (pR_push _ hg.2)
        · have hz33 : ¬ nI u = nI 33 := by
            intro e
            apply h33
            simp only [sgns, List.mem_cons, List.not_mem_nil, or_false] at hu
            exact (nI_eq (by omega) (by decide)).mp e
          match stk, hs, hg, e4, eR, ep, push with
          | [], hs, hg, e4, eR, _, _ => rw [wk1_nil rfl] at eR; rw [eR] at e1; cases e1
          | [y], hs, hg, e4, eR, _, _ => rw [wk1_one rfl hz33] at eR; rw [eR] at e1; cases e1
          | y :: w :: tl, hs, hg, e4, eR, _, _ =>
            rw [wk1_join rfl hz33] at eR
            have ty : topI (y :: w :: tl).length = nI (tl.length + 1) := rfl
            have hl : tl.length + 1 < p := by simp only [List.length_cons] at e4; omega
            have hy : (pA σ (x + 2) g).1 (x + 2) (tl.length + 1) = y := by rw [pA_e]; exact hg.1
            have hw2 : (pA σ (x + 2) g).1 (x + 2) tl.length = w := by rw [pA_e]; exact hg.2.1
            have ep2 : ∀ z : Int32, pI (pA σ (x + 2) g) (x + 2) tl.length z = pA σ (x + 2) (upd g tl.length z) := fun z => pI_pA _ _ _ _ _
            rw [ty]
            have e99 : fn_X5_value_L99 ε x z1 z2 z3 (fn_X5_value_L17 ε x z1 z2 z3 k185 f) k185 (nI (tl.length + 1)) (nI i) (-(nI u)) (pA σ (x + 2) g) = fn_X5_value_L136 ε x z1 z2 z3 (fn_X5_value_L17 ε x z1 z2 z3 k185 f) k185 (nI (tl.length + 1)) (nI i) (-(nI u)) (pA σ (x + 2) g) := by
              rw [fn_X5_value_L99, if_neg (fun e => h33 (n4.mp e))]
            rw [e99, fn_X5_value_L136, if_neg n3]
            simp (disch := omega) only [fn_X5_value_L179, m1_s, nI_add, hlp, nI_clamp, nI_lt0, false_or, hy, hw2, ep2, n1, nI_ltI]
            rw [if_neg (by omega), if_pos (by omega), if_pos (by omega), joined_eq w y u hu h33, o1_s]
            exact ih (i + 1) (joinI (nI u) w y :: tl) (upd g tl.length _) (by omega) (by omega) eR (pR_push _ hg.2.2)
theorem value_eq {ε : Ev} {x : Nat} {σ : Sg} {s : Nat → Int32} {t : Nat} (z1 z2 z3 : Int32) (nm : Nat → Int32) (h : TxR ε σ x s t) (hnm : ∀ key j d, s (69 + 200 * t) = nI key → key ≤ 2 → nmIx key j d → nm j = (if d = 0 then z1 else if d = 1 then z2 else z3)) : ∃ g, fn_X5_value ε x z1 z2 z3 σ = some (wkV nm s t, pA σ (x + 2) g) := by
  obtain ⟨h5, hnum, key, m, p, hk2, hks, hkx, hps, hpx, hp1, hp96, hms, hm96, hlm, hlp, hst, hh, h1⟩ := h
  obtain ⟨stk', g', a1, a2, a3⟩ := value_L (ε := ε) (x := x) (σ := σ) (s := s) (t := t) z1 z2 z3 nm hp96 hm96 hlm hlp hst hh (fun j d hj => hnm key j d hks hk2 hj) (fn_X5_value_L185 ε x z1 z2 z3) 4000 0 [] (σ.1 (x + 2)) (by omega) (by omega) rfl trivial
  refine ⟨g', ?_⟩
  rw [pA_self] at a3
  rw [fn_X5_value]
  have e := wkV_of nm hms (by omega) h1
  rw [e] at a1
  cases a1
  rw [show ((-1 : Int32)) = topI ([] : List Int32).length from rfl, a3]
  show fn_X5_value_L185 ε x z1 z2 z3 (nI 0) (pA σ (x + 2) g') = _
  have hy : (pA σ (x + 2) g').1 (x + 2) 0 = wkV nm s t := by rw [pA_e]; exact a2.1
  simp (disch := omega) only [fn_X5_value_L185, fn_X5_value_L200, hlp, nI_clamp, nI_lt0, false_or, hy]
  rw [if_neg (by decide), if_pos (by omega)]
