/-! ===== the next word or sign, on both sides ===== -/
theorem upd_cm (f : Nat → Int32) {k k' : Nat} (a b : Int32) (h : k ≠ k') : upd (upd f k a) k' b = upd (upd f k' b) k a := by
  funext j
  unfold upd
  by_cases e : j = k
  · by_cases e2 : j = k'
    · omega
    · simp [e, h]
  · simp [e]
theorem pI_cm (σ : Sg) (c : Nat) {k k' : Nat} (a b : Int32) (h : k ≠ k') : pI (pI σ c k a) c k' b = pI (pI σ c k' b) c k a := by
  simp only [pI, mU_s, mU_mU]
  rw [upd_cm _ a b h]
def TT (tp : Nat) (B : Nat → Nat) (σ : Sg) (v : Nat → Int32) (st en : Nat) : Prop := (σ.1 64 4 = nI 0 ∧ v 19 = nI 0 ∧ st = tp) ∨ (σ.1 64 4 = nI 1 ∧ v 19 = nI 1 ∧ st < en ∧ cls (B st) = 1 ∧ v 21 = (if en = st + 1 then nI (B st) else nI 0)) ∨ (σ.1 64 4 = nI 2 ∧ v 19 = nI 2 ∧ st < en ∧ en ≤ st + 4 ∧ v 20 = dv B st (en - st) ∧ ∀ j, st ≤ j → j < en → cls (B j) = 2) ∨ (σ.1 64 4 = nI 3 ∧ v 19 = nI 3 ∧ st < en ∧ v 21 = nI (B st)) ∨ (σ.1 64 4 = nI 2 ∧ v 19 = nI 4 ∧ st + 4 < en) ∨ (σ.1 64 4 = nI 4 ∧ v 19 = nI 4)
def TK (tp : Nat) (B : Nat → Nat) (σ : Sg) (v : Nat → Int32) (st en : Nat) : Prop := σ.1 64 2 = nI st ∧ v 17 = nI st ∧ σ.1 64 3 = nI en ∧ v 18 = nI en ∧ st ≤ en ∧ en ≤ tp ∧ TT tp B σ v st en
theorem l174_eq {ε : Ev} {τ : Sg} {st en c : Nat} {b : Bool} (h2 : τ.1 64 2 = nI st) (h4 : τ.1 64 4 = nI c) (hs : st ≤ 96) (he : en ≤ 96) (hc : c ≤ 3) : fn_X1_goNext_L174 ε (nI (if b then 1 else 0)) (nI en) τ = some ((), if (b = true ∧ en = st) ∧ (c = 1 ∨ c = 2) then pI τ 64 4 (nI 4) else τ) := by
  simp only [fn_X1_goNext_L174, fn_X1_goNext_L202, fn_X1_goNext_L207, h2, h4]
  cases b with
  | false => rw [if_pos (by decide), if_neg (fun w => by cases w.1.1)]
  | true =>
    rw [if_neg (by decide)]
    by_cases e : en = st
    · subst e
      rw [if_pos rfl]
      by_cases c1 : c = 1
      · subst c1; rw [if_pos rfl, if_pos ⟨⟨rfl, rfl⟩, Or.inl rfl⟩]
      · rw [if_neg (fun w => c1 (nI_j (by omega) (by omega) w))]
        by_cases c2 : c = 2
        · subst c2; rw [if_pos rfl, if_pos ⟨⟨rfl, rfl⟩, Or.inr rfl⟩]
        · rw [if_neg (fun w => c2 (nI_j (by omega) (by omega) w)), if_neg (fun w => by omega)]
    · rw [if_neg (fun w => e (nI_j (by omega) (by omega) w.symm)), if_neg (fun w => e w.1.2)]
theorem next_ok {ε : Ev} {tp : Nat} {B : Nat → Nat} {σ : Sg} {v s : Nat → Int32} {r : Nat → Nat → Int32} {en : Nat} (hT : Tp tp B σ v r) (b : Bool) (h3 : σ.1 64 3 = nI en) (h18 : v 18 = nI en) (hen : en ≤ tp) (hb : if b then (σ.1 64 4 = nI 1 ∨ σ.1 64 4 = nI 2) ∧ (v 19 = nI 1 ∨ v 19 = nI 2) ∧ 0 < en else (¬ σ.1 64 4 = nI 1 ∧ ¬ σ.1 64 4 = nI 2) ∧ (en = 0 ∨ (¬ v 19 = nI 1 ∧ ¬ v 19 = nI 2))) : ∃ σ' v' st en', fn_X1_goNext ε σ = some ((), σ') ∧ fn_X7_nextToken (v, s, r) = some ((), (v', s, r)) ∧ en ≤ st ∧ TK tp B σ' v' st en' ∧ (∀ x, x ≠ 64 → σ'.1 x = σ.1 x) ∧ (∀ w, w ≠ 2 → w ≠ 3 → w ≠ 4 → σ'.1 64 w = σ.1 64 w) ∧ σ'.2 = σ.2 ∧ (∀ x, (x < 17 ∨ 22 ≤ x) → v' x = v x) := by
  have hT' := hT
  obtain ⟨t1, t2, t3, t4, t5, t6⟩ := hT
  have E6 : fn_X1_goNext ε σ = fn_X1_goNext_L35 ε (fn_X1_goNext_L73 ε) 4000 (nI (if b then 1 else 0)) (nI en) (pI σ 64 2 (nI en)) := by
    simp only [fn_X1_goNext, fn_X1_goNext_L16, fn_X1_goNext_L21, h3]
    cases b with
    | false =>
      have hb : (¬ σ.1 64 4 = nI 1 ∧ ¬ σ.1 64 4 = nI 2) ∧ _ := hb
      rw [if_neg hb.1.1, if_neg hb.1.2]; rfl
    | true =>
      have hb : (σ.1 64 4 = nI 1 ∨ σ.1 64 4 = nI 2) ∧ _ := hb
      rcases hb.1 with e | e
      · rw [if_pos e]; rfl
      · rw [if_neg (by rw [e]; decide), if_pos e]; rfl
  have E7 : fn_X7_nextToken (v, s, r) = fn_X7_nextToken_L34 fn_X7_nextToken_L72 4000 (nI (if b then 1 else 0)) (nI en) (upd v 18 (nI en), s, r) := by
    have hv : upd v 18 (nI en) = v := by rw [← h18]; exact upd_id v 18
    rw [hv]
    simp only [fn_X7_nextToken, fn_X7_nextToken_L27, fn_X7_nextToken_L23, fn_X7_nextToken_L28, h18]
    cases b with
    | false =>
      have hb : _ ∧ (en = 0 ∨ (¬ v 19 = nI 1 ∧ ¬ v 19 = nI 2)) := hb
      rcases hb.2 with e | e
      · subst e; rw [if_pos (by decide)]; rfl
      · rw [if_neg e.1, if_neg e.2, ite_self]; rfl
    | true =>
      have hb : _ ∧ (v 19 = nI 1 ∨ v 19 = nI 2) ∧ 0 < en := hb
      rw [if_neg (show ¬ nI en ≤ 0 from nI_nle hb.2.2 (by omega))]
      rcases hb.2.1 with e | e
      · rw [if_pos e]; rfl
      · rw [if_neg (by rw [e]; decide), if_pos e]; rfl
  obtain ⟨st, l1, l2, e1, e2⟩ := spc_L (ε := ε) (s := s) hT' (fn_X1_goNext_L73 ε) fn_X7_nextToken_L72 (nI (if b then 1 else 0)) (nI en) (nI (if b then 1 else 0)) (nI en) 4000 en hen (by omega)
  rw [E6, e1, E7, e2]
  have F7 : fn_X7_nextToken_L72 (nI (if b then 1 else 0)) (nI en) (upd v 18 (nI st), s, r) = fn_X7_nextToken_L89 (nI (if b = true ∧ en = st then 1 else 0)) (upd v 18 (nI st), s, r) := by
    simp only [fn_X7_nextToken_L72, fn_X7_nextToken_L88, pk_us]
    cases b with
    | false => rw [if_pos (by decide), if_neg (fun w => by cases w.1)]
    | true =>
      rw [if_neg (by decide)]
      by_cases e : en = st
      · rw [if_pos (by rw [e]), if_pos ⟨rfl, e⟩]
      · rw [if_neg (fun w => e (nI_j (by omega) (by omega) w)), if_neg (fun w => e w.2)]
  rw [F7]
  have a1 : (pI (pI σ 64 2 (nI st)) 64 3 (nI st)).1 64 1 = nI tp := by rw [pI_n (Or.inr (by decide)), pI_n (Or.inr (by decide))]; exact t3
  have a2 : (pI (pI σ 64 2 (nI st)) 64 3 (nI st)).1 64 2 = nI st := by rw [pI_n (Or.inr (by decide)), pI_e]
  have a5 : ∀ j, (pI (pI σ 64 2 (nI st)) 64 3 (nI st)).1 65 j = σ.1 65 j := fun j => by rw [pI_nc (by decide), pI_nc (by decide)]
  have b16 : upd (upd v 18 (nI st)) 17 (nI st) 16 = nI tp := by rw [pk_un (by decide), pk_un (by decide)]; exact t4
  simp only [fn_X1_goNext_L73, fn_X1_goNext_L109, fn_X7_nextToken_L89, fn_X7_nextToken_L339, pI_e, pk_us, a1, a2, a5, b16]
  by_cases ht : st = tp
  · subst ht
    rw [if_pos (nI_le (Nat.le_refl st) (by omega)), if_pos rfl, wd_s (tp := st) (B := B) (i := st) (c := 0) (st := st) _ _ _ t1 t2 (by rw [pI_n (Or.inr (by decide))]; exact a1) (by rw [pI_n (Or.inr (by decide))]; exact a2) (by rw [pI_n (Or.inr (by decide)), pI_e]) (pI_e _ _ _ _) (fun j hj => by rw [pI_nc (by decide), a5]; exact t5 j hj) (Nat.le_refl st) (by decide) (Nat.le_refl st), if_neg (by omega), l174_eq (c := 0) (by rw [pI_n (Or.inr (by decide))]; exact a2) (pI_e _ _ _ _) t1 (by omega) (by decide), if_neg (by omega)]
    refine ⟨_, _, st, st, rfl, rfl, l1, ⟨by rw [pI_n (Or.inr (by decide))]; exact a2, ?_, by rw [pI_n (Or.inr (by decide)), pI_e], ?_, Nat.le_refl _, Nat.le_refl _, Or.inl ⟨pI_e _ _ _ _, pk_us, rfl⟩⟩, fun x hx => ?_, fun w w2 w3 w4 => ?_, rfl, fun x hx => ?_⟩
    · rw [pk_un (by decide), pk_us]
    · rw [pk_un (by decide), pk_un (by decide), pk_us]
    · rw [pI_nc hx, pI_nc hx, pI_nc hx]
    · rw [pI_n (Or.inr w4), pI_n (Or.inr w3), pI_n (Or.inr w2)]
    · rw [pk_un (by omega), pk_un (by omega), pk_un (by omega)]
  · have hlt : st < tp := by omega
    rw [if_neg (nI_ge hlt (by omega)), nI_clamp (by omega), if_pos (g_in (show st < 96 by omega) (by decide)), t5 st hlt, sort_eq _ (t2 st hlt), o1_s, if_neg (fun w => ht (nI_j (by omega) (by omega) w)), lett_eq hT' l2 (upd (upd v 18 (nI st)) 17 (nI st)) b16, ob_s]
    rcases cls_3 (B st) with c | c | c
    · -- letters
      rw [if_pos (show st < tp ∧ cls (B st) = 1 from ⟨hlt, c⟩), if_neg (show ¬ nI 1 = 0 from by decide), c, pI_cm _ 64 _ _ (show 3 ≠ 4 by decide), upd_cm _ _ _ (show 18 ≠ 17 by decide)]
      have hT2 : Tp tp B (pI (pI σ 64 2 (nI st)) 64 4 (nI 1)) (upd v 17 (nI st)) r := ⟨t1, t2, by rw [pI_n (Or.inr (by decide)), pI_n (Or.inr (by decide))]; exact t3, by rw [pk_un (by decide)]; exact t4, fun j hj => by rw [pI_nc (by decide), pI_nc (by decide)]; exact t5 j hj, t6⟩
      obtain ⟨en', m1, m2, m3, g1, g2⟩ := wrd_L (ε := ε) (s := s) hT2 (st := st) (by rw [pI_n (Or.inr (by decide)), pI_e]) (pI_e _ _ _ _) l2 (fn_X1_goNext_L174 ε) fn_X7_nextToken_L152 (nI (if b then 1 else 0)) (nI en) (nI (if b = true ∧ en = st then 1 else 0)) 4000 st l2 (by omega)
      have m4 := m3 hlt c
      rw [g1, g2, l174_eq (c := 1) (st := st) (by rw [pI_n (Or.inr (by decide)), pI_n (Or.inr (by decide)), pI_e]) (by rw [pI_n (Or.inr (by decide)), pI_e]) (by omega) (by omega) (by decide)]
      have h17 : ∀ X : Int32, upd (upd (upd v 17 (nI st)) 18 (nI en')) 19 X 17 = nI st := fun X => by rw [pk_un (by decide), pk_un (by decide), pk_us]
      have h18' : ∀ X : Int32, upd (upd (upd v 17 (nI st)) 18 (nI en')) 19 X 18 = nI en' := fun X => by rw [pk_un (by decide), pk_us]
      have G : ∀ X : Int32, fn_X7_nextToken_L162 X (upd (upd v 17 (nI st)) 18 (nI en'), s, r) = some ((), (upd (upd (upd (upd v 17 (nI st)) 18 (nI en')) 19 X) 21 (if en' = st + 1 then nI (B st) else nI 0), s, r)) := fun X => by
        simp only [fn_X7_nextToken_L162, fn_X7_nextToken_L192, fn_X7_nextToken_L339, h17, h18', pk_sub m1, nI_clamp (show st < 2 ^ 31 by omega), if_pos (g_in (show st < 96 by omega) (show 96 < 2 ^ 31 by decide)), t6 st hlt]
        by_cases e : en' = st + 1
        · rw [if_pos (by rw [e, Nat.add_sub_cancel_left]), if_pos e]
        · rw [if_neg (fun w => e (by have := nI_j (by omega) (by omega) w; omega)), if_neg e]
      simp only [fn_X7_nextToken_L152, G]
      by_cases tg : b = true ∧ en = st
      · rw [if_pos tg, if_pos (show (b = true ∧ en = st) ∧ (True ∨ 1 = 2) from ⟨tg, Or.inl trivial⟩), if_neg (show ¬ nI 1 = 0 from by decide)]
        refine ⟨_, _, st, en', rfl, rfl, l1, ⟨?_, ?_, ?_, ?_, m1, m2, Or.inr (Or.inr (Or.inr (Or.inr (Or.inr ⟨pI_e _ _ _ _, ?_⟩))))⟩, fun x hx => ?_, fun w w2 w3 w4 => ?_, rfl, fun x hx => ?_⟩
        · rw [pI_n (Or.inr (by decide)), pI_n (Or.inr (by decide)), pI_n (Or.inr (by decide)), pI_e]
        · rw [pk_un (by decide)]; exact h17 _
        · rw [pI_n (Or.inr (by decide)), pI_e]
        · rw [pk_un (by decide)]; exact h18' _
        · rw [pk_un (by decide), pk_us]
        · rw [pI_nc hx, pI_nc hx, pI_nc hx, pI_nc hx]
        · rw [pI_n (Or.inr w4), pI_n (Or.inr w3), pI_n (Or.inr w4), pI_n (Or.inr w2)]
        · rw [pk_un (by omega), pk_un (by omega), pk_un (by omega), pk_un (by omega)]
      · rw [if_neg tg, if_neg (show ¬ ((b = true ∧ en = st) ∧ (True ∨ 1 = 2)) from fun w => tg w.1), if_pos (show nI 0 = 0 from by decide)]
        refine ⟨_, _, st, en', rfl, rfl, l1, ⟨?_, ?_, ?_, ?_, m1, m2, Or.inr (Or.inl ⟨?_, ?_, m4, c, ?_⟩)⟩, fun x hx => ?_, fun w w2 w3 w4 => ?_, rfl, fun x hx => ?_⟩
        · rw [pI_n (Or.inr (by decide)), pI_n (Or.inr (by decide)), pI_e]
        · rw [pk_un (by decide)]; exact h17 _
        · rw [pI_e]
        · rw [pk_un (by decide)]; exact h18' _
        · rw [pI_n (Or.inr (by decide)), pI_e]
        · rw [pk_un (by decide), pk_us]
        · rw [pk_us]
        · rw [pI_nc hx, pI_nc hx, pI_nc hx]
        · rw [pI_n (Or.inr w3), pI_n (Or.inr w4), pI_n (Or.inr w2)]
        · rw [pk_un (by omega), pk_un (by omega), pk_un (by omega), pk_un (by omega)]
    · -- digits
      rw [if_neg (show ¬ (st < tp ∧ cls (B st) = 1) from fun w => by omega), if_pos (show nI 0 = 0 from by decide)]
      dsimp only
      rw [pk_us, digi_eq hT' l2 (upd (upd v 18 (nI st)) 17 (nI st)) b16, ob_s, if_pos (show st < tp ∧ cls (B st) = 2 from ⟨hlt, c⟩), if_neg (show ¬ nI 1 = 0 from by decide), c, pI_cm _ 64 _ _ (show 3 ≠ 4 by decide)]
      dsimp only
      rw [upd_cm _ _ _ (show 18 ≠ 17 by decide), upd_cm _ _ _ (show 18 ≠ 20 by decide)]
      have hT2 : Tp tp B (pI (pI σ 64 2 (nI st)) 64 4 (nI 2)) (upd v 17 (nI st)) r := ⟨t1, t2, by rw [pI_n (Or.inr (by decide)), pI_n (Or.inr (by decide))]; exact t3, by rw [pk_un (by decide)]; exact t4, fun j hj => by rw [pI_nc (by decide), pI_nc (by decide)]; exact t5 j hj, t6⟩
      obtain ⟨en', m1, m2, m3, m5, g1, g2⟩ := num_L (ε := ε) (s := s) hT2 (st := st) (by rw [pI_n (Or.inr (by decide)), pI_e]) (pI_e _ _ _ _) pk_us l2 (fn_X1_goNext_L174 ε) fn_X7_nextToken_L282 (nI (if b then 1 else 0)) (nI en) (nI (if b = true ∧ en = st then 1 else 0)) 4000 st (Nat.le_refl st) l2 (by omega) (fun j x y => by omega)
      have m4 := m3 hlt c
      rw [Nat.sub_self, Nat.min_eq_left (show 0 ≤ 4 by decide)] at g2
      have g2 : fn_X7_nextToken_L214 fn_X7_nextToken_L282 4000 (nI (if b = true ∧ en = st then 1 else 0)) (upd (upd (upd v 17 (nI st)) 20 (nI 0)) 18 (nI st), s, r) = _ := g2
      rw [g1, g2, l174_eq (c := 2) (st := st) (by rw [pI_n (Or.inr (by decide)), pI_n (Or.inr (by decide)), pI_e]) (by rw [pI_n (Or.inr (by decide)), pI_e]) (by omega) (by omega) (by decide)]
      have k18 : ∀ X : Int32, upd (upd (upd v 17 (nI st)) 20 X) 18 (nI en') 18 = nI en' := fun X => pk_us
      have k17 : ∀ X : Int32, upd (upd (upd v 17 (nI st)) 20 X) 18 (nI en') 17 = nI st := fun X => by rw [pk_un (by decide), pk_un (by decide), pk_us]
      simp only [fn_X7_nextToken_L282, fn_X7_nextToken_L300, fn_X7_nextToken_L305, fn_X7_nextToken_L339, k18, k17, pk_sub m1]
      have fin : ∀ (X : Int32) (τ : Sg), (τ = pI (pI (pI σ 64 2 (nI st)) 64 4 (nI 2)) 64 3 (nI en') ∨ τ = pI (pI (pI (pI σ 64 2 (nI st)) 64 4 (nI 2)) 64 3 (nI en')) 64 4 (nI 4)) → TT tp B τ (upd (upd (upd (upd v 17 (nI st)) 20 (dv B st (min (en' - st) 4))) 18 (nI en')) 19 X) st en' → ∃ σ' v' st2 en2, some ((), τ) = some ((), σ') ∧ some ((), (upd (upd (upd (upd v 17 (nI st)) 20 (dv B st (min (en' - st) 4))) 18 (nI en')) 19 X, s, r)) = some ((), (v', s, r)) ∧ en ≤ st2 ∧ TK tp B σ' v' st2 en2 ∧ (∀ x, x ≠ 64 → σ'.1 x = σ.1 x) ∧ (∀ w, w ≠ 2 → w ≠ 3 → w ≠ 4 → σ'.1 64 w = σ.1 64 w) ∧ σ'.2 = σ.2 ∧ (∀ x, (x < 17 ∨ 22 ≤ x) → v' x = v x) := by
        intro X τ hτ hTT
        have q2 : τ.1 64 2 = nI st ∧ τ.1 64 3 = nI en' ∧ (∀ x, x ≠ 64 → τ.1 x = σ.1 x) ∧ (∀ w, w ≠ 2 → w ≠ 3 → w ≠ 4 → τ.1 64 w = σ.1 64 w) ∧ τ.2 = σ.2 := by
          rcases hτ with rfl | rfl
          · exact ⟨by rw [pI_n (Or.inr (by decide)), pI_n (Or.inr (by decide)), pI_e], pI_e _ _ _ _, fun x hx => by rw [pI_nc hx, pI_nc hx, pI_nc hx], fun w w2 w3 w4 => by rw [pI_n (Or.inr w3), pI_n (Or.inr w4), pI_n (Or.inr w2)], rfl⟩
          · exact ⟨by rw [pI_n (Or.inr (by decide)), pI_n (Or.inr (by decide)), pI_n (Or.inr (by decide)), pI_e], by rw [pI_n (Or.inr (by decide)), pI_e], fun x hx => by rw [pI_nc hx, pI_nc hx, pI_nc hx, pI_nc hx], fun w w2 w3 w4 => by rw [pI_n (Or.inr w4), pI_n (Or.inr w3), pI_n (Or.inr w4), pI_n (Or.inr w2)], rfl⟩
        exact ⟨τ, _, st, en', rfl, rfl, l1, ⟨q2.1, by rw [pk_un (by decide)]; exact k17 _, q2.2.1, by rw [pk_un (by decide)]; exact k18 _, m1, m2, hTT⟩, q2.2.2.1, q2.2.2.2.1, q2.2.2.2.2, fun x hx => by rw [pk_un (by omega), pk_un (by omega), pk_un (by omega), pk_un (by omega)]⟩
      by_cases tg : b = true ∧ en = st
      · rw [if_pos tg, if_pos (show (b = true ∧ en = st) ∧ (2 = 1 ∨ True) from ⟨tg, Or.inr trivial⟩), if_neg (show ¬ nI 1 = 0 from by decide)]
        exact fin _ _ (Or.inr rfl) (Or.inr (Or.inr (Or.inr (Or.inr (Or.inr ⟨pI_e _ _ _ _, pk_us⟩)))))
      · rw [if_neg tg, if_neg (show ¬ ((b = true ∧ en = st) ∧ (2 = 1 ∨ True)) from fun w => tg w.1), if_pos (show nI 0 = 0 from by decide)]
        by_cases q4 : en' - st ≤ 4
        · rw [if_pos (nI_le q4 (by decide))]
          refine fin _ _ (Or.inl rfl) (Or.inr (Or.inr (Or.inl ⟨by rw [pI_n (Or.inr (by decide)), pI_e], pk_us, m4, by omega, ?_, m5⟩)))
          rw [pk_un (by decide), pk_un (by decide), pk_us, Nat.min_eq_left q4]
        · rw [if_neg (nI_ge (by omega) (by omega))]
          exact fin _ _ (Or.inl rfl) (Or.inr (Or.inr (Or.inr (Or.inr (Or.inl ⟨by rw [pI_n (Or.inr (by decide)), pI_e], pk_us, by omega⟩)))))
    · -- a sign
      rw [if_neg (show ¬ (st < tp ∧ cls (B st) = 1) from fun w => by omega), if_pos (show nI 0 = 0 from by decide)]
      dsimp only
      rw [pk_us, digi_eq hT' l2 (upd (upd v 18 (nI st)) 17 (nI st)) b16, ob_s, if_neg (show ¬ (st < tp ∧ cls (B st) = 2) from fun w => by omega), if_pos (show nI 0 = 0 from by decide), c]
      dsimp only
      have q1 : (pI (pI (pI σ 64 2 (nI st)) 64 3 (nI st)) 64 4 (nI 3)).1 64 1 = nI tp := by rw [pI_n (Or.inr (by decide))]; exact a1
      have q2 : (pI (pI (pI σ 64 2 (nI st)) 64 3 (nI st)) 64 4 (nI 3)).1 64 2 = nI st := by rw [pI_n (Or.inr (by decide))]; exact a2
      have q5 : ∀ j, j < tp → (pI (pI (pI σ 64 2 (nI st)) 64 3 (nI st)) 64 4 (nI 3)).1 65 j = nI (B j) := fun j hj => by rw [pI_nc (by decide), a5]; exact t5 j hj
      rw [wd_s (f := 3999) (tp := tp) (B := B) (i := st) (c := 3) (st := st) _ _ _ t1 t2 q1 q2 (by rw [pI_n (Or.inr (by decide)), pI_e]) (pI_e _ _ _ _) q5 l2 (by decide) l2, if_pos ⟨hlt, c, Or.inl rfl⟩, wd_s (f := 3998) (tp := tp) (B := B) (i := st + 1) (c := 3) (st := st) _ _ _ t1 t2 (by rw [pI_n (Or.inr (by decide))]; exact q1) (by rw [pI_n (Or.inr (by decide))]; exact q2) (pI_e _ _ _ _) (by rw [pI_n (Or.inr (by decide)), pI_e]) (fun j hj => by rw [pI_nc (by decide)]; exact q5 j hj) (by omega) (by decide) l2, if_neg (show ¬ (st + 1 < tp ∧ cls (B (st + 1)) = 3 ∧ (st + 1 = st ∨ 3 ≠ 3)) from fun w => by omega), l174_eq (c := 3) (by rw [pI_n (Or.inr (by decide))]; exact q2) (by rw [pI_n (Or.inr (by decide)), pI_e]) (by omega) (by omega) (by decide), if_neg (by omega)]
      have k17 : ∀ X : Int32, upd (upd (upd v 18 (nI st)) 17 (nI st)) 19 X 17 = nI st := fun X => by rw [pk_un (by decide), pk_us]
      have k18 : ∀ X Y : Int32, upd (upd (upd (upd v 18 (nI st)) 17 (nI st)) 19 X) 21 Y 18 = nI st := fun X Y => by rw [pk_un (by decide), pk_un (by decide), pk_un (by decide), pk_us]
      simp only [k17, k18, nI_clamp (show st < 2 ^ 31 by omega), if_pos (g_in (show st < 96 by omega) (show 96 < 2 ^ 31 by decide)), nI_add, t6 st hlt]
      refine ⟨_, _, st, st + 1, rfl, rfl, l1, ⟨?_, ?_, pI_e _ _ _ _, pk_us, by omega, by omega, Or.inr (Or.inr (Or.inr (Or.inl ⟨?_, ?_, by omega, ?_⟩)))⟩, fun x hx => ?_, fun w w2 w3 w4 => ?_, rfl, fun x hx => ?_⟩
      · rw [pI_n (Or.inr (by decide))]; exact q2
      · rw [pk_un (by decide), pk_un (by decide)]; exact k17 _
      · rw [pI_n (Or.inr (by decide)), pI_e]
      · rw [pk_un (by decide), pk_un (by decide), pk_us]
      · rw [pk_un (by decide), pk_us]
      · rw [pI_nc hx, pI_nc hx, pI_nc hx, pI_nc hx]
      · rw [pI_n (Or.inr w3), pI_n (Or.inr w4), pI_n (Or.inr w3), pI_n (Or.inr w2)]
      · rw [pk_un (by omega), pk_un (by omega), pk_un (by omega), pk_un (by omega), pk_un (by omega)]
