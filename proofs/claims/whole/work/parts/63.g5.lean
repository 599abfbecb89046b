theorem sr_rd {τ : Sg} {c n : Nat} {s : Nat → Int32} (h : SR τ c s n) (a b : Int32) : SR (pI (pI τ c 9 a) c 10 b) c (upd (upd s 3 a) 2 b) n := by
  obtain ⟨a1, a2, a3, a4, a5, a6, a7, a8⟩ := h
  have hr : ∀ j, 4 ≤ j → upd (upd s 3 a) 2 b j = s j := fun j hj => by rw [pk_un (by omega), pk_un (by omega)]
  have hk : ∀ (x k : Nat), x ≠ c → (pI (pI τ c 9 a) c 10 b).1 x k = τ.1 x k := fun x k hx => by rw [pI_nc hx, pI_nc hx]
  refine ⟨a1, by rw [pk_un (by decide), pk_un (by decide)]; exact a2, by rw [pI_n (Or.inr (by decide)), pI_n (Or.inr (by decide))]; exact a3, by rw [pI_n (Or.inr (by decide)), pI_n (Or.inr (by decide)), hr 4 (by decide)]; exact a4, ?_, ?_, by rw [pI_n (Or.inr (by decide)), pI_n (Or.inr (by decide)), hr 5 (by decide)]; exact a7, fun k hk9 => ?_⟩
  · rw [pI_n (Or.inr (by decide)), pI_e, pk_un (by decide), pk_us]
  · rw [pI_e, pk_us]
  · obtain ⟨b1, b2, b3⟩ := a8 k hk9
    exact ⟨fun w hw => by rw [hk _ _ (by omega), hr _ (by omega)]; exact b1 w hw, by rw [hk _ _ (by omega), hr _ (by omega)]; exact b2, by rw [hr _ (by omega)]; exact b3⟩
theorem sBd_c {s s' : Nat → Int32} {k : Nat} (hs : ∀ j, 4 ≤ j → s' j = s j) (h : sBd s k) : sBd s' k := by
  obtain ⟨kd, w, wl, cr, pr, b0, b0', b1, b1', b1'', b3, b3', b4, b4', b5, b5', b2, b2'⟩ := h
  exact ⟨kd, w, wl, cr, pr, by rw [hs _ (by omega)]; exact b0, b0', by rw [hs _ (by omega)]; exact b1, b1', b1'', by rw [hs _ (by omega)]; exact b3, b3', by rw [hs _ (by omega)]; exact b4, b4', by rw [hs _ (by omega)]; exact b5, b5', by rw [hs _ (by omega)]; exact b2, by rw [hs _ (by omega)]; exact b2'⟩
theorem StO_rd {ε : Ev} {τ : Sg} {c n nt : Nat} {s : Nat → Int32} (hc : c < 900) (h : StO ε τ c s nt n) (a b : Int32) : StO ε (pI (pI τ c 9 a) c 10 b) c (upd (upd s 3 a) 2 b) nt n ∧ Fr c τ (pI (pI τ c 9 a) c 10 b) := by
  obtain ⟨h1, h2, h3, h4⟩ := h
  have hr : ∀ j, 4 ≤ j → upd (upd s 3 a) 2 b j = s j := fun j hj => by rw [pk_un (by omega), pk_un (by omega)]
  refine ⟨⟨sr_rd h1 a b, ?_, fun k hk => sBd_c hr (h3 k hk), by rw [hr 4 (by decide)]; exact h4⟩, (Fr.pI (by omega) (by omega)).tr (Fr.pI (by omega) (by omega))⟩
  exact h2.fr rfl (by rw [pI_n (Or.inr (by decide)), pI_n (Or.inr (by decide))]) (fun y h7 _ => by rw [pI_nc (by omega), pI_nc (by omega)]) (by rw [pk_un (by decide), pk_un (by decide)]) (fun j hj => hr j (by omega))
theorem itS_add (s : Nat → Int32) (nt n a : Nat) : ∀ b, itS s nt n (a + b) = itS (itS s nt n a) nt n b := by
  intro b
  induction b with
  | zero => rfl
  | succ b ih => rw [show a + (b + 1) = (a + b) + 1 by omega, itS, ih]; rfl
theorem goOn_L {ε : Ev} {c n nt m : Nat} {σ : Sg} {s : Nat → Int32} (hc : c < 900) (hm : m ≤ 1000) : ∀ (f i : Nat) (τ : Sg), i ≤ m → m + 1 ≤ i + f → Fr c σ τ → StO ε τ c (itS s nt n i) nt n → ∃ τ', fn_X4_goOn_L2 ε c (nI m) (fn_X4_goOn_L50 ε c (nI m)) f (nI (i + 1)) τ = some ((), τ') ∧ Fr c σ τ' ∧ StO ε τ' c (itS s nt n m) nt n := by
  intro f
  induction f with
  | zero => intro i τ h1 h2; omega
  | succ f ih =>
    intro i τ h1 h2 hf hS
    simp (disch := omega) only [fn_X4_goOn_L2, nI_ltI, nI_add]
    by_cases hi : m < i + 1
    · rw [if_pos hi, show m = i by omega]
      exact ⟨τ, rfl, hf, hS⟩
    · rw [if_neg hi]
      obtain ⟨τ1, e1, f1, S1⟩ := dayO hc hS
      rw [e1, ob_s]
      cases hd : dyB (itS s nt n i) nt n with
      | true =>
        rw [if_neg (by decide)]
        exact ih (i + 1) τ1 (by omega) (by omega) (hf.tr f1) S1
      | false =>
        rw [if_pos (by decide), props_eq S1.1, ob_s, pk_sub (by omega)]
        have hd2 : dyB (dayS (itS s nt n i) nt n) nt n = false := by
          rw [dyB_c (s := itS s nt n i) (fun j hj => by rw [day_q hd, reS, pk_un (by omega), pk_un (by omega)])]
          exact hd
        have e9 : τ1.1 c 9 = dayS (itS s nt n i) nt n 3 := S1.1.2.2.2.2.1
        have e10 : τ1.1 c 10 = dayS (itS s nt n i) nt n 2 := S1.1.2.2.2.2.2.1
        obtain ⟨S2, f2⟩ := StO_rd hc S1 (τ1.1 c 9 + nI (m - (i + 1)) * smS (dayS (itS s nt n i) nt n) 5 n) ((pI τ1 c 9 (τ1.1 c 9 + nI (m - (i + 1)) * smS (dayS (itS s nt n i) nt n) 5 n)).1 c 10 + nI (m - (i + 1)))
        refine ⟨_, rfl, hf.tr (f1.tr f2), ?_⟩
        have E : itS s nt n m = upd (upd (dayS (itS s nt n i) nt n) 3 (τ1.1 c 9 + nI (m - (i + 1)) * smS (dayS (itS s nt n i) nt n) 5 n)) 2 ((pI τ1 c 9 (τ1.1 c 9 + nI (m - (i + 1)) * smS (dayS (itS s nt n i) nt n) 5 n)).1 c 10 + nI (m - (i + 1))) := by
          rw [pI_n (Or.inr (by decide)), e9, e10, show m = i + ((m - (i + 1)) + 1) by omega, itS_add, ← itS_day, it_q hd2, show i + (m - (i + 1) + 1) - (i + 1) = m - (i + 1) by omega]
          rfl
        rw [E]
        exact S2
theorem goOn_eq {ε : Ev} {c n nt m : Nat} {σ : Sg} {s : Nat → Int32} (hc : c < 900) (hm : m ≤ 1000) (h : StO ε σ c s nt n) : ∃ σ', fn_X4_goOn ε c (nI m) σ = some ((), σ') ∧ Fr c σ σ' ∧ StO ε σ' c (itS s nt n m) nt n := goOn_L (s := s) hc hm 4000 0 σ (by omega) (by omega) (Fr.rf c σ) h
