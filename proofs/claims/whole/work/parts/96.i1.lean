/-! ===== the tape's words and signs ===== -/
def cls (b : Nat) : Nat := if 97 ≤ b ∧ b ≤ 122 then 1 else if 48 ≤ b ∧ b ≤ 57 then 2 else 3
theorem sort_eq : ∀ b, b < 256 → fn_X1_sortOf (nI b) = some (nI (cls b)) := by decide +kernel
theorem let_eq : ∀ b, b < 256 → bI (inB (nI b) 97 122) = nI (if cls b = 1 then 1 else 0) := by decide +kernel
theorem dig_eq : ∀ b, b < 256 → bI (inB (nI b) 48 57) = nI (if cls b = 2 then 1 else 0) := by decide +kernel
theorem cls_3 (b : Nat) : cls b = 1 ∨ cls b = 2 ∨ cls b = 3 := by unfold cls; split; exact Or.inl rfl; split; exact Or.inr (Or.inl rfl); exact Or.inr (Or.inr rfl)
theorem cls_2 {b : Nat} (h : cls b = 2) : 48 ≤ b ∧ b ≤ 57 := by
  unfold cls at h
  split at h
  · cases h
  · split at h
    · assumption
    · cases h
theorem upd_upd (f : Nat → Int32) (k : Nat) (a b : Int32) : upd (upd f k a) k b = upd f k b := by funext j; unfold upd; split <;> rfl
theorem pI_pI (σ : Sg) (c k : Nat) (a b : Int32) : pI (pI σ c k a) c k b = pI σ c k b := by
  simp only [pI, mU_s, mU_mU, upd_upd]
theorem pI_id (σ : Sg) (c k : Nat) : pI σ c k (σ.1 c k) = σ := by unfold pI; rw [upd_id, mU_self]
/-- both have the tape B of length tp -/
def Tp (tp : Nat) (B : Nat → Nat) (σ : Sg) (v : Nat → Int32) (r : Nat → Nat → Int32) : Prop := tp ≤ 96 ∧ (∀ j, j < tp → B j < 256) ∧ σ.1 64 1 = nI tp ∧ v 16 = nI tp ∧ (∀ j, j < tp → σ.1 65 j = nI (B j)) ∧ ∀ j, j < tp → r 15 j = nI (B j)
section TOK
variable {ε : Ev} {tp : Nat} {B : Nat → Nat} {σ : Sg} {v s : Nat → Int32} {r : Nat → Nat → Int32}
theorem spc_L (hT : Tp tp B σ v r) (k73 : Int32 → Int32 → Sg → Option (Unit × Sg)) (k72 : Int32 → Int32 → Mg → Option (Unit × Mg)) (v1 v2 w1 w2 : Int32) : ∀ (f i : Nat), i ≤ tp → tp + 1 ≤ i + f → ∃ st, i ≤ st ∧ st ≤ tp ∧ fn_X1_goNext_L35 ε k73 f v1 v2 (pI σ 64 2 (nI i)) = k73 v1 v2 (pI σ 64 2 (nI st)) ∧ fn_X7_nextToken_L34 k72 f w1 w2 (upd v 18 (nI i), s, r) = k72 w1 w2 (upd v 18 (nI st), s, r) := by
  obtain ⟨t1, t2, t3, t4, t5, t6⟩ := hT
  intro f
  induction f with
  | zero => intro i h1 h2; omega
  | succ f ih =>
    intro i h1 h2
    have e1 : (pI σ 64 2 (nI i)).1 64 1 = nI tp := by rw [pI_n (Or.inr (by decide))]; exact t3
    have e2 : upd v 18 (nI i) 16 = nI tp := by rw [pk_un (by decide)]; exact t4
    have e5 : ∀ j, (pI σ 64 2 (nI i)).1 65 j = σ.1 65 j := fun j => by rw [pI_nc (by decide)]
    simp only [fn_X1_goNext_L35, fn_X7_nextToken_L34, e1, e2, pI_e, pk_us, e5, pI_pI, upd_upd, nI_add]
    by_cases hi : tp ≤ i
    · have : i = tp := by omega
      subst this
      rw [if_pos (nI_le (Nat.le_refl i) (by omega)), if_pos (nI_le (Nat.le_refl i) (by omega))]
      exact ⟨i, Nat.le_refl i, Nat.le_refl i, rfl, rfl⟩
    · rw [if_neg (nI_ge (by omega) (by omega)), if_neg (nI_ge (by omega) (by omega)), nI_clamp (by omega), if_pos (g_in (show i < 96 by omega) (by decide)), if_pos (g_in (show i < 96 by omega) (by decide)), t5 i (by omega), t6 i (by omega)]
      by_cases q : nI (B i) = nI 32
      · rw [if_pos q, if_pos q]
        obtain ⟨st, a, b, c, d⟩ := ih (i + 1) (by omega) (by omega)
        exact ⟨st, by omega, b, c, d⟩
      · rw [if_neg q, if_neg q]
        exact ⟨i, Nat.le_refl i, by omega, rfl, rfl⟩
theorem lett_eq (hT : Tp tp B σ v r) {i : Nat} (hi : i ≤ tp) (v' : Nat → Int32) (hv : v' 16 = nI tp) : fn_X7_isLetter (nI i) (v', s, r) = some (nI (if i < tp ∧ cls (B i) = 1 then 1 else 0), (v', s, r)) := by
  obtain ⟨t1, t2, t3, t4, t5, t6⟩ := hT
  simp only [fn_X7_isLetter, fn_X7_isLetter_L31, fn_X7_isLetter_L32, hv, if_pos (show nI 0 = 0 ∨ nI 0 = 1 from by decide), if_pos (show nI 1 = 0 ∨ nI 1 = 1 from by decide)]
  by_cases q : tp ≤ i
  · rw [if_pos (nI_le q (by omega)), if_neg (show ¬ (i < tp ∧ cls (B i) = 1) by omega)]
  · rw [if_neg (nI_ge (by omega) (by omega)), nI_clamp (by omega), if_pos (g_in (show i < 96 by omega) (by decide))]
    have e : bI (inB (r 15 i) 97 122) = nI (if cls (B i) = 1 then 1 else 0) := by rw [t6 i (by omega)]; exact let_eq _ (t2 i (by omega))
    simp only [e]
    by_cases c : cls (B i) = 1
    · rw [if_pos c, if_neg (by decide), if_pos ⟨by omega, c⟩]
    · rw [if_neg c, if_pos (by decide), if_neg (fun w => c w.2)]
theorem digi_eq (hT : Tp tp B σ v r) {i : Nat} (hi : i ≤ tp) (v' : Nat → Int32) (hv : v' 16 = nI tp) : fn_X7_isDigit (nI i) (v', s, r) = some (nI (if i < tp ∧ cls (B i) = 2 then 1 else 0), (v', s, r)) := by
  obtain ⟨t1, t2, t3, t4, t5, t6⟩ := hT
  simp only [fn_X7_isDigit, fn_X7_isDigit_L31, fn_X7_isDigit_L32, hv, if_pos (show nI 0 = 0 ∨ nI 0 = 1 from by decide), if_pos (show nI 1 = 0 ∨ nI 1 = 1 from by decide)]
  by_cases q : tp ≤ i
  · rw [if_pos (nI_le q (by omega)), if_neg (show ¬ (i < tp ∧ cls (B i) = 2) by omega)]
  · rw [if_neg (nI_ge (by omega) (by omega)), nI_clamp (by omega), if_pos (g_in (show i < 96 by omega) (by decide))]
    have e : bI (inB (r 15 i) 48 57) = nI (if cls (B i) = 2 then 1 else 0) := by rw [t6 i (by omega)]; exact dig_eq _ (t2 i (by omega))
    simp only [e]
    by_cases c : cls (B i) = 2
    · rw [if_pos c, if_neg (by decide), if_pos ⟨by omega, c⟩]
    · rw [if_neg c, if_pos (by decide), if_neg (fun w => c w.2)]
/-- one step of the class's loop over a word -/
theorem wd_s {τ : Sg} (k174 : Int32 → Int32 → Sg → Option (Unit × Sg)) (v1 v2 : Int32) {f i c st : Nat} (t1 : tp ≤ 96) (t2 : ∀ j, j < tp → B j < 256) (h1 : τ.1 64 1 = nI tp) (h2 : τ.1 64 2 = nI st) (h3 : τ.1 64 3 = nI i) (h4 : τ.1 64 4 = nI c) (h5 : ∀ j, j < tp → τ.1 65 j = nI (B j)) (hi : i ≤ tp) (hc : c ≤ 3) (hst : st ≤ tp) : fn_X1_goNext_L112 ε k174 (f + 1) v1 v2 τ = (if i < tp ∧ cls (B i) = c ∧ (i = st ∨ c ≠ 3) then fn_X1_goNext_L112 ε k174 f v1 v2 (pI τ 64 3 (nI (i + 1))) else k174 v1 v2 τ) := by
  simp only [fn_X1_goNext_L112, fn_X1_goNext_L161, h1, h2, h3, h4, nI_add]
  by_cases q : tp ≤ i
  · rw [if_pos (nI_le q (by omega)), if_neg (show ¬ (i < tp ∧ cls (B i) = c ∧ (i = st ∨ c ≠ 3)) by omega)]
  · have hcl : cls (B i) ≤ 3 := by rcases cls_3 (B i) with e | e | e <;> omega
    rw [if_neg (nI_ge (by omega) (by omega)), nI_clamp (by omega), if_pos (g_in (show i < 96 by omega) (by decide)), h5 i (by omega), sort_eq _ (t2 i (by omega)), o1_s]
    by_cases e : cls (B i) = c
    · rw [if_pos (by rw [e])]
      by_cases e2 : i = st
      · rw [if_pos (by rw [e2]), if_pos ⟨by omega, e, Or.inl e2⟩]
      · rw [if_neg (fun w => e2 (nI_j (by omega) (by omega) w))]
        by_cases e3 : c = 3
        · rw [if_pos (by rw [e3]), if_neg (fun w => by omega)]
        · rw [if_neg (fun w => e3 (nI_j (by omega) (by omega) w)), if_pos ⟨by omega, e, Or.inr e3⟩]
    · rw [if_neg (fun w => e (nI_j (by omega) (by omega) w)), if_neg (fun w => e w.2.1)]
theorem wrd_L (hT : Tp tp B σ v r) {st : Nat} (h2 : σ.1 64 2 = nI st) (h4 : σ.1 64 4 = nI 1) (hst : st ≤ tp) (k174 : Int32 → Int32 → Sg → Option (Unit × Sg)) (k152 : Int32 → Mg → Option (Unit × Mg)) (v1 v2 w1 : Int32) : ∀ (f i : Nat), i ≤ tp → tp + 1 ≤ i + f → ∃ en, i ≤ en ∧ en ≤ tp ∧ (i < tp → cls (B i) = 1 → i < en) ∧ fn_X1_goNext_L112 ε k174 f v1 v2 (pI σ 64 3 (nI i)) = k174 v1 v2 (pI σ 64 3 (nI en)) ∧ fn_X7_nextToken_L128 k152 f w1 (upd v 18 (nI i), s, r) = k152 w1 (upd v 18 (nI en), s, r) := by
  have hT' := hT
  obtain ⟨t1, t2, t3, t4, t5, t6⟩ := hT
  intro f
  induction f with
  | zero => intro i h1 h2; omega
  | succ f ih =>
    intro i hi hf
    rw [wd_s (tp := tp) (B := B) (i := i) (c := 1) (st := st) k174 v1 v2 t1 t2 (by rw [pI_n (Or.inr (by decide))]; exact t3) (by rw [pI_n (Or.inr (by decide))]; exact h2) (pI_e _ _ _ _) (by rw [pI_n (Or.inr (by decide))]; exact h4) (fun j hj => by rw [pI_nc (by decide)]; exact t5 j hj) hi (by decide) hst, pI_pI]
    simp only [fn_X7_nextToken_L128, pk_us]
    rw [lett_eq hT' hi (upd v 18 (nI i)) (by rw [pk_un (by decide)]; exact t4), ob_s]
    dsimp only
    rw [upd_upd]
    by_cases q : i < tp ∧ cls (B i) = 1
    · rw [if_pos ⟨q.1, q.2, Or.inr (by decide)⟩, if_pos q, if_neg (by decide), pk_us, nI_add]
      obtain ⟨en, a, b, -, c, d⟩ := ih (i + 1) (by omega) (by omega)
      exact ⟨en, by omega, b, fun _ _ => by omega, c, d⟩
    · rw [if_neg (fun w => q ⟨w.1, w.2.1⟩), if_neg q, if_pos (by decide)]
      exact ⟨i, Nat.le_refl i, hi, fun w1 w2 => absurd ⟨w1, w2⟩ q, rfl, rfl⟩
def dv (B : Nat → Nat) (st : Nat) : Nat → Int32
  | 0 => nI 0
  | k + 1 => nI 10 * dv B st k + nI (B (st + k)) - nI 48
theorem num_L (hT : Tp tp B σ v r) {st : Nat} (h2 : σ.1 64 2 = nI st) (h4 : σ.1 64 4 = nI 2) (h17 : v 17 = nI st) (hst : st ≤ tp) (k174 : Int32 → Int32 → Sg → Option (Unit × Sg)) (k282 : Int32 → Mg → Option (Unit × Mg)) (v1 v2 w1 : Int32) : ∀ (f i : Nat), st ≤ i → i ≤ tp → tp + 1 ≤ i + f → (∀ j, st ≤ j → j < i → cls (B j) = 2) → ∃ en, i ≤ en ∧ en ≤ tp ∧ (i < tp → cls (B i) = 2 → i < en) ∧ (∀ j, st ≤ j → j < en → cls (B j) = 2) ∧ fn_X1_goNext_L112 ε k174 f v1 v2 (pI σ 64 3 (nI i)) = k174 v1 v2 (pI σ 64 3 (nI en)) ∧ fn_X7_nextToken_L214 k282 f w1 (upd (upd v 20 (dv B st (min (i - st) 4))) 18 (nI i), s, r) = k282 w1 (upd (upd v 20 (dv B st (min (en - st) 4))) 18 (nI en), s, r) := by
  have hT' := hT
  obtain ⟨t1, t2, t3, t4, t5, t6⟩ := hT
  intro f
  induction f with
  | zero => intro i h0 h1 h2; omega
  | succ f ih =>
    intro i h0 hi hf hd
    rw [wd_s (tp := tp) (B := B) (i := i) (c := 2) (st := st) k174 v1 v2 t1 t2 (by rw [pI_n (Or.inr (by decide))]; exact t3) (by rw [pI_n (Or.inr (by decide))]; exact h2) (pI_e _ _ _ _) (by rw [pI_n (Or.inr (by decide))]; exact h4) (fun j hj => by rw [pI_nc (by decide)]; exact t5 j hj) hi (by decide) hst, pI_pI]
    have e17 : ∀ X : Int32, upd (upd v 20 X) 18 (nI i) 17 = nI st := fun X => by rw [pk_un (by decide), pk_un (by decide)]; exact h17
    have e20 : ∀ X : Int32, upd (upd v 20 X) 18 (nI i) 20 = X := fun X => by rw [pk_un (by decide), pk_us]
    have uu : ∀ X Y Z : Int32, upd (upd (upd (upd v 20 X) 18 Y) 20 Z) 18 (nI (i + 1)) = upd (upd v 20 Z) 18 (nI (i + 1)) := fun X Y Z => by
      funext j
      unfold upd
      by_cases a : j = 18
      · simp [a]
      · by_cases b : j = 20 <;> simp [a, b]
    simp only [fn_X7_nextToken_L214, fn_X7_nextToken_L266, pk_us]
    rw [digi_eq hT' hi (upd (upd v 20 (dv B st (min (i - st) 4))) 18 (nI i)) (by rw [pk_un (by decide), pk_un (by decide)]; exact t4), ob_s]
    by_cases q : i < tp ∧ cls (B i) = 2
    · obtain ⟨en, a, b, -, c', c, d⟩ := ih (i + 1) (by omega) (by omega) (by omega) (fun j x y => by
        by_cases e : j = i
        · rw [e]; exact q.2
        · exact hd j x (by omega))
      refine ⟨en, by omega, b, fun _ _ => by omega, c', by rw [if_pos ⟨q.1, q.2, Or.inr (by decide)⟩]; exact c, ?_⟩
      rw [← d, if_pos q, if_neg (by decide)]
      dsimp only
      have e18 : ∀ X Y : Int32, upd (upd (upd v 20 X) 18 (nI i)) 20 Y 18 = nI i := fun X Y => by rw [pk_un (by decide), pk_us]
      simp only [e17, e20, pk_us, pk_sub h0, e18, nI_add, uu]
      by_cases q4 : 4 ≤ i - st
      · rw [if_pos (nI_le q4 (by omega)), Nat.min_eq_right q4, Nat.min_eq_right (show 4 ≤ i + 1 - st by omega)]
      · rw [if_neg (nI_ge (by omega) (by omega)), nI_clamp (by omega), if_pos (g_in (show i < 96 by omega) (by decide)), t6 i q.1, Nat.min_eq_left (show i - st ≤ 4 by omega), Nat.min_eq_left (show i + 1 - st ≤ 4 by omega), show i + 1 - st = (i - st) + 1 by omega, dv, show st + (i - st) = i by omega]
    · rw [if_neg (fun w => q ⟨w.1, w.2.1⟩), if_neg q, if_pos (by decide)]
      exact ⟨i, Nat.le_refl i, hi, fun w1 w2 => absurd ⟨w1, w2⟩ q, hd, rfl, rfl⟩
end TOK
