/-- what no call but the making of a text changes: lengths of made rows, how many texts, addresses -/
abbrev Ev : Type := (Nat → Nat) × Nat × (Nat → Nat)
/-- the numbers of each cell, the text rows -/
abbrev Sg : Type := (Nat → Nat → Int32) × (Nat → Nat → Option Nat)
abbrev sAd (ε : Ev) : Nat → Nat := ε.2.2
abbrev sNx (ε : Ev) : Nat := ε.2.1
abbrev sLn (ε : Ev) : Nat → Nat := ε.1
def pI (σ : Sg) (c k : Nat) (x : Int32) : Sg := (mU σ.1 c (upd (σ.1 c) k x), σ.2)
def pA (σ : Sg) (c : Nat) (f : Nat → Int32) : Sg := (mU σ.1 c f, σ.2)
def pT (σ : Sg) (c k : Nat) (x : Option Nat) : Sg := (σ.1, fun c' k' => if c' = c then (if k' = k then x else σ.2 c k') else σ.2 c' k')
def refs (f : Nat → Option Nat) (n : Nat) (y : ClassId) : va_E := .inl (y, n, .inr (.inr (.inr (.inr f))))
def ints (f : Nat → Int32) (n : Nat) (y : ClassId) : va_E := .inl (y, n, .inl f)
def cF0 (ε : Ev) (σ : Sg) (c : Nat) : List Value := [.int (σ.1 c 0), .int (σ.1 c 1), .int (σ.1 c 2), .int (σ.1 c 3), .int (σ.1 c 4), .int (σ.1 c 5), .int (σ.1 c 6)]
def cF1 (ε : Ev) (σ : Sg) (c : Nat) : List Value := [.ref (sAd ε (c + 1)), .int (σ.1 c 1), .int (σ.1 c 2), .int (σ.1 c 3), .int (σ.1 c 4), .int (σ.1 c 5), .ref (sAd ε (c + 2)), .int (σ.1 c 7), .int (σ.1 c 8)]
def cF2 (ε : Ev) (σ : Sg) (c : Nat) : List Value := [.ref (sAd ε (c + 1)), .int (σ.1 c 1), .int (σ.1 c 2)]
def cF3 (ε : Ev) (σ : Sg) (c : Nat) : List Value := [.int (σ.1 c 0), .int (σ.1 c 1), .ref (sAd ε (c + 1)), .ref (sAd ε (c + 2))]
def cF4 (ε : Ev) (σ : Sg) (c : Nat) : List Value := [.ref (sAd ε (c + 1)), .ref (sAd ε (c + 2)), .ref (sAd ε (c + 3)), .ref (sAd ε (c + 4)), .ref (sAd ε (c + 5)), .ref (sAd ε (c + 6)), .int (σ.1 c 6), .int (σ.1 c 7), .int (σ.1 c 8), .int (σ.1 c 9), .int (σ.1 c 10), .int (σ.1 c 11)]
def cF5 (ε : Ev) (σ : Sg) (c : Nat) : List Value := [.int (σ.1 c 0), .int (σ.1 c 1), .int (σ.1 c 2), .ref (sAd ε (c + 1)), .ref (sAd ε (c + 2))]
def cF6 (ε : Ev) (σ : Sg) (c : Nat) : List Value := [.ref (sAd ε (c + 16)), .ref (sAd ε (c + 32)), .ref (sAd ε (c + 48)), .ref (sAd ε (c + 64)), .ref (sAd ε (c + 1)), .ref (sAd ε (c + 2)), .ref (sAd ε (c + 3)), .int (σ.1 c 7), .int (σ.1 c 8)]
/-- which kind a cell is: 0 .. 6 an object, 10 ints, 11 houses, 12 texts, 13 sheets, 14 slots -/
def kdC (c : Nat) : Nat :=
  if c = 0 then 6 else if c = 1 then 13 else if c = 2 then 14 else if c = 3 then 10
  else if c < 64 then (if c % 16 = 0 then 4 else if c % 16 = 1 then 11 else if c % 16 = 2 then 12 else if c % 16 = 3 then 12 else if c % 16 < 7 then 10 else 0)
  else if c = 64 then 1 else if c < 80 then 10
  else if c < 96 then (if c % 2 = 0 then 2 else 10)
  else if c < 1000 then (if c % 4 = 0 then 3 else if c % 4 = 1 then 0 else if c % 4 = 2 then 2 else 10)
  else (if c % 3 = 1 then 5 else 10)
/-- how long a row is -/
def lnC (ε : Ev) (c : Nat) : Nat :=
  if c = 1 then 4 else if c = 2 then 5 else if c = 3 then 60
  else if c < 64 then (if c % 16 = 2 then 14 else if c % 16 = 3 then 3 else 9)
  else if c < 80 then 96 else if c < 1000 then 24 else sLn ε c
def cellE (cy : Nat → ClassId) (ε : Ev) (σ : Sg) (c : Nat) : va_E :=
  match kdC c with
  | 0 => .inr (0, cF0 ε σ c)
  | 1 => .inr (1, cF1 ε σ c)
  | 2 => .inr (2, cF2 ε σ c)
  | 3 => .inr (3, cF3 ε σ c)
  | 4 => .inr (4, cF4 ε σ c)
  | 5 => .inr (5, cF5 ε σ c)
  | 6 => .inr (6, cF6 ε σ c)
  | 11 => refs (fun k => some (sAd ε (c + 6 + k))) (lnC ε c) (cy 1)
  | 12 => refs (fun k => (σ.2 c k).map (sAd ε)) (lnC ε c) (cy 4)
  | 13 => refs (fun k => some (sAd ε (c + 79 + 2 * k))) (lnC ε c) (cy 2)
  | 14 => refs (fun k => some (sAd ε (c + 94 + 4 * k))) (lnC ε c) (cy 3)
  | _ => ints (σ.1 c) (lnC ε c) (cy 0)
/-- the cells in their order -/
def cids (n : Nat) : List Nat := [0, 1, 2, 3] ++ (List.range' 16 48 ++ ([64, 65, 66] ++ (List.range' 80 8 ++ (List.range' 96 20 ++ List.range' 1000 (3 * n)))))
def cVal (ε : Ev) (c : Nat) : Prop := c ∈ cids (sNx ε)
/-- C is a family of worlds that hold the class's cells: the cell c at the place q c -/
def cLens (cy : Nat → ClassId) (q : Nat → Nat) (C : Ev → Sg → va_W) : Prop :=
  (∀ ε σ c, cVal ε c → (C ε σ)[q c]? = some (sAd ε c, cellE cy ε σ c)) ∧
  (∀ ε σ σ' c, cVal ε c → (∀ c', c' ≠ c → cellE cy ε σ' c' = cellE cy ε σ c') → (C ε σ).set (q c) (sAd ε c, cellE cy ε σ' c) = C ε σ')
abbrev isX0 (c : Nat) : Prop := c ∈ ([23, 24, 25, 26, 27, 28, 29, 30, 31, 39, 40, 41, 42, 43, 44, 45, 46, 47, 55, 56, 57, 58, 59, 60, 61, 62, 63, 97, 101, 105, 109, 113] : List Nat)
abbrev isX2 (c : Nat) : Prop := c ∈ ([80, 82, 84, 86, 98, 102, 106, 110, 114] : List Nat)
abbrev isX3 (c : Nat) : Prop := c ∈ ([96, 100, 104, 108, 112] : List Nat)
abbrev isX4 (c : Nat) : Prop := c ∈ ([16, 32, 48] : List Nat)
abbrev isX1 (c : Nat) : Prop := c = 64
abbrev isX6 (c : Nat) : Prop := c = 0
abbrev isX5 (ε : Ev) (c : Nat) : Prop := 1000 ≤ c ∧ c < 1000 + 3 * sNx ε ∧ c % 3 = 1
theorem cval_lo {ε : Ev} {c : Nat} (h : c ∈ cids 0) : cVal ε c := by
  have e : ∀ n, cids 0 ⊆ cids n := by
    intro n x hx
    simp only [cids, List.mem_append, Nat.mul_zero, List.range'_zero, List.not_mem_nil, or_false] at hx ⊢
    rcases hx with h | h | h | h | h
    · exact Or.inl h
    · exact Or.inr (Or.inl h)
    · exact Or.inr (Or.inr (Or.inl h))
    · exact Or.inr (Or.inr (Or.inr (Or.inl h)))
    · exact Or.inr (Or.inr (Or.inr (Or.inr (Or.inl h))))
  exact e _ h
theorem cval_hi {ε : Ev} {c : Nat} (h1 : 1000 ≤ c) (h2 : c < 1000 + 3 * sNx ε) : cVal ε c := by
  simp only [cVal, cids, List.mem_append, List.mem_range'_1]
  exact Or.inr (Or.inr (Or.inr (Or.inr (Or.inr ⟨h1, h2⟩))))
theorem kd5 {c : Nat} (h : 1000 ≤ c) : kdC c = if c % 3 = 1 then 5 else 10 := by
  unfold kdC
  rw [if_neg (by omega), if_neg (by omega), if_neg (by omega), if_neg (by omega), if_neg (by omega), if_neg (by omega), if_neg (by omega), if_neg (by omega), if_neg (by omega)]
theorem ln5 {ε : Ev} {c : Nat} (h : 1000 ≤ c) : lnC ε c = sLn ε c := by
  unfold lnC
  rw [if_neg (by omega), if_neg (by omega), if_neg (by omega), if_neg (by omega), if_neg (by omega), if_neg (by omega)]
theorem kc0_X0 : ∀ c ∈ ([23, 24, 25, 26, 27, 28, 29, 30, 31, 39, 40, 41, 42, 43, 44, 45, 46, 47, 55, 56, 57, 58, 59, 60, 61, 62, 63, 97, 101, 105, 109, 113] : List Nat), c ∈ cids 0 ∧ kdC c = 0 := by decide +kernel
theorem kc_X0 {cy : Nat → ClassId} {ε : Ev} {σ : Sg} {c : Nat} (h : isX0 c) : cVal ε c ∧ cellE cy ε σ c = .inr (0, cF0 ε σ c) := ⟨cval_lo (kc0_X0 c h).1, by unfold cellE; rw [(kc0_X0 c h).2]; rfl⟩
theorem kc0_X2 : ∀ c ∈ ([80, 82, 84, 86, 98, 102, 106, 110, 114] : List Nat), c ∈ cids 0 ∧ kdC c = 2 := by decide +kernel
theorem kc_X2 {cy : Nat → ClassId} {ε : Ev} {σ : Sg} {c : Nat} (h : isX2 c) : cVal ε c ∧ cellE cy ε σ c = .inr (2, cF2 ε σ c) := ⟨cval_lo (kc0_X2 c h).1, by unfold cellE; rw [(kc0_X2 c h).2]; rfl⟩
theorem kc0_X3 : ∀ c ∈ ([96, 100, 104, 108, 112] : List Nat), c ∈ cids 0 ∧ kdC c = 3 := by decide +kernel
theorem kc_X3 {cy : Nat → ClassId} {ε : Ev} {σ : Sg} {c : Nat} (h : isX3 c) : cVal ε c ∧ cellE cy ε σ c = .inr (3, cF3 ε σ c) := ⟨cval_lo (kc0_X3 c h).1, by unfold cellE; rw [(kc0_X3 c h).2]; rfl⟩
theorem kc0_X4 : ∀ c ∈ ([16, 32, 48] : List Nat), c ∈ cids 0 ∧ kdC c = 4 := by decide +kernel
theorem kc_X4 {cy : Nat → ClassId} {ε : Ev} {σ : Sg} {c : Nat} (h : isX4 c) : cVal ε c ∧ cellE cy ε σ c = .inr (4, cF4 ε σ c) := ⟨cval_lo (kc0_X4 c h).1, by unfold cellE; rw [(kc0_X4 c h).2]; rfl⟩
theorem kc_X1 {cy : Nat → ClassId} {ε : Ev} {σ : Sg} {c : Nat} (h : isX1 c) : cVal ε c ∧ cellE cy ε σ c = .inr (1, cF1 ε σ c) := by subst h; exact ⟨cval_lo (by decide +kernel), rfl⟩
theorem kc_X6 {cy : Nat → ClassId} {ε : Ev} {σ : Sg} {c : Nat} (h : isX6 c) : cVal ε c ∧ cellE cy ε σ c = .inr (6, cF6 ε σ c) := by subst h; exact ⟨cval_lo (by decide +kernel), rfl⟩
theorem kc_X5 {cy : Nat → ClassId} {ε : Ev} {σ : Sg} {c : Nat} (h : isX5 ε c) : cVal ε c ∧ cellE cy ε σ c = .inr (5, cF5 ε σ c) := ⟨cval_hi h.1 h.2.1, by unfold cellE; rw [kd5 h.1, if_pos h.2.2]; rfl⟩
theorem ka0 : ∀ p ∈ ([(3, 60), (65, 96), (66, 96), (20, 9), (21, 9), (22, 9), (36, 9), (37, 9), (38, 9), (52, 9), (53, 9), (54, 9), (81, 24), (83, 24), (85, 24), (87, 24), (99, 24), (103, 24), (107, 24), (111, 24), (115, 24)] : List (Nat × Nat)), p.1 ∈ cids 0 ∧ kdC p.1 = 10 ∧ p.1 < 1000 := by decide +kernel
def isA (ε : Ev) (c n : Nat) : Prop := cVal ε c ∧ kdC c = 10 ∧ lnC ε c = n
theorem ka_e {cy : Nat → ClassId} {ε : Ev} {σ : Sg} {c n : Nat} (h : isA ε c n) : cellE cy ε σ c = .inl (cy 0, n, .inl (σ.1 c)) := by unfold cellE; rw [h.2.1, ← h.2.2]; rfl
theorem ka_X4_4 {ε : Ev} {c : Nat} (h : isX4 c) : isA ε (c + 4) 9 := by simp only [isX4, List.mem_cons, List.not_mem_nil, or_false] at h; rcases h with rfl | rfl | rfl <;> exact ⟨cval_lo (by decide +kernel), by decide +kernel, rfl⟩
theorem ka_X4_5 {ε : Ev} {c : Nat} (h : isX4 c) : isA ε (c + 5) 9 := by simp only [isX4, List.mem_cons, List.not_mem_nil, or_false] at h; rcases h with rfl | rfl | rfl <;> exact ⟨cval_lo (by decide +kernel), by decide +kernel, rfl⟩
theorem ka_X4_6 {ε : Ev} {c : Nat} (h : isX4 c) : isA ε (c + 6) 9 := by simp only [isX4, List.mem_cons, List.not_mem_nil, or_false] at h; rcases h with rfl | rfl | rfl <;> exact ⟨cval_lo (by decide +kernel), by decide +kernel, rfl⟩
theorem ka_X2_1 {ε : Ev} {c : Nat} (h : isX2 c) : isA ε (c + 1) 24 := by simp only [isX2, List.mem_cons, List.not_mem_nil, or_false] at h; rcases h with rfl | rfl | rfl | rfl | rfl | rfl | rfl | rfl | rfl <;> exact ⟨cval_lo (by decide +kernel), by decide +kernel, rfl⟩
theorem ka_X1_1 {ε : Ev} {c : Nat} (h : isX1 c) : isA ε (c + 1) 96 := by subst h; exact ⟨cval_lo (by decide +kernel), by decide +kernel, rfl⟩
theorem ka_X1_2 {ε : Ev} {c : Nat} (h : isX1 c) : isA ε (c + 2) 96 := by subst h; exact ⟨cval_lo (by decide +kernel), by decide +kernel, rfl⟩
theorem ka_X6_3 {ε : Ev} {c : Nat} (h : isX6 c) : isA ε (c + 3) 60 := by subst h; exact ⟨cval_lo (by decide +kernel), by decide +kernel, rfl⟩
theorem ka_X5_1 {ε : Ev} {c : Nat} (h : isX5 ε c) : isA ε (c + 1) (sLn ε (c + 1)) := ⟨cval_hi (by omega) (by omega), by rw [kd5 (by omega), if_neg (by omega)], ln5 (by omega)⟩
theorem ka_X5_2 {ε : Ev} {c : Nat} (h : isX5 ε c) : isA ε (c + 2) (sLn ε (c + 2)) := ⟨cval_hi (by omega) (by omega), by rw [kd5 (by omega), if_neg (by omega)], ln5 (by omega)⟩
def isQ (cy : Nat → ClassId) (ε : Ev) (σ : Sg) (c n t : Nat) (f : Nat → Option Nat) : Prop := cVal ε c ∧ cellE cy ε σ c = .inl (cy t, n, .inr (.inr (.inr (.inr f))))
theorem kq_X4_1 {cy : Nat → ClassId} {ε : Ev} {σ : Sg} {c : Nat} (h : isX4 c) : isQ cy ε σ (c + 1) 9 1 (fun k => some (sAd ε (c + 7 + k))) := by simp only [isX4, List.mem_cons, List.not_mem_nil, or_false] at h; rcases h with rfl | rfl | rfl <;> exact ⟨cval_lo (by decide +kernel), rfl⟩
theorem kq_X4_2 {cy : Nat → ClassId} {ε : Ev} {σ : Sg} {c : Nat} (h : isX4 c) : isQ cy ε σ (c + 2) 14 4 (fun k => (σ.2 (c + 2) k).map (sAd ε)) := by simp only [isX4, List.mem_cons, List.not_mem_nil, or_false] at h; rcases h with rfl | rfl | rfl <;> exact ⟨cval_lo (by decide +kernel), rfl⟩
theorem kq_X4_3 {cy : Nat → ClassId} {ε : Ev} {σ : Sg} {c : Nat} (h : isX4 c) : isQ cy ε σ (c + 3) 3 4 (fun k => (σ.2 (c + 3) k).map (sAd ε)) := by simp only [isX4, List.mem_cons, List.not_mem_nil, or_false] at h; rcases h with rfl | rfl | rfl <;> exact ⟨cval_lo (by decide +kernel), rfl⟩
theorem kq_X6_1 {cy : Nat → ClassId} {ε : Ev} {σ : Sg} {c : Nat} (h : isX6 c) : isQ cy ε σ (c + 1) 4 2 (fun k => some (sAd ε (80 + 2 * k))) := by subst h; exact ⟨cval_lo (by decide +kernel), by unfold cellE; rw [show kdC (0 + 1) = 13 from rfl]; show refs (fun k => some (sAd ε (1 + 79 + 2 * k))) 4 (cy 2) = _; simp only [show ∀ k, 1 + 79 + 2 * k = 80 + 2 * k from fun k => rfl]; rfl⟩
theorem kq_X6_2 {cy : Nat → ClassId} {ε : Ev} {σ : Sg} {c : Nat} (h : isX6 c) : isQ cy ε σ (c + 2) 5 3 (fun k => some (sAd ε (96 + 4 * k))) := by subst h; exact ⟨cval_lo (by decide +kernel), rfl⟩
theorem vin_lt {i : Int32} {n : Nat} (h : ¬ (i < 0 ∨ n ≤ i.toNatClampNeg)) : i.toNatClampNeg < n := Nat.not_le.mp (fun z => h (Or.inr z))
theorem kh_0 : ∀ s ∈ ([16, 32, 48] : List Nat), ∀ k, k < 9 → isX0 (s + 7 + k) := by decide +kernel
theorem kh_X4 {c k : Nat} (h : isX4 c) (hk : k < 9) : isX0 (c + 7 + k) := kh_0 c h k hk
theorem kh_1 : ∀ k, k < 4 → isX2 (80 + 2 * k) := by decide +kernel
theorem kr_X6 {c k : Nat} (h : isX6 c) (hk : k < 4) : isX2 (80 + 2 * k) := by subst h; exact kh_1 k hk
theorem kh_2 : ∀ k, k < 5 → isX3 (96 + 4 * k) := by decide +kernel
theorem ks_X6 {c k : Nat} (h : isX6 c) (hk : k < 5) : isX3 (96 + 4 * k) := by subst h; exact kh_2 k hk
theorem kl_0 : ∀ c ∈ ([96, 100, 104, 108, 112] : List Nat), isX0 (c + 1) ∧ isX2 (c + 2) := by decide +kernel
theorem kst_now {c : Nat} (h : isX6 c) : isX4 (c + 16) := by subst h; decide
theorem kst_img {c : Nat} (h : isX6 c) : isX4 (c + 32) := by subst h; decide
theorem kst_tho {c : Nat} (h : isX6 c) : isX4 (c + 48) := by subst h; decide
theorem krd_X6 {c : Nat} (h : isX6 c) : isX1 (c + 64) := by subst h; decide
theorem pI_cell {cy : Nat → ClassId} {ε : Ev} {σ : Sg} {c k : Nat} {x : Int32} : ∀ c', c' ≠ c → cellE cy ε (pI σ c k x) c' = cellE cy ε σ c' := by
  intro c' h
  have e : (pI σ c k x).1 c' = σ.1 c' := mU_n _ _ h
  unfold cellE cF0 cF1 cF2 cF3 cF4 cF5 cF6
  rw [e]
  rfl
theorem pA_cell {cy : Nat → ClassId} {ε : Ev} {σ : Sg} {c : Nat} {f : Nat → Int32} : ∀ c', c' ≠ c → cellE cy ε (pA σ c f) c' = cellE cy ε σ c' := by
  intro c' h
  have e : (pA σ c f).1 c' = σ.1 c' := mU_n _ _ h
  unfold cellE cF0 cF1 cF2 cF3 cF4 cF5 cF6
  rw [e]
  rfl
theorem pT_cell {cy : Nat → ClassId} {ε : Ev} {σ : Sg} {c k : Nat} {x : Option Nat} : ∀ c', c' ≠ c → cellE cy ε (pT σ c k x) c' = cellE cy ε σ c' := by
  intro c' h
  have e : (pT σ c k x).2 c' = σ.2 c' := by funext k'; simp [pT, h]
  unfold cellE cF0 cF1 cF2 cF3 cF4 cF5 cF6
  rw [e]
  rfl
theorem pI_s (σ : Sg) (c k : Nat) (x : Int32) : (pI σ c k x).1 c = upd (σ.1 c) k x := mU_s _ _ _
theorem cs_X0 (ε : Ev) (σ : Sg) (c : Nat) (x : Int32) : (cF0 ε σ c).set 0 (.int x) = cF0 ε (pI σ c 0 x) c ∧ (cF0 ε σ c).set 1 (.int x) = cF0 ε (pI σ c 1 x) c ∧ (cF0 ε σ c).set 2 (.int x) = cF0 ε (pI σ c 2 x) c ∧ (cF0 ε σ c).set 3 (.int x) = cF0 ε (pI σ c 3 x) c ∧ (cF0 ε σ c).set 4 (.int x) = cF0 ε (pI σ c 4 x) c ∧ (cF0 ε σ c).set 5 (.int x) = cF0 ε (pI σ c 5 x) c ∧ (cF0 ε σ c).set 6 (.int x) = cF0 ε (pI σ c 6 x) c := by simp only [cF0, pI_s]; exact ⟨rfl, rfl, rfl, rfl, rfl, rfl, rfl⟩
theorem cs_X1 (ε : Ev) (σ : Sg) (c : Nat) (x : Int32) : (cF1 ε σ c).set 1 (.int x) = cF1 ε (pI σ c 1 x) c ∧ (cF1 ε σ c).set 2 (.int x) = cF1 ε (pI σ c 2 x) c ∧ (cF1 ε σ c).set 3 (.int x) = cF1 ε (pI σ c 3 x) c ∧ (cF1 ε σ c).set 4 (.int x) = cF1 ε (pI σ c 4 x) c ∧ (cF1 ε σ c).set 5 (.int x) = cF1 ε (pI σ c 5 x) c ∧ (cF1 ε σ c).set 7 (.int x) = cF1 ε (pI σ c 7 x) c ∧ (cF1 ε σ c).set 8 (.int x) = cF1 ε (pI σ c 8 x) c := by simp only [cF1, pI_s]; exact ⟨rfl, rfl, rfl, rfl, rfl, rfl, rfl⟩
theorem cs_X2 (ε : Ev) (σ : Sg) (c : Nat) (x : Int32) : (cF2 ε σ c).set 1 (.int x) = cF2 ε (pI σ c 1 x) c ∧ (cF2 ε σ c).set 2 (.int x) = cF2 ε (pI σ c 2 x) c := by simp only [cF2, pI_s]; exact ⟨rfl, rfl⟩
theorem cs_X3 (ε : Ev) (σ : Sg) (c : Nat) (x : Int32) : (cF3 ε σ c).set 0 (.int x) = cF3 ε (pI σ c 0 x) c ∧ (cF3 ε σ c).set 1 (.int x) = cF3 ε (pI σ c 1 x) c := by simp only [cF3, pI_s]; exact ⟨rfl, rfl⟩
theorem cs_X4 (ε : Ev) (σ : Sg) (c : Nat) (x : Int32) : (cF4 ε σ c).set 6 (.int x) = cF4 ε (pI σ c 6 x) c ∧ (cF4 ε σ c).set 7 (.int x) = cF4 ε (pI σ c 7 x) c ∧ (cF4 ε σ c).set 8 (.int x) = cF4 ε (pI σ c 8 x) c ∧ (cF4 ε σ c).set 9 (.int x) = cF4 ε (pI σ c 9 x) c ∧ (cF4 ε σ c).set 10 (.int x) = cF4 ε (pI σ c 10 x) c ∧ (cF4 ε σ c).set 11 (.int x) = cF4 ε (pI σ c 11 x) c := by simp only [cF4, pI_s]; exact ⟨rfl, rfl, rfl, rfl, rfl, rfl⟩
theorem cs_X6 (ε : Ev) (σ : Sg) (c : Nat) (x : Int32) : (cF6 ε σ c).set 7 (.int x) = cF6 ε (pI σ c 7 x) c ∧ (cF6 ε σ c).set 8 (.int x) = cF6 ε (pI σ c 8 x) c := by simp only [cF6, pI_s]; exact ⟨rfl, rfl⟩
section CC
variable {κ : GC} {cy : Nat → ClassId} {Z : (Nat → Prop) → State → Heap → Prop} {cc : ByteArray} {w0 : Cond} {own : String} {rm : Room} {n1 n2 : Nat} {pc : Nat} {lv : List (Nat × Value)} {st : List Value} {q : Nat → Nat} {C : Ev → Sg → va_W} {ε : Ev} {σ : Sg}
theorem c_get0 (hX : GX κ cy Z cc (w0 :: zT) own rm) (hC : cLens cy q C) {c : Nat} (hc : isX0 c) (j : Nat) (hj : j < 7) {index : Nat} {v : Value} (hv : (cF0 ε σ c)[j]? = some v) (hl : Cond.fieldLink own index "LeaningStreet$House" (TX0 j).2.1 (TX0 j).2.2.1 ∈ lw_tbl) (href : (TX0 j).1 = "LeaningStreet$House") (d : decode cc pc = .ok (.getfield index, 3)) (k : GW κ n1 n2 (C ε σ) (pc + 3) lv (v :: st)) : GW κ n1 n2 (C ε σ) pc lv (.ref (sAd ε c) :: st) := g_get hX 0 (q c) j zin_X0 (by rw [hC.1 ε σ c (kc_X0 (cy := cy) (σ := σ) hc).1, (kc_X0 hc).2]) rfl hj (zu hl rfl) href hv d k
theorem c_put0 (hX : GX κ cy Z cc (w0 :: zT) own rm) (hC : cLens cy q C) {c : Nat} (hc : isX0 c) (j : Nat) (hj : j < 7) {index : Nat} {z : Int32} {ty : FieldType} (hs : (cF0 ε σ c).set j (.int z) = cF0 ε (pI σ c j z) c) (hfin : (TX0 j).2.2.2 = false) (hd : parseFieldDescriptor (TX0 j).2.2.1 = some ty) (hn : narrow ty (.int z) = .int z) (hfit : fits ty (.int z) = true) (hl : Cond.fieldLink own index "LeaningStreet$House" (TX0 j).2.1 (TX0 j).2.2.1 ∈ lw_tbl) (href : (TX0 j).1 = "LeaningStreet$House") (d : decode cc pc = .ok (.putfield index, 3)) (k : GW κ n1 n2 (C ε (pI σ c j z)) (pc + 3) lv st) : GW κ n1 n2 (C ε σ) pc lv (.int z :: .ref (sAd ε c) :: st) := g_put (fs := cF0 ε σ c) hX 0 (q c) j zin_X0 tyX0 tyX0_ok nmX0 (by rw [hC.1 ε σ c (kc_X0 (cy := cy) (σ := σ) hc).1, (kc_X0 hc).2]) rfl hj (zu hl rfl) href hfin hd hn hfit hj (by rw [hs, ← (kc_X0 (cy := cy) (σ := pI σ c j z) hc).2]; exact hC.2 ε σ (pI σ c j z) c (kc_X0 (cy := cy) (σ := σ) hc).1 pI_cell) d k
theorem c_call0 (hX : GX κ cy Z cc (w0 :: zT) own rm) (hC : cLens cy q C) (hzo : zOK Z) {c : Nat} (hc : isX0 c) {y : MethodName} {cb : ByteArray} {nl : Nat} {rt : Option FieldType} {rm2 : Room} {index : Nat} {res : Option Value} {w2 : va_W} (As rest : List Value) (hM : GD (Kl κ) (KD κ) cy Z y (zW y cb nl rt) rm2 (.ref (sAd ε c) :: As) (C ε σ) res w2 0 0) (hk : mKV RX0 y cb nl rt As.length) (h1 : Cond.methodLink own index y ∈ lw_tbl) (hrc : rm2.cells = 0) (hrs : rm2.slots = 0) (hR1 : rm2.frames + 1 ≤ rm.frames) (hR2 : 8 + (nl + 11) + rm2.locals ≤ rm.locals) (hf : n1 + 0 ≤ rm.cells ∧ n2 + 0 ≤ rm.slots) {st0 st1 : List Value} (hst : st0 = As.reverse ++ .ref (sAd ε c) :: rest) (hst1 : res.toList ++ rest = st1) (hrest : (rest.map fun v => v.category).sum ≤ 8) (d : decode cc pc = .ok (.invokevirtual index, 3)) (k : GW κ n1 n2 w2 (pc + 3) lv st1) : GW κ n1 n2 (C ε σ) pc lv st0 := by
  refine g_callV hX hzo As rest 0 (q c) (qc := (RX0, TX0, 7)) rfl rfl (by rw [hC.1 ε σ c (kc_X0 (cy := cy) (σ := σ) hc).1, (kc_X0 hc).2]) hM (z_V h1 hk.1 hk.2.1 hk.2.2.1 hk.2.2.2.1) rfl hrc hrs hk.2.2.2.2 hR1 hR2 hst hrest hf d ?_
  rintro res' w' ⟨rfl, rfl⟩
  rw [hst1]
  exact k
theorem c_get1 (hX : GX κ cy Z cc (w0 :: zT) own rm) (hC : cLens cy q C) {c : Nat} (hc : isX1 c) (j : Nat) (hj : j < 9) {index : Nat} {v : Value} (hv : (cF1 ε σ c)[j]? = some v) (hl : Cond.fieldLink own index "LeaningStreet$Reader" (TX1 j).2.1 (TX1 j).2.2.1 ∈ lw_tbl) (href : (TX1 j).1 = "LeaningStreet$Reader") (d : decode cc pc = .ok (.getfield index, 3)) (k : GW κ n1 n2 (C ε σ) (pc + 3) lv (v :: st)) : GW κ n1 n2 (C ε σ) pc lv (.ref (sAd ε c) :: st) := g_get hX 1 (q c) j zin_X1 (by rw [hC.1 ε σ c (kc_X1 (cy := cy) (σ := σ) hc).1, (kc_X1 hc).2]) rfl hj (zu hl rfl) href hv d k
theorem c_put1 (hX : GX κ cy Z cc (w0 :: zT) own rm) (hC : cLens cy q C) {c : Nat} (hc : isX1 c) (j : Nat) (hj : j < 9) {index : Nat} {z : Int32} {ty : FieldType} (hs : (cF1 ε σ c).set j (.int z) = cF1 ε (pI σ c j z) c) (hfin : (TX1 j).2.2.2 = false) (hd : parseFieldDescriptor (TX1 j).2.2.1 = some ty) (hn : narrow ty (.int z) = .int z) (hfit : fits ty (.int z) = true) (hl : Cond.fieldLink own index "LeaningStreet$Reader" (TX1 j).2.1 (TX1 j).2.2.1 ∈ lw_tbl) (href : (TX1 j).1 = "LeaningStreet$Reader") (d : decode cc pc = .ok (.putfield index, 3)) (k : GW κ n1 n2 (C ε (pI σ c j z)) (pc + 3) lv st) : GW κ n1 n2 (C ε σ) pc lv (.int z :: .ref (sAd ε c) :: st) := g_put (fs := cF1 ε σ c) hX 1 (q c) j zin_X1 tyX1 tyX1_ok nmX1 (by rw [hC.1 ε σ c (kc_X1 (cy := cy) (σ := σ) hc).1, (kc_X1 hc).2]) rfl hj (zu hl rfl) href hfin hd hn hfit hj (by rw [hs, ← (kc_X1 (cy := cy) (σ := pI σ c j z) hc).2]; exact hC.2 ε σ (pI σ c j z) c (kc_X1 (cy := cy) (σ := σ) hc).1 pI_cell) d k
theorem c_call1 (hX : GX κ cy Z cc (w0 :: zT) own rm) (hC : cLens cy q C) (hzo : zOK Z) {c : Nat} (hc : isX1 c) {y : MethodName} {cb : ByteArray} {nl : Nat} {rt : Option FieldType} {rm2 : Room} {index : Nat} {res : Option Value} {w2 : va_W} (As rest : List Value) (hM : GD (Kl κ) (KD κ) cy Z y (zW y cb nl rt) rm2 (.ref (sAd ε c) :: As) (C ε σ) res w2 0 0) (hk : mKV RX1 y cb nl rt As.length) (h1 : Cond.methodLink own index y ∈ lw_tbl) (hrc : rm2.cells = 0) (hrs : rm2.slots = 0) (hR1 : rm2.frames + 1 ≤ rm.frames) (hR2 : 8 + (nl + 11) + rm2.locals ≤ rm.locals) (hf : n1 + 0 ≤ rm.cells ∧ n2 + 0 ≤ rm.slots) {st0 st1 : List Value} (hst : st0 = As.reverse ++ .ref (sAd ε c) :: rest) (hst1 : res.toList ++ rest = st1) (hrest : (rest.map fun v => v.category).sum ≤ 8) (d : decode cc pc = .ok (.invokevirtual index, 3)) (k : GW κ n1 n2 w2 (pc + 3) lv st1) : GW κ n1 n2 (C ε σ) pc lv st0 := by
  refine g_callV hX hzo As rest 1 (q c) (qc := (RX1, TX1, 9)) rfl rfl (by rw [hC.1 ε σ c (kc_X1 (cy := cy) (σ := σ) hc).1, (kc_X1 hc).2]) hM (z_V h1 hk.1 hk.2.1 hk.2.2.1 hk.2.2.2.1) rfl hrc hrs hk.2.2.2.2 hR1 hR2 hst hrest hf d ?_
  rintro res' w' ⟨rfl, rfl⟩
  rw [hst1]
  exact k
theorem c_get2 (hX : GX κ cy Z cc (w0 :: zT) own rm) (hC : cLens cy q C) {c : Nat} (hc : isX2 c) (j : Nat) (hj : j < 3) {index : Nat} {v : Value} (hv : (cF2 ε σ c)[j]? = some v) (hl : Cond.fieldLink own index "LeaningStreet$Row" (TX2 j).2.1 (TX2 j).2.2.1 ∈ lw_tbl) (href : (TX2 j).1 = "LeaningStreet$Row") (d : decode cc pc = .ok (.getfield index, 3)) (k : GW κ n1 n2 (C ε σ) (pc + 3) lv (v :: st)) : GW κ n1 n2 (C ε σ) pc lv (.ref (sAd ε c) :: st) := g_get hX 2 (q c) j zin_X2 (by rw [hC.1 ε σ c (kc_X2 (cy := cy) (σ := σ) hc).1, (kc_X2 hc).2]) rfl hj (zu hl rfl) href hv d k
theorem c_put2 (hX : GX κ cy Z cc (w0 :: zT) own rm) (hC : cLens cy q C) {c : Nat} (hc : isX2 c) (j : Nat) (hj : j < 3) {index : Nat} {z : Int32} {ty : FieldType} (hs : (cF2 ε σ c).set j (.int z) = cF2 ε (pI σ c j z) c) (hfin : (TX2 j).2.2.2 = false) (hd : parseFieldDescriptor (TX2 j).2.2.1 = some ty) (hn : narrow ty (.int z) = .int z) (hfit : fits ty (.int z) = true) (hl : Cond.fieldLink own index "LeaningStreet$Row" (TX2 j).2.1 (TX2 j).2.2.1 ∈ lw_tbl) (href : (TX2 j).1 = "LeaningStreet$Row") (d : decode cc pc = .ok (.putfield index, 3)) (k : GW κ n1 n2 (C ε (pI σ c j z)) (pc + 3) lv st) : GW κ n1 n2 (C ε σ) pc lv (.int z :: .ref (sAd ε c) :: st) := g_put (fs := cF2 ε σ c) hX 2 (q c) j zin_X2 tyX2 tyX2_ok nmX2 (by rw [hC.1 ε σ c (kc_X2 (cy := cy) (σ := σ) hc).1, (kc_X2 hc).2]) rfl hj (zu hl rfl) href hfin hd hn hfit hj (by rw [hs, ← (kc_X2 (cy := cy) (σ := pI σ c j z) hc).2]; exact hC.2 ε σ (pI σ c j z) c (kc_X2 (cy := cy) (σ := σ) hc).1 pI_cell) d k
theorem c_call2 (hX : GX κ cy Z cc (w0 :: zT) own rm) (hC : cLens cy q C) (hzo : zOK Z) {c : Nat} (hc : isX2 c) {y : MethodName} {cb : ByteArray} {nl : Nat} {rt : Option FieldType} {rm2 : Room} {index : Nat} {res : Option Value} {w2 : va_W} (As rest : List Value) (hM : GD (Kl κ) (KD κ) cy Z y (zW y cb nl rt) rm2 (.ref (sAd ε c) :: As) (C ε σ) res w2 0 0) (hk : mKV RX2 y cb nl rt As.length) (h1 : Cond.methodLink own index y ∈ lw_tbl) (hrc : rm2.cells = 0) (hrs : rm2.slots = 0) (hR1 : rm2.frames + 1 ≤ rm.frames) (hR2 : 8 + (nl + 11) + rm2.locals ≤ rm.locals) (hf : n1 + 0 ≤ rm.cells ∧ n2 + 0 ≤ rm.slots) {st0 st1 : List Value} (hst : st0 = As.reverse ++ .ref (sAd ε c) :: rest) (hst1 : res.toList ++ rest = st1) (hrest : (rest.map fun v => v.category).sum ≤ 8) (d : decode cc pc = .ok (.invokevirtual index, 3)) (k : GW κ n1 n2 w2 (pc + 3) lv st1) : GW κ n1 n2 (C ε σ) pc lv st0 := by
  refine g_callV hX hzo As rest 2 (q c) (qc := (RX2, TX2, 3)) rfl rfl (by rw [hC.1 ε σ c (kc_X2 (cy := cy) (σ := σ) hc).1, (kc_X2 hc).2]) hM (z_V h1 hk.1 hk.2.1 hk.2.2.1 hk.2.2.2.1) rfl hrc hrs hk.2.2.2.2 hR1 hR2 hst hrest hf d ?_
  rintro res' w' ⟨rfl, rfl⟩
  rw [hst1]
  exact k
theorem c_get3 (hX : GX κ cy Z cc (w0 :: zT) own rm) (hC : cLens cy q C) {c : Nat} (hc : isX3 c) (j : Nat) (hj : j < 4) {index : Nat} {v : Value} (hv : (cF3 ε σ c)[j]? = some v) (hl : Cond.fieldLink own index "LeaningStreet$Slot" (TX3 j).2.1 (TX3 j).2.2.1 ∈ lw_tbl) (href : (TX3 j).1 = "LeaningStreet$Slot") (d : decode cc pc = .ok (.getfield index, 3)) (k : GW κ n1 n2 (C ε σ) (pc + 3) lv (v :: st)) : GW κ n1 n2 (C ε σ) pc lv (.ref (sAd ε c) :: st) := g_get hX 3 (q c) j zin_X3 (by rw [hC.1 ε σ c (kc_X3 (cy := cy) (σ := σ) hc).1, (kc_X3 hc).2]) rfl hj (zu hl rfl) href hv d k
theorem c_put3 (hX : GX κ cy Z cc (w0 :: zT) own rm) (hC : cLens cy q C) {c : Nat} (hc : isX3 c) (j : Nat) (hj : j < 4) {index : Nat} {z : Int32} {ty : FieldType} (hs : (cF3 ε σ c).set j (.int z) = cF3 ε (pI σ c j z) c) (hfin : (TX3 j).2.2.2 = false) (hd : parseFieldDescriptor (TX3 j).2.2.1 = some ty) (hn : narrow ty (.int z) = .int z) (hfit : fits ty (.int z) = true) (hl : Cond.fieldLink own index "LeaningStreet$Slot" (TX3 j).2.1 (TX3 j).2.2.1 ∈ lw_tbl) (href : (TX3 j).1 = "LeaningStreet$Slot") (d : decode cc pc = .ok (.putfield index, 3)) (k : GW κ n1 n2 (C ε (pI σ c j z)) (pc + 3) lv st) : GW κ n1 n2 (C ε σ) pc lv (.int z :: .ref (sAd ε c) :: st) := g_put (fs := cF3 ε σ c) hX 3 (q c) j zin_X3 tyX3 tyX3_ok nmX3 (by rw [hC.1 ε σ c (kc_X3 (cy := cy) (σ := σ) hc).1, (kc_X3 hc).2]) rfl hj (zu hl rfl) href hfin hd hn hfit hj (by rw [hs, ← (kc_X3 (cy := cy) (σ := pI σ c j z) hc).2]; exact hC.2 ε σ (pI σ c j z) c (kc_X3 (cy := cy) (σ := σ) hc).1 pI_cell) d k
theorem c_call3 (hX : GX κ cy Z cc (w0 :: zT) own rm) (hC : cLens cy q C) (hzo : zOK Z) {c : Nat} (hc : isX3 c) {y : MethodName} {cb : ByteArray} {nl : Nat} {rt : Option FieldType} {rm2 : Room} {index : Nat} {res : Option Value} {w2 : va_W} (As rest : List Value) (hM : GD (Kl κ) (KD κ) cy Z y (zW y cb nl rt) rm2 (.ref (sAd ε c) :: As) (C ε σ) res w2 0 0) (hk : mKV RX3 y cb nl rt As.length) (h1 : Cond.methodLink own index y ∈ lw_tbl) (hrc : rm2.cells = 0) (hrs : rm2.slots = 0) (hR1 : rm2.frames + 1 ≤ rm.frames) (hR2 : 8 + (nl + 11) + rm2.locals ≤ rm.locals) (hf : n1 + 0 ≤ rm.cells ∧ n2 + 0 ≤ rm.slots) {st0 st1 : List Value} (hst : st0 = As.reverse ++ .ref (sAd ε c) :: rest) (hst1 : res.toList ++ rest = st1) (hrest : (rest.map fun v => v.category).sum ≤ 8) (d : decode cc pc = .ok (.invokevirtual index, 3)) (k : GW κ n1 n2 w2 (pc + 3) lv st1) : GW κ n1 n2 (C ε σ) pc lv st0 := by
  refine g_callV hX hzo As rest 3 (q c) (qc := (RX3, TX3, 4)) rfl rfl (by rw [hC.1 ε σ c (kc_X3 (cy := cy) (σ := σ) hc).1, (kc_X3 hc).2]) hM (z_V h1 hk.1 hk.2.1 hk.2.2.1 hk.2.2.2.1) rfl hrc hrs hk.2.2.2.2 hR1 hR2 hst hrest hf d ?_
  rintro res' w' ⟨rfl, rfl⟩
  rw [hst1]
  exact k
theorem c_get4 (hX : GX κ cy Z cc (w0 :: zT) own rm) (hC : cLens cy q C) {c : Nat} (hc : isX4 c) (j : Nat) (hj : j < 12) {index : Nat} {v : Value} (hv : (cF4 ε σ c)[j]? = some v) (hl : Cond.fieldLink own index "LeaningStreet$Street" (TX4 j).2.1 (TX4 j).2.2.1 ∈ lw_tbl) (href : (TX4 j).1 = "LeaningStreet$Street") (d : decode cc pc = .ok (.getfield index, 3)) (k : GW κ n1 n2 (C ε σ) (pc + 3) lv (v :: st)) : GW κ n1 n2 (C ε σ) pc lv (.ref (sAd ε c) :: st) := g_get hX 4 (q c) j zin_X4 (by rw [hC.1 ε σ c (kc_X4 (cy := cy) (σ := σ) hc).1, (kc_X4 hc).2]) rfl hj (zu hl rfl) href hv d k
theorem c_put4 (hX : GX κ cy Z cc (w0 :: zT) own rm) (hC : cLens cy q C) {c : Nat} (hc : isX4 c) (j : Nat) (hj : j < 12) {index : Nat} {z : Int32} {ty : FieldType} (hs : (cF4 ε σ c).set j (.int z) = cF4 ε (pI σ c j z) c) (hfin : (TX4 j).2.2.2 = false) (hd : parseFieldDescriptor (TX4 j).2.2.1 = some ty) (hn : narrow ty (.int z) = .int z) (hfit : fits ty (.int z) = true) (hl : Cond.fieldLink own index "LeaningStreet$Street" (TX4 j).2.1 (TX4 j).2.2.1 ∈ lw_tbl) (href : (TX4 j).1 = "LeaningStreet$Street") (d : decode cc pc = .ok (.putfield index, 3)) (k : GW κ n1 n2 (C ε (pI σ c j z)) (pc + 3) lv st) : GW κ n1 n2 (C ε σ) pc lv (.int z :: .ref (sAd ε c) :: st) := g_put (fs := cF4 ε σ c) hX 4 (q c) j zin_X4 tyX4 tyX4_ok nmX4 (by rw [hC.1 ε σ c (kc_X4 (cy := cy) (σ := σ) hc).1, (kc_X4 hc).2]) rfl hj (zu hl rfl) href hfin hd hn hfit hj (by rw [hs, ← (kc_X4 (cy := cy) (σ := pI σ c j z) hc).2]; exact hC.2 ε σ (pI σ c j z) c (kc_X4 (cy := cy) (σ := σ) hc).1 pI_cell) d k
theorem c_call4 (hX : GX κ cy Z cc (w0 :: zT) own rm) (hC : cLens cy q C) (hzo : zOK Z) {c : Nat} (hc : isX4 c) {y : MethodName} {cb : ByteArray} {nl : Nat} {rt : Option FieldType} {rm2 : Room} {index : Nat} {res : Option Value} {w2 : va_W} (As rest : List Value) (hM : GD (Kl κ) (KD κ) cy Z y (zW y cb nl rt) rm2 (.ref (sAd ε c) :: As) (C ε σ) res w2 0 0) (hk : mKV RX4 y cb nl rt As.length) (h1 : Cond.methodLink own index y ∈ lw_tbl) (hrc : rm2.cells = 0) (hrs : rm2.slots = 0) (hR1 : rm2.frames + 1 ≤ rm.frames) (hR2 : 8 + (nl + 11) + rm2.locals ≤ rm.locals) (hf : n1 + 0 ≤ rm.cells ∧ n2 + 0 ≤ rm.slots) {st0 st1 : List Value} (hst : st0 = As.reverse ++ .ref (sAd ε c) :: rest) (hst1 : res.toList ++ rest = st1) (hrest : (rest.map fun v => v.category).sum ≤ 8) (d : decode cc pc = .ok (.invokevirtual index, 3)) (k : GW κ n1 n2 w2 (pc + 3) lv st1) : GW κ n1 n2 (C ε σ) pc lv st0 := by
  refine g_callV hX hzo As rest 4 (q c) (qc := (RX4, TX4, 12)) rfl rfl (by rw [hC.1 ε σ c (kc_X4 (cy := cy) (σ := σ) hc).1, (kc_X4 hc).2]) hM (z_V h1 hk.1 hk.2.1 hk.2.2.1 hk.2.2.2.1) rfl hrc hrs hk.2.2.2.2 hR1 hR2 hst hrest hf d ?_
  rintro res' w' ⟨rfl, rfl⟩
  rw [hst1]
  exact k
theorem c_get5 (hX : GX κ cy Z cc (w0 :: zT) own rm) (hC : cLens cy q C) {c : Nat} (hc : isX5 ε c) (j : Nat) (hj : j < 5) {index : Nat} {v : Value} (hv : (cF5 ε σ c)[j]? = some v) (hl : Cond.fieldLink own index "LeaningStreet$Text" (TX5 j).2.1 (TX5 j).2.2.1 ∈ lw_tbl) (href : (TX5 j).1 = "LeaningStreet$Text") (d : decode cc pc = .ok (.getfield index, 3)) (k : GW κ n1 n2 (C ε σ) (pc + 3) lv (v :: st)) : GW κ n1 n2 (C ε σ) pc lv (.ref (sAd ε c) :: st) := g_get hX 5 (q c) j zin_X5 (by rw [hC.1 ε σ c (kc_X5 (cy := cy) (σ := σ) hc).1, (kc_X5 hc).2]) rfl hj (zu hl rfl) href hv d k
theorem c_call5 (hX : GX κ cy Z cc (w0 :: zT) own rm) (hC : cLens cy q C) (hzo : zOK Z) {c : Nat} (hc : isX5 ε c) {y : MethodName} {cb : ByteArray} {nl : Nat} {rt : Option FieldType} {rm2 : Room} {index : Nat} {res : Option Value} {w2 : va_W} (As rest : List Value) (hM : GD (Kl κ) (KD κ) cy Z y (zW y cb nl rt) rm2 (.ref (sAd ε c) :: As) (C ε σ) res w2 0 0) (hk : mKV RX5 y cb nl rt As.length) (h1 : Cond.methodLink own index y ∈ lw_tbl) (hrc : rm2.cells = 0) (hrs : rm2.slots = 0) (hR1 : rm2.frames + 1 ≤ rm.frames) (hR2 : 8 + (nl + 11) + rm2.locals ≤ rm.locals) (hf : n1 + 0 ≤ rm.cells ∧ n2 + 0 ≤ rm.slots) {st0 st1 : List Value} (hst : st0 = As.reverse ++ .ref (sAd ε c) :: rest) (hst1 : res.toList ++ rest = st1) (hrest : (rest.map fun v => v.category).sum ≤ 8) (d : decode cc pc = .ok (.invokevirtual index, 3)) (k : GW κ n1 n2 w2 (pc + 3) lv st1) : GW κ n1 n2 (C ε σ) pc lv st0 := by
  refine g_callV hX hzo As rest 5 (q c) (qc := (RX5, TX5, 5)) rfl rfl (by rw [hC.1 ε σ c (kc_X5 (cy := cy) (σ := σ) hc).1, (kc_X5 hc).2]) hM (z_V h1 hk.1 hk.2.1 hk.2.2.1 hk.2.2.2.1) rfl hrc hrs hk.2.2.2.2 hR1 hR2 hst hrest hf d ?_
  rintro res' w' ⟨rfl, rfl⟩
  rw [hst1]
  exact k
theorem c_get6 (hX : GX κ cy Z cc (w0 :: zT) own rm) (hC : cLens cy q C) {c : Nat} (hc : isX6 c) (j : Nat) (hj : j < 9) {index : Nat} {v : Value} (hv : (cF6 ε σ c)[j]? = some v) (hl : Cond.fieldLink own index "LeaningStreet" (TX6 j).2.1 (TX6 j).2.2.1 ∈ lw_tbl) (href : (TX6 j).1 = "LeaningStreet") (d : decode cc pc = .ok (.getfield index, 3)) (k : GW κ n1 n2 (C ε σ) (pc + 3) lv (v :: st)) : GW κ n1 n2 (C ε σ) pc lv (.ref (sAd ε c) :: st) := g_get hX 6 (q c) j zin_X6 (by rw [hC.1 ε σ c (kc_X6 (cy := cy) (σ := σ) hc).1, (kc_X6 hc).2]) rfl hj (zu hl rfl) href hv d k
theorem c_put6 (hX : GX κ cy Z cc (w0 :: zT) own rm) (hC : cLens cy q C) {c : Nat} (hc : isX6 c) (j : Nat) (hj : j < 9) {index : Nat} {z : Int32} {ty : FieldType} (hs : (cF6 ε σ c).set j (.int z) = cF6 ε (pI σ c j z) c) (hfin : (TX6 j).2.2.2 = false) (hd : parseFieldDescriptor (TX6 j).2.2.1 = some ty) (hn : narrow ty (.int z) = .int z) (hfit : fits ty (.int z) = true) (hl : Cond.fieldLink own index "LeaningStreet" (TX6 j).2.1 (TX6 j).2.2.1 ∈ lw_tbl) (href : (TX6 j).1 = "LeaningStreet") (d : decode cc pc = .ok (.putfield index, 3)) (k : GW κ n1 n2 (C ε (pI σ c j z)) (pc + 3) lv st) : GW κ n1 n2 (C ε σ) pc lv (.int z :: .ref (sAd ε c) :: st) := g_put (fs := cF6 ε σ c) hX 6 (q c) j zin_X6 tyX6 tyX6_ok nmX6 (by rw [hC.1 ε σ c (kc_X6 (cy := cy) (σ := σ) hc).1, (kc_X6 hc).2]) rfl hj (zu hl rfl) href hfin hd hn hfit hj (by rw [hs, ← (kc_X6 (cy := cy) (σ := pI σ c j z) hc).2]; exact hC.2 ε σ (pI σ c j z) c (kc_X6 (cy := cy) (σ := σ) hc).1 pI_cell) d k
theorem c_call6 (hX : GX κ cy Z cc (w0 :: zT) own rm) (hC : cLens cy q C) (hzo : zOK Z) {c : Nat} (hc : isX6 c) {y : MethodName} {cb : ByteArray} {nl : Nat} {rt : Option FieldType} {rm2 : Room} {index : Nat} {res : Option Value} {w2 : va_W} (As rest : List Value) (hM : GD (Kl κ) (KD κ) cy Z y (zW y cb nl rt) rm2 (.ref (sAd ε c) :: As) (C ε σ) res w2 0 0) (hk : mKV RX6 y cb nl rt As.length) (h1 : Cond.methodLink own index y ∈ lw_tbl) (hrc : rm2.cells = 0) (hrs : rm2.slots = 0) (hR1 : rm2.frames + 1 ≤ rm.frames) (hR2 : 8 + (nl + 11) + rm2.locals ≤ rm.locals) (hf : n1 + 0 ≤ rm.cells ∧ n2 + 0 ≤ rm.slots) {st0 st1 : List Value} (hst : st0 = As.reverse ++ .ref (sAd ε c) :: rest) (hst1 : res.toList ++ rest = st1) (hrest : (rest.map fun v => v.category).sum ≤ 8) (d : decode cc pc = .ok (.invokevirtual index, 3)) (k : GW κ n1 n2 w2 (pc + 3) lv st1) : GW κ n1 n2 (C ε σ) pc lv st0 := by
  refine g_callV hX hzo As rest 6 (q c) (qc := (RX6, TX6, 9)) rfl rfl (by rw [hC.1 ε σ c (kc_X6 (cy := cy) (σ := σ) hc).1, (kc_X6 hc).2]) hM (z_V h1 hk.1 hk.2.1 hk.2.2.1 hk.2.2.2.1) rfl hrc hrs hk.2.2.2.2 hR1 hR2 hst hrest hf d ?_
  rintro res' w' ⟨rfl, rfl⟩
  rw [hst1]
  exact k
theorem c_ald (hX : GX κ cy Z cc (w0 :: zT) own rm) (hC : cLens cy q C) {c n : Nat} (hc : isA ε c n) {i : Int32} (hi : ¬ (i < 0 ∨ n ≤ i.toNatClampNeg)) (d : decode cc pc = .ok (.iaload, 1)) (k : GW κ n1 n2 (C ε σ) (pc + 1) lv (.int (σ.1 c i.toNatClampNeg) :: st)) : GW κ n1 n2 (C ε σ) pc lv (.int i :: .ref (sAd ε c) :: st) := g_ald hX (q c) (by rw [hC.1 ε σ c hc.1, ka_e hc]) hi d k
theorem c_ast (hX : GX κ cy Z cc (w0 :: zT) own rm) (hC : cLens cy q C) {c n : Nat} (hc : isA ε c n) {i x : Int32} (hi : ¬ (i < 0 ∨ n ≤ i.toNatClampNeg)) (d : decode cc pc = .ok (.iastore, 1)) (k : GW κ n1 n2 (C ε (pI σ c i.toNatClampNeg x)) (pc + 1) lv st) : GW κ n1 n2 (C ε σ) pc lv (.int x :: .int i :: .ref (sAd ε c) :: st) := g_ast hX (q c) (by rw [hC.1 ε σ c hc.1, ka_e hc]) hi (by
  have h2 : isA ε c n := hc
  have e := ka_e (cy := cy) (σ := pI σ c i.toNatClampNeg x) h2
  rw [pI_s] at e
  rw [← e]
  exact hC.2 ε σ _ c hc.1 pI_cell) d k
theorem c_len (hX : GX κ cy Z cc (w0 :: zT) own rm) (hC : cLens cy q C) {c n : Nat} (hc : isA ε c n) {v : Int32} (hv : Int32.ofNat n = v) (d : decode cc pc = .ok (.arraylength, 1)) (k : GW κ n1 n2 (C ε σ) (pc + 1) lv (.int v :: st)) : GW κ n1 n2 (C ε σ) pc lv (.ref (sAd ε c) :: st) := g_alen hX (q c) (by rw [hC.1 ε σ c hc.1, ka_e hc]) hv d k
theorem c_aald (hX : GX κ cy Z cc (w0 :: zT) own rm) (hC : cLens cy q C) {c n t : Nat} {f : Nat → Option Nat} {Cn : String} (hc : isQ cy ε σ c n t f) (ht : (zTy cy)[t]? = some (cy t, .object Cn)) {i : Int32} (hi : ¬ (i < 0 ∨ n ≤ i.toNatClampNeg)) {v : Value} (hv : va_rf (f i.toNatClampNeg) = v) (d : decode cc pc = .ok (.aaload, 1)) (k : GW κ n1 n2 (C ε σ) (pc + 1) lv (v :: st)) : GW κ n1 n2 (C ε σ) pc lv (.int i :: .ref (sAd ε c) :: st) := by
  refine g_aald hX (q c) t (by rw [hC.1 ε σ c hc.1, hc.2]) ht hi d ?_
  rw [hv]
  exact k
end CC
/-! what a function of the machine's answers is made of -/
def ob {α β γ : Type} (x : Option (α × β)) (f : α → β → Option γ) : Option γ := match x with
  | none => none
  | some r => f r.1 r.2
theorem ob_some {α β γ : Type} {x : Option (α × β)} {f : α → β → Option γ} {c : γ} (h : ob x f = some c) : ∃ a b, x = some (a, b) ∧ f a b = some c := by
  cases x with
  | none => cases h
  | some r => exact ⟨r.1, r.2, rfl, h⟩
def o1 {α γ : Type} (x : Option α) (f : α → Option γ) : Option γ := match x with
  | none => none
  | some r => f r
theorem o1_some {α γ : Type} {x : Option α} {f : α → Option γ} {c : γ} (h : o1 x f = some c) : ∃ a, x = some a ∧ f a = some c := by
  cases x with
  | none => cases h
  | some r => exact ⟨r, rfl, h⟩
def oq {α γ : Type} (x : Option α) (a : Option γ) (f : α → Option γ) : Option γ := match x with
  | none => a
  | some r => f r
theorem oq_some {α γ : Type} {x : Option α} {a : Option γ} {f : α → Option γ} {c : γ} (h : oq x a f = some c) : (x = none ∧ a = some c) ∨ ∃ t, x = some t ∧ f t = some c := by
  cases x with
  | none => exact Or.inl ⟨rfl, h⟩
  | some r => exact Or.inr ⟨r, rfl, h⟩
theorem gd_some {γ : Type} {p : Prop} [Decidable p] {a : Option γ} {c : γ} (h : (if p then a else none) = some c) : p ∧ a = some c := by
  by_cases hp : p
  · rw [if_pos hp] at h; exact ⟨hp, h⟩
  · rw [if_neg hp] at h; cases h
theorem nar_b {x : Int32} (h : x = 0 ∨ x = 1) : narrow .boolean (.int x) = .int x := by rcases h with rfl | rfl <;> rfl
theorem fit_b {x : Int32} (h : x = 0 ∨ x = 1) : fits .boolean (.int x) = true := by rcases h with rfl | rfl <;> rfl
theorem g_retb {κ : GC} {cc : ByteArray} {mc ms : Nat} {w : va_W} {pc : Nat} {lv : List (Nat × Value)} {Po : Option Value → va_W → Prop} (hR : GR κ cc mc ms (some .boolean) Po) {x : Int32} (hb : x = 0 ∨ x = 1) (hx : Po (some (.int x)) w) (d : decode cc pc = .ok (.ireturn, 1)) : GW κ mc ms w pc lv [.int x] := (hR _ _ hx).1 .boolean x pc lv rfl rfl (nar_b hb) d
theorem g_retr {κ : GC} {cc : ByteArray} {mc ms : Nat} {w : va_W} {pc : Nat} {lv : List (Nat × Value)} {Cn : String} {Po : Option Value → va_W → Prop} (hR : GR κ cc mc ms (some (.object Cn)) Po) {a : Nat} (hx : Po (some (.ref a)) w) (d : decode cc pc = .ok (.areturn, 1)) : GW κ mc ms w pc lv [.ref a] := (hR _ _ hx).2.2 (.object Cn) (.ref a) pc lv rfl (Or.inl ⟨_, rfl⟩) (Or.inr ⟨_, rfl⟩) rfl d
theorem oi_1 {α β : Type} {a b : α} {c d : β} (h : some (a, c) = some (b, d)) : a = b := by cases h; rfl
theorem oi_2 {α β : Type} {a b : α} {c d : β} (h : some (a, c) = some (b, d)) : c = d := by cases h; rfl
theorem oi_0 {α : Type} {a b : α} (h : some a = some b) : a = b := by cases h; rfl
theorem g_retbD {κ : GC} {cc : ByteArray} {mc ms : Nat} {w w2 : va_W} {pc : Nat} {lv : List (Nat × Value)} {res : Int32} (hR : GR κ cc mc ms (some .boolean) (fun x y => x = some (.int res) ∧ y = w2)) {x : Int32} (hb : x = 0 ∨ x = 1) (hx : x = res) (hw : w = w2) (d : decode cc pc = .ok (.ireturn, 1)) : GW κ mc ms w pc lv [.int x] := by subst hx; subst hw; exact g_retb hR hb ⟨rfl, rfl⟩ d
theorem g_retrD {κ : GC} {cc : ByteArray} {mc ms : Nat} {w w2 : va_W} {pc : Nat} {lv : List (Nat × Value)} {Cn : String} {a b : Nat} (hR : GR κ cc mc ms (some (.object Cn)) (fun x y => x = some (.ref b) ∧ y = w2)) (hx : a = b) (hw : w = w2) (d : decode cc pc = .ok (.areturn, 1)) : GW κ mc ms w pc lv [.ref a] := by subst hx; subst hw; exact g_retr hR ⟨rfl, rfl⟩ d
theorem nar_y {x : Int32} (h : x = 0 ∨ x = 1) : narrow .byte (.int x) = .int x := by rcases h with rfl | rfl <;> rfl
theorem nar_c {x : Int32} (h : (Int32.toUInt32 x % 65536).toInt32 = x) : narrow .char (.int x) = .int x := by rw [← h]; exact pk_nc _
theorem g_retn {κ : GC} {cc : ByteArray} {mc ms : Nat} {w w2 : va_W} {pc : Nat} {lv : List (Nat × Value)} {ty : FieldType} {res : Int32} (hR : GR κ cc mc ms (some ty) (fun x y => x = some (.int res) ∧ y = w2)) {x : Int32} (hn : narrow ty (.int x) = .int x) (hx : x = res) (hw : w = w2) (d : decode cc pc = .ok (.ireturn, 1)) : GW κ mc ms w pc lv [.int x] := by subst hx; subst hw; exact (hR _ _ ⟨rfl, rfl⟩).1 ty x pc lv rfl rfl hn d
theorem if_p {γ : Type} {p : Prop} [Decidable p] {a b : Option γ} {c : γ} (hp : p) (h : (if p then a else b) = some c) : a = some c := by rw [if_pos hp] at h; exact h
theorem if_n {γ : Type} {p : Prop} [Decidable p] {a b : Option γ} {c : γ} (hp : ¬ p) (h : (if p then a else b) = some c) : b = some c := by rw [if_neg hp] at h; exact h
theorem g_re {κ : GC} {n1 n2 : Nat} {w : va_W} {pc : Nat} {lv lv2 : List (Nat × Value)} {st st2 : List Value} (h1 : lv = lv2) (h2 : st = st2) (k : GW κ n1 n2 w pc lv2 st2) : GW κ n1 n2 w pc lv st := by rw [h1, h2]; exact k

