/-! ===== the whole world: the class's made cells, the reference's, the texts ===== -/
def cFn (cy : Nat → ClassId) (ε : Ev) (σ : Sg) (c : Nat) : Nat × va_E := (sAd ε c, cellE cy ε σ c)
def cW (cy : Nat → ClassId) (h0 : Nat) (b : Nat → Nat) (ε : Ev) (σ : Sg) (v s : Nat → Int32) (r x : Nat → Nat → Int32) : va_W := mids.map (cFn cy ε σ) ++ (mW cy h0 b v s r x ++ (List.range' 1000 (3 * sNx ε)).map (cFn cy ε σ))
def qC (c : Nat) : Nat := if c < 1000 then mids.idxOf c else 104 + (c - 1000)
def qM (j : Nat) : Nat := if j = 33 then 83 else 83 + (1 + rids.idxOf j)
theorem mids_len : mids.length = 83 := by decide +kernel
theorem mids_lt : ∀ c ∈ mids, c < 1000 := by decide +kernel
theorem mids_at : ∀ c ∈ cids 0, mids[mids.idxOf c]? = some c ∧ mids.idxOf c < 83 := by decide +kernel
theorem mids_un : ∀ c ∈ cids 0, ∀ j, j < 83 → mids[j]? = some c → j = mids.idxOf c := by decide +kernel
theorem mids_in : ∀ c ∈ mids, c ∈ cids 0 := by decide +kernel
theorem cids_lt : ∀ c ∈ cids 0, c < 1000 := by decide +kernel
theorem mW_len (cy : Nat → ClassId) (h0 : Nat) (b : Nat → Nat) (v s : Nat → Int32) (r x : Nat → Nat → Int32) : (mW cy h0 b v s r x).length = 21 := by
  unfold mW
  rw [List.length_cons, List.length_map]
  rfl
theorem cval_cases {ε : Ev} {c : Nat} (h : cVal ε c) : (c ∈ cids 0 ∧ c < 1000) ∨ (1000 ≤ c ∧ c < 1000 + 3 * sNx ε) := by
  have h : c ∈ [0, 1, 2, 3] ++ (List.range' 16 48 ++ ([64, 65, 66] ++ (List.range' 80 8 ++ (List.range' 96 20 ++ List.range' 1000 (3 * sNx ε))))) := h
  have low : ∀ c, c ∈ cids 0 → (c ∈ cids 0 ∧ c < 1000) := fun c h => ⟨h, cids_lt c h⟩
  have e0 : cids 0 = [0, 1, 2, 3] ++ (List.range' 16 48 ++ ([64, 65, 66] ++ (List.range' 80 8 ++ (List.range' 96 20 ++ [])))) := rfl
  simp only [List.mem_append] at h
  rcases h with h | h | h | h | h | h
  · refine Or.inl (low c ?_); rw [e0]; simp only [List.mem_append]; exact Or.inl h
  · refine Or.inl (low c ?_); rw [e0]; simp only [List.mem_append]; exact Or.inr (Or.inl h)
  · refine Or.inl (low c ?_); rw [e0]; simp only [List.mem_append]; exact Or.inr (Or.inr (Or.inl h))
  · refine Or.inl (low c ?_); rw [e0]; simp only [List.mem_append]; exact Or.inr (Or.inr (Or.inr (Or.inl h)))
  · refine Or.inl (low c ?_); rw [e0]; simp only [List.mem_append]; exact Or.inr (Or.inr (Or.inr (Or.inr (Or.inl h))))
  · exact Or.inr (List.mem_range'_1.mp h)
theorem map_set {L : List Nat} {f g : Nat → Nat × va_E} {i c : Nat} (hi : L[i]? = some c) (hu : ∀ j, L[j]? = some c → j = i) (h : ∀ d, d ≠ c → f d = g d) : (L.map f).set i (g c) = L.map g := by
  apply List.ext_getElem?
  intro j
  by_cases hj : j = i
  · subst hj
    have hl : j < (L.map f).length := by rw [List.length_map]; exact (List.getElem?_eq_some_iff.mp hi).1
    rw [List.getElem?_set_self hl, List.getElem?_map, hi]
    rfl
  · rw [List.getElem?_set_ne (Ne.symm hj), List.getElem?_map, List.getElem?_map]
    cases e : L[j]? with
    | none => rfl
    | some d =>
      show some (f d) = some (g d)
      rw [h d (fun z => hj (hu j (by rw [e, z])))]
theorem tx_at {n c : Nat} (h1 : 1000 ≤ c) (h2 : c < 1000 + n) : (List.range' 1000 n)[c - 1000]? = some c := by
  rw [List.getElem?_range' (by omega)]
  exact congrArg some (by omega)
theorem tx_un {n c : Nat} (h1 : 1000 ≤ c) : ∀ j, (List.range' 1000 n)[j]? = some c → j = c - 1000 := by
  intro j hj
  have hl : j < n := by
    have := (List.getElem?_eq_some_iff.mp hj).1
    rw [List.length_range'] at this
    exact this
  rw [List.getElem?_range' hl] at hj
  have := Option.some.inj hj
  omega
section LE
variable {cy : Nat → ClassId} {h0 : Nat} {b : Nat → Nat}
theorem cw_len0 {ε : Ev} {σ : Sg} : (mids.map (cFn cy ε σ)).length = 83 := by rw [List.length_map]; exact mids_len
theorem cw_lens (v s : Nat → Int32) (r x : Nat → Nat → Int32) : cLens cy qC (fun ε σ => cW cy h0 b ε σ v s r x) := by
  refine ⟨fun ε σ c hc => ?_, fun ε σ σ' c hc hr => ?_⟩
  · rcases cval_cases hc with ⟨hm, hl⟩ | ⟨h1, h2⟩
    · show (cW cy h0 b ε σ v s r x)[qC c]? = _
      unfold cW qC
      rw [if_pos hl, List.getElem?_append_left (by rw [cw_len0]; exact (mids_at c hm).2), List.getElem?_map, (mids_at c hm).1]
      rfl
    · show (cW cy h0 b ε σ v s r x)[qC c]? = _
      unfold cW qC
      rw [if_neg (by omega), List.getElem?_append_right (by rw [cw_len0]; omega), cw_len0, List.getElem?_append_right (by rw [mW_len]; omega), mW_len, show 104 + (c - 1000) - 83 - 21 = c - 1000 by omega, List.getElem?_map, tx_at h1 h2]
      rfl
  · have hf : ∀ d, d ≠ c → cFn cy ε σ d = cFn cy ε σ' d := fun d hd => by unfold cFn; rw [hr d hd]
    rcases cval_cases hc with ⟨hm, hl⟩ | ⟨h1, h2⟩
    · show (cW cy h0 b ε σ v s r x).set (qC c) (cFn cy ε σ' c) = cW cy h0 b ε σ' v s r x
      unfold cW qC
      rw [if_pos hl, List.set_append_left _ _ (by rw [cw_len0]; exact (mids_at c hm).2), map_set (mids_at c hm).1 (fun j hj => mids_un c hm j (by have := (List.getElem?_eq_some_iff.mp hj).1; rw [mids_len] at this; exact this) hj) hf]
      congr 2
      exact List.map_congr_left (fun d hd => hf d (by have := List.mem_range'_1.mp hd; omega))
    · show (cW cy h0 b ε σ v s r x).set (qC c) (cFn cy ε σ' c) = cW cy h0 b ε σ' v s r x
      unfold cW qC
      rw [if_neg (by omega), List.set_append_right _ _ (by rw [cw_len0]; omega), cw_len0, List.set_append_right _ _ (by rw [mW_len]; omega), mW_len, show 104 + (c - 1000) - 83 - 21 = c - 1000 by omega, map_set (tx_at h1 h2) (tx_un h1) hf]
      congr 1
      exact List.map_congr_left (fun d hd => hf d (by have := mids_lt d hd; omega))
theorem ln_lo {ε ε' : Ev} {c : Nat} (h : c < 1000) : lnC ε c = lnC ε' c := by
  unfold lnC
  simp only [if_pos h]
theorem rch_lo {ε : Ev} : ∀ c ∈ mids, ∀ y ∈ rch ε c, y < 1000 := by
  intro c hc y hy
  have k : ∀ c ∈ mids, ∀ y ∈ rch (fun _ => 0, 0, fun _ => 0) c, y < 1000 := by decide +kernel
  refine k c hc y ?_
  unfold rch at hy ⊢
  rw [ln_lo (ε' := (fun _ => 0, 0, fun _ => 0)) (mids_lt c hc)] at hy
  exact hy
theorem rng_3 (n : Nat) : List.range' 1000 (3 * (n + 1)) = List.range' 1000 (3 * n) ++ [1000 + 3 * n, 1000 + 3 * n + 1, 1000 + 3 * n + 2] := by
  apply List.ext_getElem?
  intro j
  by_cases h1 : j < 3 * n
  · rw [List.getElem?_append_left (by rw [List.length_range']; exact h1), List.getElem?_range' (by omega), List.getElem?_range' h1]
  · rw [List.getElem?_append_right (by rw [List.length_range']; omega), List.length_range']
    by_cases h2 : j < 3 * n + 3
    · rw [List.getElem?_range' (by omega)]
      rcases (show j = 3 * n ∨ j = 3 * n + 1 ∨ j = 3 * n + 2 by omega) with rfl | rfl | rfl
      · rw [Nat.sub_self]; exact congrArg some (by omega)
      · rw [Nat.add_sub_cancel_left]; exact congrArg some (by omega)
      · rw [Nat.add_sub_cancel_left]; exact congrArg some (by omega)
    · rw [List.getElem?_eq_none (by rw [List.length_range']; omega), List.getElem?_eq_none (by show 3 ≤ _; omega)]
theorem cw_grow (v s : Nat → Int32) (r x : Nat → Nat → Int32) : cGrow cy (fun ε σ => cW cy h0 b ε σ v s r x) := by
  intro ε σ a b1 e n m g z1 z2 z3 ht
  apply wEq.le
  show wEq (cW cy h0 b ε σ v s r x ++ _) (cW cy h0 b (eG ε a b1 e n m) (sG ε σ z1 z2 z3 g) v s r x)
  have a0 : ∀ y, y < tNew ε → sAd (eG ε a b1 e n m) y = sAd ε y := by
    intro y hy
    show (if y = tNew ε then a else if y = tNew ε + 1 then b1 else if y = tNew ε + 2 then e else ε.2.2 y) = ε.2.2 y
    rw [if_neg (by omega), if_neg (by omega), if_neg (by omega)]
  have s0 : ∀ c, c < tNew ε → (sG ε σ z1 z2 z3 g).1 c = σ.1 c := by
    intro c hc
    show (if c = tNew ε then _ else if c = tNew ε + 1 then g else if c = tNew ε + 2 then _ else σ.1 c) = σ.1 c
    rw [if_neg (by omega), if_neg (by omega), if_neg (by omega)]
  have hge : 1000 ≤ tNew ε := Nat.le_add_right _ _
  have tn : 1000 + 3 * ε.2.1 = tNew ε := rfl
  unfold cW
  rw [show sNx (eG ε a b1 e n m) = sNx ε + 1 from rfl, rng_3, List.map_append, List.append_assoc, List.append_assoc]
  refine wEq.app (wEq_map fun c hc => ?_) (wEq.app (wEq_rf _) (wEq.app (wEq_map fun c hc => ?_) ?_))
  · have hl := mids_lt c hc
    exact ⟨(a0 c (by omega)).symm, cell_cg (s0 c (by omega)) rfl (fun k y hy => a0 y (ht c k y hy)) (ln_lo hl) (fun y hy => a0 y (by have := rch_lo c hc y hy; omega))⟩
  · have hl := List.mem_range'_1.mp hc
    have hl2 : c < tNew ε := hl.2
    refine ⟨(a0 c hl2).symm, cell_cg (s0 c hl2) rfl (fun k y hy => a0 y (ht c k y hy)) ?_ (fun y hy => a0 y ?_)⟩
    · rw [ln5 hl.1, ln5 hl.1]
      show (if c = tNew ε + 1 then n else if c = tNew ε + 2 then m else ε.1 c) = ε.1 c
      rw [if_neg (by omega), if_neg (by omega)]
    · unfold rch at hy
      rw [kd5 hl.1] at hy
      by_cases h3 : c % 3 = 1
      · rw [if_pos h3] at hy
        have hy : y ∈ [c + 1, c + 2] := hy
        simp only [List.mem_cons, List.not_mem_nil, or_false] at hy
        omega
      · rw [if_neg h3] at hy
        exact absurd hy List.not_mem_nil
  · have i5 : isX5 (eG ε a b1 e n m) (tNew ε) := ⟨hge, by show tNew ε < 1000 + 3 * (ε.2.1 + 1); omega, by omega⟩
    have q0 : sAd (eG ε a b1 e n m) (tNew ε) = a := by
      show (if tNew ε = tNew ε then a else _) = a
      rw [if_pos rfl]
    have q1 : sAd (eG ε a b1 e n m) (tNew ε + 1) = b1 := by
      show (if tNew ε + 1 = tNew ε then a else if tNew ε + 1 = tNew ε + 1 then b1 else _) = b1
      rw [if_neg (by omega), if_pos rfl]
    have q2 : sAd (eG ε a b1 e n m) (tNew ε + 2) = e := by
      show (if tNew ε + 2 = tNew ε then a else if tNew ε + 2 = tNew ε + 1 then b1 else if tNew ε + 2 = tNew ε + 2 then e else _) = e
      rw [if_neg (by omega), if_neg (by omega), if_pos rfl]
    have l1 : sLn (eG ε a b1 e n m) (tNew ε + 1) = n := by
      show (if tNew ε + 1 = tNew ε + 1 then n else _) = n
      rw [if_pos rfl]
    have l2 : sLn (eG ε a b1 e n m) (tNew ε + 2) = m := by
      show (if tNew ε + 2 = tNew ε + 1 then n else if tNew ε + 2 = tNew ε + 2 then m else _) = m
      rw [if_neg (by omega), if_pos rfl]
    have t0 : (sG ε σ z1 z2 z3 g).1 (tNew ε) = fun k => if k = 0 then z1 else if k = 1 then z2 else z3 := by
      show (if tNew ε = tNew ε then (fun k => if k = 0 then z1 else if k = 1 then z2 else z3) else _) = _
      rw [if_pos rfl]
    have t1 : (sG ε σ z1 z2 z3 g).1 (tNew ε + 1) = g := by
      show (if tNew ε + 1 = tNew ε then _ else if tNew ε + 1 = tNew ε + 1 then g else _) = _
      rw [if_neg (by omega), if_pos rfl]
    have t2 : (sG ε σ z1 z2 z3 g).1 (tNew ε + 2) = fun _ => 0 := by
      show (if tNew ε + 2 = tNew ε then _ else if tNew ε + 2 = tNew ε + 1 then g else if tNew ε + 2 = tNew ε + 2 then (fun _ => 0) else _) = _
      rw [if_neg (by omega), if_neg (by omega), if_pos rfl]
    show wEq _ [cFn cy (eG ε a b1 e n m) (sG ε σ z1 z2 z3 g) (tNew ε), cFn cy (eG ε a b1 e n m) (sG ε σ z1 z2 z3 g) (tNew ε + 1), cFn cy (eG ε a b1 e n m) (sG ε σ z1 z2 z3 g) (tNew ε + 2)]
    refine wEq.cons q0.symm ?_ (wEq.cons q1.symm ?_ (wEq.cons q2.symm ?_ (wEq_rf [])))
    · show eqE _ (cellE cy (eG ε a b1 e n m) (sG ε σ z1 z2 z3 g) (tNew ε))
      rw [(kc_X5 (cy := cy) (σ := sG ε σ z1 z2 z3 g) i5).2]
      unfold cF5
      rw [t0, q1, q2]
      exact Or.inl rfl
    · show eqE _ (cellE cy (eG ε a b1 e n m) (sG ε σ z1 z2 z3 g) (tNew ε + 1))
      rw [ka_e (ka_X5_1 i5), t1, l1]
      exact Or.inl rfl
    · show eqE _ (cellE cy (eG ε a b1 e n m) (sG ε σ z1 z2 z3 g) (tNew ε + 2))
      rw [ka_e (ka_X5_2 i5), t2, l2]
      exact Or.inl rfl
theorem cw_getM {ε : Ev} {σ : Sg} {v s : Nat → Int32} {r x : Nat → Nat → Int32} {i : Nat} {e : Nat × va_E} (h : (mW cy h0 b v s r x)[i]? = some e) : (cW cy h0 b ε σ v s r x)[83 + i]? = some e := by
  unfold cW
  rw [List.getElem?_append_right (by rw [cw_len0]; omega), cw_len0, Nat.add_sub_cancel_left, List.getElem?_append_left (List.getElem?_eq_some_iff.mp h).1]
  exact h
theorem cw_setM {ε : Ev} {σ : Sg} {v s v' s' : Nat → Int32} {r x r' x' : Nat → Nat → Int32} {i : Nat} {e : Nat × va_E} (hi : i < 21) (h : (mW cy h0 b v s r x).set i e = mW cy h0 b v' s' r' x') : (cW cy h0 b ε σ v s r x).set (83 + i) e = cW cy h0 b ε σ v' s' r' x' := by
  unfold cW
  rw [List.set_append_right _ _ (by rw [cw_len0]; omega), cw_len0, Nat.add_sub_cancel_left, List.set_append_left _ _ (by rw [mW_len]; exact hi), h]
theorem rids_at : ∀ j ∈ rids, rids[rids.idxOf j]? = some j ∧ rids.idxOf j < 20 ∧ j ≠ 33 := by decide +kernel
theorem rids_un : ∀ c ∈ rids, ∀ j, j < 20 → rids[j]? = some c → j = rids.idxOf c := by decide +kernel
def rFn (cy : Nat → ClassId) (b : Nat → Nat) (s : Nat → Int32) (r x : Nat → Nat → Int32) (j : Nat) : Nat × va_E := (b j, .inl (cy 0, mN j, .inl (rowM s r x j)))
theorem mw_row {v s : Nat → Int32} {r x : Nat → Nat → Int32} {j : Nat} (hj : j ∈ rids) : (mW cy h0 b v s r x)[1 + rids.idxOf j]? = some (rFn cy b s r x j) := by
  show ((h0, _) :: rids.map (rFn cy b s r x))[1 + rids.idxOf j]? = _
  rw [Nat.add_comm, List.getElem?_cons_succ, List.getElem?_map, (rids_at j hj).1]
  rfl
theorem mw_set {v s s' : Nat → Int32} {r x r' x' : Nat → Nat → Int32} {j : Nat} (hj : j ∈ rids) (hn : ∀ d, d ≠ j → rowM s r x d = rowM s' r' x' d) : (mW cy h0 b v s r x).set (1 + rids.idxOf j) (rFn cy b s' r' x' j) = mW cy h0 b v s' r' x' := by
  show ((h0, (Sum.inr (7, mF b v) : va_E)) :: rids.map (rFn cy b s r x)).set (1 + rids.idxOf j) _ = (h0, _) :: rids.map (rFn cy b s' r' x')
  rw [Nat.add_comm, List.set_cons_succ, map_set (rids_at j hj).1 (fun i hi => rids_un j hj i (by have := (List.getElem?_eq_some_iff.mp hi).1; exact this) hi) (fun d hd => by unfold rFn; rw [hn d hd])]
theorem mA_in : ∀ j, mA j = true → j ∈ rids ∧ j ≠ 0 ∧ mB j = false := by
  intro j h
  have h2 : j ∈ [1, 2, 4, 5, 6, 7, 8, 9, 10, 11, 14, 15, 29, 30, 32] := List.contains_iff_mem.mp h
  have k : ∀ j ∈ [1, 2, 4, 5, 6, 7, 8, 9, 10, 11, 14, 15, 29, 30, 32], j ∈ rids ∧ j ≠ 0 ∧ mB j = false := by decide +kernel
  exact k j h2
theorem mB_in : ∀ j, mB j = true → j ∈ rids ∧ j ≠ 0 := by
  intro j h
  have h2 : j ∈ [12, 13, 27, 28] := List.contains_iff_mem.mp h
  have k : ∀ j ∈ [12, 13, 27, 28], j ∈ rids ∧ j ≠ 0 := by decide +kernel
  exact k j h2
theorem rowA {s : Nat → Int32} {r x : Nat → Nat → Int32} {j : Nat} (h : mA j = true) : rowM s r x j = r j := by
  obtain ⟨-, h2, h3⟩ := mA_in j h
  unfold rowM
  rw [if_neg h2, if_neg (by rw [h3]; exact Bool.false_ne_true)]
theorem rowB {s : Nat → Int32} {r x : Nat → Nat → Int32} {j : Nat} (h : mB j = true) : rowM s r x j = x j := by
  obtain ⟨-, h2⟩ := mB_in j h
  unfold rowM
  rw [if_neg h2, if_pos h]
theorem mF_set (a : Nat → Nat) (v : Nat → Int32) (k : Nat) (y : Int32) (h : mI k = true) : (mF a v).set k (.int y) = mF a (upd v k y) := by
  have h2 : k ∈ [3, 16, 17, 18, 19, 20, 21, 22, 23, 24, 25, 26, 31] := List.contains_iff_mem.mp h
  simp only [List.mem_cons, List.not_mem_nil, or_false] at h2
  rcases h2 with rfl | rfl | rfl | rfl | rfl | rfl | rfl | rfl | rfl | rfl | rfl | rfl | rfl <;> rfl
theorem cw_mlens (ε : Ev) (σ : Sg) : mLens (cy 0) h0 b qM (fun v s r x => cW cy h0 b ε σ v s r x) := by
  have q33 : qM 33 = 83 + 0 := rfl
  have qr : ∀ j, j ∈ rids → qM j = 83 + (1 + rids.idxOf j) := fun j hj => by unfold qM; rw [if_neg (rids_at j hj).2.2]
  have ql : ∀ j, j ∈ rids → 1 + rids.idxOf j < 21 := fun j hj => by have := (rids_at j hj).2.1; omega
  have z0 : (0 : Nat) ∈ rids := by decide +kernel
  refine ⟨fun v s r x => ?_, fun v s r x k y hk => ?_, fun v s r x j hj => ?_, fun v s r x j f hj => ?_, fun v s r x j hj => ?_, fun v s r x j f hj => ?_, fun v s r x => ?_, fun v s r x f => ?_⟩
  · rw [q33]; exact cw_getM rfl
  · rw [q33]
    refine cw_setM (by decide) ?_
    rw [mF_set b v k y hk]
    rfl
  · rw [qr j (mA_in j hj).1]
    refine cw_getM ((mw_row (mA_in j hj).1).trans ?_)
    unfold rFn
    rw [rowA hj]
  · rw [qr j (mA_in j hj).1]
    refine cw_setM (ql j (mA_in j hj).1) ?_
    have e := mw_set (cy := cy) (h0 := h0) (b := b) (v := v) (s := s) (s' := s) (r := r) (r' := mU r j f) (x := x) (x' := x) (mA_in j hj).1 (fun d hd => by unfold rowM; rw [mU_n _ _ hd])
    unfold rFn at e
    rw [rowA hj, mU_s] at e
    exact e
  · rw [qr j (mB_in j hj).1]
    refine cw_getM ((mw_row (mB_in j hj).1).trans ?_)
    unfold rFn
    rw [rowB hj]
  · rw [qr j (mB_in j hj).1]
    refine cw_setM (ql j (mB_in j hj).1) ?_
    have e := mw_set (cy := cy) (h0 := h0) (b := b) (v := v) (s := s) (s' := s) (r := r) (r' := r) (x := x) (x' := mU x j f) (mB_in j hj).1 (fun d hd => by unfold rowM; rw [mU_n _ _ hd])
    unfold rFn at e
    rw [rowB hj, mU_s] at e
    exact e
  · rw [qr 0 z0]
    exact cw_getM (mw_row z0)
  · rw [qr 0 z0]
    refine cw_setM (ql 0 z0) ?_
    have e := mw_set (cy := cy) (h0 := h0) (b := b) (v := v) (s := s) (s' := f) (r := r) (r' := r) (x := x) (x' := x) z0 (fun d hd => by unfold rowM; rw [if_neg hd, if_neg hd])
    exact e
end LE
