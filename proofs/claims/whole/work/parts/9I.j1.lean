/-! ===== worlds that hold the same ===== -/
def eqE (x y : va_E) : Prop := x = y ∨ ∃ (c : ClassId) (n : Nat) (f g : Nat → Option Nat), x = refs f n c ∧ y = refs g n c ∧ ∀ k, k < n → f k = g k
theorem eqE_rf (x : va_E) : eqE x x := Or.inl rfl
theorem arrV_cg {cI : ClassId} {N : Nat} {f g : Nat → Value} (h : ∀ k, k < N → f k = g k) : arrV cI N f = arrV cI N g := by
  have e : (fun j : Fin N => f j.val) = (fun j : Fin N => g j.val) := funext fun j => h j.val j.isLt
  unfold arrV
  rw [e]
theorem eqE_at {D : va_G} {H : Heap} {a : Nat} {x y : va_E} (h : eqE x y) (hx : va_at D vwCl (a, x) H) : va_at D vwCl (a, y) H := by
  rcases h with rfl | ⟨c, n, f, g, rfl, rfl, hfg⟩
  · exact hx
  · have hx : H[a]? = some (vp_cell c (n, .inr (.inr (.inr (.inr f))))) := hx
    show H[a]? = some (vp_cell c (n, .inr (.inr (.inr (.inr g)))))
    rw [hx, vp_cell_q, vp_cell_q, arrV_cg (fun k hk => by rw [hfg k hk])]
def wEq (w w' : va_W) : Prop := w.length = w'.length ∧ ∀ (k : Nat) (p : Nat × va_E), w'[k]? = some p → ∃ e, w[k]? = some (p.1, e) ∧ eqE e p.2
theorem wEq.le {w w' : va_W} (h : wEq w w') : wLe w w' := by
  refine ⟨fun D H hP k p hk => ?_, fun A hD => ⟨fun i j p q hi hj e => ?_, fun k p hk => ?_⟩⟩
  · obtain ⟨e, h1, h2⟩ := h.2 k p hk
    exact eqE_at h2 (hP k _ h1)
  · obtain ⟨e1, h1, -⟩ := h.2 i p hi
    obtain ⟨e2, h2, -⟩ := h.2 j q hj
    exact hD.1 i j _ _ h1 h2 e
  · obtain ⟨e1, h1, -⟩ := h.2 k p hk
    exact hD.2 k (p.1, e1) h1
theorem wEq_rf (w : va_W) : wEq w w := ⟨rfl, fun _ p hk => ⟨p.2, hk, eqE_rf _⟩⟩
theorem wEq.cons {a a' : Nat} {x y : va_E} {w w' : va_W} (ha : a = a') (hx : eqE x y) (h : wEq w w') : wEq ((a, x) :: w) ((a', y) :: w') := by
  subst ha
  refine ⟨by rw [List.length_cons, List.length_cons, h.1], fun k p hk => ?_⟩
  cases k with
  | zero =>
    have hk : some (a, y) = some p := hk
    cases hk
    exact ⟨x, rfl, hx⟩
  | succ k =>
    rw [List.getElem?_cons_succ] at hk
    obtain ⟨e, h1, h2⟩ := h.2 k p hk
    exact ⟨e, by rw [List.getElem?_cons_succ]; exact h1, h2⟩
theorem wEq.app {a a' b b' : va_W} (h1 : wEq a a') (h2 : wEq b b') : wEq (a ++ b) (a' ++ b') := by
  refine ⟨by rw [List.length_append, List.length_append, h1.1, h2.1], fun k p hk => ?_⟩
  by_cases hl : k < a'.length
  · rw [List.getElem?_append_left hl] at hk
    obtain ⟨e, q1, q2⟩ := h1.2 k p hk
    exact ⟨e, by rw [List.getElem?_append_left (by rw [h1.1]; exact hl)]; exact q1, q2⟩
  · rw [List.getElem?_append_right (Nat.not_lt.mp hl)] at hk
    obtain ⟨e, q1, q2⟩ := h2.2 _ p hk
    exact ⟨e, by rw [List.getElem?_append_right (by rw [h1.1]; exact Nat.not_lt.mp hl), h1.1]; exact q1, q2⟩
theorem wEq_map {L : List Nat} {f g : Nat → Nat × va_E} (h : ∀ c ∈ L, (f c).1 = (g c).1 ∧ eqE (f c).2 (g c).2) : wEq (L.map f) (L.map g) := by
  induction L with
  | nil => exact wEq_rf []
  | cons c L ih =>
    have := wEq.cons (h c List.mem_cons_self).1 (h c List.mem_cons_self).2 (ih (fun x hx => h x (List.mem_cons_of_mem _ hx)))
    exact this
/-- which cells a cell points at -/
def rch (ε : Ev) (c : Nat) : List Nat := match kdC c with
  | 1 => [c + 1, c + 2]
  | 2 => [c + 1]
  | 3 => [c + 1, c + 2]
  | 4 => [c + 1, c + 2, c + 3, c + 4, c + 5, c + 6]
  | 5 => [c + 1, c + 2]
  | 6 => [c + 16, c + 32, c + 48, c + 64, c + 1, c + 2, c + 3]
  | 11 => (List.range (lnC ε c)).map (fun k => c + 6 + k)
  | 13 => (List.range (lnC ε c)).map (fun k => c + 79 + 2 * k)
  | 14 => (List.range (lnC ε c)).map (fun k => c + 94 + 4 * k)
  | _ => []
theorem kd_all (c : Nat) : kdC c = 0 ∨ kdC c = 1 ∨ kdC c = 2 ∨ kdC c = 3 ∨ kdC c = 4 ∨ kdC c = 5 ∨ kdC c = 6 ∨ kdC c = 10 ∨ kdC c = 11 ∨ kdC c = 12 ∨ kdC c = 13 ∨ kdC c = 14 := by
  unfold kdC
  repeat' split
  all_goals decide
theorem cell_cg {cy : Nat → ClassId} {ε ε' : Ev} {σ σ' : Sg} {c : Nat} (h1 : σ'.1 c = σ.1 c) (h2 : σ'.2 c = σ.2 c) (h3 : ∀ k x, σ.2 c k = some x → sAd ε' x = sAd ε x) (h4 : lnC ε' c = lnC ε c) (h5 : ∀ y ∈ rch ε c, sAd ε' y = sAd ε y) : eqE (cellE cy ε σ c) (cellE cy ε' σ' c) := by
  unfold cellE
  unfold rch at h5
  rcases kd_all c with e | e | e | e | e | e | e | e | e | e | e | e <;> rw [e] at h5 ⊢
  · show eqE (.inr (0, cF0 ε σ c)) (.inr (0, cF0 ε' σ' c))
    unfold cF0
    rw [h1]
    exact eqE_rf _
  · have h5 : ∀ y ∈ [c + 1, c + 2], sAd ε' y = sAd ε y := h5
    show eqE (.inr (1, cF1 ε σ c)) (.inr (1, cF1 ε' σ' c))
    unfold cF1
    rw [h1, h5 (c + 1) (by simp), h5 (c + 2) (by simp)]
    exact eqE_rf _
  · have h5 : ∀ y ∈ [c + 1], sAd ε' y = sAd ε y := h5
    show eqE (.inr (2, cF2 ε σ c)) (.inr (2, cF2 ε' σ' c))
    unfold cF2
    rw [h1, h5 (c + 1) (by simp)]
    exact eqE_rf _
  · have h5 : ∀ y ∈ [c + 1, c + 2], sAd ε' y = sAd ε y := h5
    show eqE (.inr (3, cF3 ε σ c)) (.inr (3, cF3 ε' σ' c))
    unfold cF3
    rw [h1, h5 (c + 1) (by simp), h5 (c + 2) (by simp)]
    exact eqE_rf _
  · have h5 : ∀ y ∈ [c + 1, c + 2, c + 3, c + 4, c + 5, c + 6], sAd ε' y = sAd ε y := h5
    show eqE (.inr (4, cF4 ε σ c)) (.inr (4, cF4 ε' σ' c))
    unfold cF4
    rw [h1, h5 (c + 1) (by simp), h5 (c + 2) (by simp), h5 (c + 3) (by simp), h5 (c + 4) (by simp), h5 (c + 5) (by simp), h5 (c + 6) (by simp)]
    exact eqE_rf _
  · have h5 : ∀ y ∈ [c + 1, c + 2], sAd ε' y = sAd ε y := h5
    show eqE (.inr (5, cF5 ε σ c)) (.inr (5, cF5 ε' σ' c))
    unfold cF5
    rw [h1, h5 (c + 1) (by simp), h5 (c + 2) (by simp)]
    exact eqE_rf _
  · have h5 : ∀ y ∈ [c + 16, c + 32, c + 48, c + 64, c + 1, c + 2, c + 3], sAd ε' y = sAd ε y := h5
    show eqE (.inr (6, cF6 ε σ c)) (.inr (6, cF6 ε' σ' c))
    unfold cF6
    rw [h1, h5 (c + 16) (by simp), h5 (c + 32) (by simp), h5 (c + 48) (by simp), h5 (c + 64) (by simp), h5 (c + 1) (by simp), h5 (c + 2) (by simp), h5 (c + 3) (by simp)]
    exact eqE_rf _
  · show eqE (ints (σ.1 c) (lnC ε c) (cy 0)) (ints (σ'.1 c) (lnC ε' c) (cy 0))
    rw [h1, h4]
    exact eqE_rf _
  · have h5 : ∀ y ∈ (List.range (lnC ε c)).map (fun k => c + 6 + k), sAd ε' y = sAd ε y := h5
    refine Or.inr ⟨cy 1, lnC ε c, fun k => some (sAd ε (c + 6 + k)), fun k => some (sAd ε' (c + 6 + k)), rfl, by rw [← h4]; rfl, fun k hk => ?_⟩
    show some _ = some _
    rw [h5 (c + 6 + k) (List.mem_map.mpr ⟨k, List.mem_range.mpr hk, rfl⟩)]
  · refine Or.inr ⟨cy 4, lnC ε c, fun k => (σ.2 c k).map (sAd ε), fun k => (σ'.2 c k).map (sAd ε'), rfl, by rw [← h4]; rfl, fun k hk => ?_⟩
    show (σ.2 c k).map (sAd ε) = (σ'.2 c k).map (sAd ε')
    rw [h2]
    cases hx : σ.2 c k with
    | none => rfl
    | some x =>
      show some _ = some _
      rw [h3 k x hx]
  · have h5 : ∀ y ∈ (List.range (lnC ε c)).map (fun k => c + 79 + 2 * k), sAd ε' y = sAd ε y := h5
    refine Or.inr ⟨cy 2, lnC ε c, fun k => some (sAd ε (c + 79 + 2 * k)), fun k => some (sAd ε' (c + 79 + 2 * k)), rfl, by rw [← h4]; rfl, fun k hk => ?_⟩
    show some _ = some _
    rw [h5 (c + 79 + 2 * k) (List.mem_map.mpr ⟨k, List.mem_range.mpr hk, rfl⟩)]
  · have h5 : ∀ y ∈ (List.range (lnC ε c)).map (fun k => c + 94 + 4 * k), sAd ε' y = sAd ε y := h5
    refine Or.inr ⟨cy 3, lnC ε c, fun k => some (sAd ε (c + 94 + 4 * k)), fun k => some (sAd ε' (c + 94 + 4 * k)), rfl, by rw [← h4]; rfl, fun k hk => ?_⟩
    show some _ = some _
    rw [h5 (c + 94 + 4 * k) (List.mem_map.mpr ⟨k, List.mem_range.mpr hk, rfl⟩)]
/-! ===== the first state of the class ===== -/
def sg0f : Nat → Nat → Int32 := fun c => match c with
  | 16 => fun k => if k = 11 then 1 else 0
  | 32 => fun k => if k = 11 then 1 else 0
  | 48 => fun k => if k = 11 then 1 else 0
  | 64 => fun k => if k = 5 then -1 else 0
  | 80 => fun k => if k = 1 then -1 else 0
  | 82 => fun k => if k = 1 then -1 else 0
  | 84 => fun k => if k = 1 then -1 else 0
  | 86 => fun k => if k = 1 then -1 else 0
  | 98 => fun k => if k = 1 then -1 else 0
  | 102 => fun k => if k = 1 then -1 else 0
  | 106 => fun k => if k = 1 then -1 else 0
  | 110 => fun k => if k = 1 then -1 else 0
  | 114 => fun k => if k = 1 then -1 else 0
  | _ => fun _ => 0
def sg0 : Sg := (sg0f, fun _ _ => none)
/-- a cell of the class as it is made -/
def cl0 (cy : Nat → ClassId) (ad : Nat → Nat) (c : Nat) : Nat × va_E := (ad c, cellE cy (fun _ => 0, 0, ad) sg0 c)
/-- the cells in the order of their making -/
def mids : List Nat := 0 :: (List.range' 16 16 ++ (List.range' 32 16 ++ (List.range' 48 16 ++ ([64, 65, 66] ++ ([1, 2, 3] ++ (List.range' 80 8 ++ List.range' 96 20))))))
/-- a street as it is made -/
def stL (cy : Nat → ClassId) (b : Nat → Nat) (f : Nat → Option Nat) : va_W := [(b 0, .inr (4, [.ref (b 1), .ref (b 2), .ref (b 3), .ref (b 4), .ref (b 5), .ref (b 6), .int 0, .int 0, .int 0, .int 0, .int 0, .int 1])), (b 1, refs f 9 (cy 1)), (b 2, refs (fun _ => none) 14 (cy 4)), (b 3, refs (fun _ => none) 3 (cy 4)), (b 4, ints (fun _ => 0) 9 (cy 0)), (b 5, ints (fun _ => 0) 9 (cy 0)), (b 6, ints (fun _ => 0) 9 (cy 0)), (b 7, .inr (0, [.int 0, .int 0, .int 0, .int 0, .int 0, .int 0, .int 0])), (b 8, .inr (0, [.int 0, .int 0, .int 0, .int 0, .int 0, .int 0, .int 0])), (b 9, .inr (0, [.int 0, .int 0, .int 0, .int 0, .int 0, .int 0, .int 0])), (b 10, .inr (0, [.int 0, .int 0, .int 0, .int 0, .int 0, .int 0, .int 0])), (b 11, .inr (0, [.int 0, .int 0, .int 0, .int 0, .int 0, .int 0, .int 0])), (b 12, .inr (0, [.int 0, .int 0, .int 0, .int 0, .int 0, .int 0, .int 0])), (b 13, .inr (0, [.int 0, .int 0, .int 0, .int 0, .int 0, .int 0, .int 0])), (b 14, .inr (0, [.int 0, .int 0, .int 0, .int 0, .int 0, .int 0, .int 0])), (b 15, .inr (0, [.int 0, .int 0, .int 0, .int 0, .int 0, .int 0, .int 0]))]
theorem st_eq16 {cy : Nat → ClassId} {b ad : Nat → Nat} {f : Nat → Option Nat} (h : ∀ j, j < 16 → b j = ad (16 + j)) (hf : ∀ k, k < 9 → f k = some (b (7 + k))) : wEq (stL cy b f) ((List.range' 16 16).map (cl0 cy ad)) := by
  have e0 : b 0 = ad 16 := h 0 (by decide)
  have e1 : b 1 = ad 17 := h 1 (by decide)
  have e2 : b 2 = ad 18 := h 2 (by decide)
  have e3 : b 3 = ad 19 := h 3 (by decide)
  have e4 : b 4 = ad 20 := h 4 (by decide)
  have e5 : b 5 = ad 21 := h 5 (by decide)
  have e6 : b 6 = ad 22 := h 6 (by decide)
  have e7 : b 7 = ad 23 := h 7 (by decide)
  have e8 : b 8 = ad 24 := h 8 (by decide)
  have e9 : b 9 = ad 25 := h 9 (by decide)
  have e10 : b 10 = ad 26 := h 10 (by decide)
  have e11 : b 11 = ad 27 := h 11 (by decide)
  have e12 : b 12 = ad 28 := h 12 (by decide)
  have e13 : b 13 = ad 29 := h 13 (by decide)
  have e14 : b 14 = ad 30 := h 14 (by decide)
  have e15 : b 15 = ad 31 := h 15 (by decide)
  unfold stL
  rw [e0, e1, e2, e3, e4, e5, e6, e7, e8, e9, e10, e11, e12, e13, e14, e15]
  show wEq _ [cl0 cy ad 16, cl0 cy ad 17, cl0 cy ad 18, cl0 cy ad 19, cl0 cy ad 20, cl0 cy ad 21, cl0 cy ad 22, cl0 cy ad 23, cl0 cy ad 24, cl0 cy ad 25, cl0 cy ad 26, cl0 cy ad 27, cl0 cy ad 28, cl0 cy ad 29, cl0 cy ad 30, cl0 cy ad 31]
  refine wEq.cons rfl (Or.inl rfl) ?_
  refine wEq.cons rfl (Or.inr ⟨cy 1, 9, f, fun k => some (ad (16 + 1 + 6 + k)), rfl, rfl, fun k hk => ?_⟩) ?_
  · rw [hf k hk, h (7 + k) (by omega)]
    exact congrArg (fun x => some (ad x)) (by omega)
  refine wEq.cons rfl (Or.inl rfl) ?_
  refine wEq.cons rfl (Or.inl rfl) ?_
  refine wEq.cons rfl (Or.inl rfl) ?_
  refine wEq.cons rfl (Or.inl rfl) ?_
  refine wEq.cons rfl (Or.inl rfl) ?_
  refine wEq.cons rfl (Or.inl rfl) ?_
  refine wEq.cons rfl (Or.inl rfl) ?_
  refine wEq.cons rfl (Or.inl rfl) ?_
  refine wEq.cons rfl (Or.inl rfl) ?_
  refine wEq.cons rfl (Or.inl rfl) ?_
  refine wEq.cons rfl (Or.inl rfl) ?_
  refine wEq.cons rfl (Or.inl rfl) ?_
  refine wEq.cons rfl (Or.inl rfl) ?_
  refine wEq.cons rfl (Or.inl rfl) ?_
  exact wEq_rf []
theorem st_eq32 {cy : Nat → ClassId} {b ad : Nat → Nat} {f : Nat → Option Nat} (h : ∀ j, j < 16 → b j = ad (32 + j)) (hf : ∀ k, k < 9 → f k = some (b (7 + k))) : wEq (stL cy b f) ((List.range' 32 16).map (cl0 cy ad)) := by
  have e0 : b 0 = ad 32 := h 0 (by decide)
  have e1 : b 1 = ad 33 := h 1 (by decide)
  have e2 : b 2 = ad 34 := h 2 (by decide)
  have e3 : b 3 = ad 35 := h 3 (by decide)
  have e4 : b 4 = ad 36 := h 4 (by decide)
  have e5 : b 5 = ad 37 := h 5 (by decide)
  have e6 : b 6 = ad 38 := h 6 (by decide)
  have e7 : b 7 = ad 39 := h 7 (by decide)
  have e8 : b 8 = ad 40 := h 8 (by decide)
  have e9 : b 9 = ad 41 := h 9 (by decide)
  have e10 : b 10 = ad 42 := h 10 (by decide)
  have e11 : b 11 = ad 43 := h 11 (by decide)
  have e12 : b 12 = ad 44 := h 12 (by decide)
  have e13 : b 13 = ad 45 := h 13 (by decide)
  have e14 : b 14 = ad 46 := h 14 (by decide)
  have e15 : b 15 = ad 47 := h 15 (by decide)
  unfold stL
  rw [e0, e1, e2, e3, e4, e5, e6, e7, e8, e9, e10, e11, e12, e13, e14, e15]
  show wEq _ [cl0 cy ad 32, cl0 cy ad 33, cl0 cy ad 34, cl0 cy ad 35, cl0 cy ad 36, cl0 cy ad 37, cl0 cy ad 38, cl0 cy ad 39, cl0 cy ad 40, cl0 cy ad 41, cl0 cy ad 42, cl0 cy ad 43, cl0 cy ad 44, cl0 cy ad 45, cl0 cy ad 46, cl0 cy ad 47]
  refine wEq.cons rfl (Or.inl rfl) ?_
  refine wEq.cons rfl (Or.inr ⟨cy 1, 9, f, fun k => some (ad (32 + 1 + 6 + k)), rfl, rfl, fun k hk => ?_⟩) ?_
  · rw [hf k hk, h (7 + k) (by omega)]
    exact congrArg (fun x => some (ad x)) (by omega)
  refine wEq.cons rfl (Or.inl rfl) ?_
  refine wEq.cons rfl (Or.inl rfl) ?_
  refine wEq.cons rfl (Or.inl rfl) ?_
  refine wEq.cons rfl (Or.inl rfl) ?_
  refine wEq.cons rfl (Or.inl rfl) ?_
  refine wEq.cons rfl (Or.inl rfl) ?_
  refine wEq.cons rfl (Or.inl rfl) ?_
  refine wEq.cons rfl (Or.inl rfl) ?_
  refine wEq.cons rfl (Or.inl rfl) ?_
  refine wEq.cons rfl (Or.inl rfl) ?_
  refine wEq.cons rfl (Or.inl rfl) ?_
  refine wEq.cons rfl (Or.inl rfl) ?_
  refine wEq.cons rfl (Or.inl rfl) ?_
  refine wEq.cons rfl (Or.inl rfl) ?_
  exact wEq_rf []
theorem st_eq48 {cy : Nat → ClassId} {b ad : Nat → Nat} {f : Nat → Option Nat} (h : ∀ j, j < 16 → b j = ad (48 + j)) (hf : ∀ k, k < 9 → f k = some (b (7 + k))) : wEq (stL cy b f) ((List.range' 48 16).map (cl0 cy ad)) := by
  have e0 : b 0 = ad 48 := h 0 (by decide)
  have e1 : b 1 = ad 49 := h 1 (by decide)
  have e2 : b 2 = ad 50 := h 2 (by decide)
  have e3 : b 3 = ad 51 := h 3 (by decide)
  have e4 : b 4 = ad 52 := h 4 (by decide)
  have e5 : b 5 = ad 53 := h 5 (by decide)
  have e6 : b 6 = ad 54 := h 6 (by decide)
  have e7 : b 7 = ad 55 := h 7 (by decide)
  have e8 : b 8 = ad 56 := h 8 (by decide)
  have e9 : b 9 = ad 57 := h 9 (by decide)
  have e10 : b 10 = ad 58 := h 10 (by decide)
  have e11 : b 11 = ad 59 := h 11 (by decide)
  have e12 : b 12 = ad 60 := h 12 (by decide)
  have e13 : b 13 = ad 61 := h 13 (by decide)
  have e14 : b 14 = ad 62 := h 14 (by decide)
  have e15 : b 15 = ad 63 := h 15 (by decide)
  unfold stL
  rw [e0, e1, e2, e3, e4, e5, e6, e7, e8, e9, e10, e11, e12, e13, e14, e15]
  show wEq _ [cl0 cy ad 48, cl0 cy ad 49, cl0 cy ad 50, cl0 cy ad 51, cl0 cy ad 52, cl0 cy ad 53, cl0 cy ad 54, cl0 cy ad 55, cl0 cy ad 56, cl0 cy ad 57, cl0 cy ad 58, cl0 cy ad 59, cl0 cy ad 60, cl0 cy ad 61, cl0 cy ad 62, cl0 cy ad 63]
  refine wEq.cons rfl (Or.inl rfl) ?_
  refine wEq.cons rfl (Or.inr ⟨cy 1, 9, f, fun k => some (ad (48 + 1 + 6 + k)), rfl, rfl, fun k hk => ?_⟩) ?_
  · rw [hf k hk, h (7 + k) (by omega)]
    exact congrArg (fun x => some (ad x)) (by omega)
  refine wEq.cons rfl (Or.inl rfl) ?_
  refine wEq.cons rfl (Or.inl rfl) ?_
  refine wEq.cons rfl (Or.inl rfl) ?_
  refine wEq.cons rfl (Or.inl rfl) ?_
  refine wEq.cons rfl (Or.inl rfl) ?_
  refine wEq.cons rfl (Or.inl rfl) ?_
  refine wEq.cons rfl (Or.inl rfl) ?_
  refine wEq.cons rfl (Or.inl rfl) ?_
  refine wEq.cons rfl (Or.inl rfl) ?_
  refine wEq.cons rfl (Or.inl rfl) ?_
  refine wEq.cons rfl (Or.inl rfl) ?_
  refine wEq.cons rfl (Or.inl rfl) ?_
  refine wEq.cons rfl (Or.inl rfl) ?_
  refine wEq.cons rfl (Or.inl rfl) ?_
  exact wEq_rf []
