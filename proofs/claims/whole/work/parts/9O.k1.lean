/-- the script, seen from the law's body -/
def GScr (κ : GC) (bS L : Nat) (xs : Nat → Int32) : Prop := match κ with
  | (p, l, e, R, s, m, args, below, meth, c, Q, A, D, cy, nL, Z) => va_X bS L xs s s.heap ∧ bS < s.heap.size ∧ ¬ A bS
section LW
variable {κ : GC} {cy : Nat → ClassId} {Z : (Nat → Prop) → State → Heap → Prop} {cc : ByteArray} {w0 : Cond} {own : String} {rm : Room} {n1 n2 : Nat} {w : va_W} {pc : Nat} {lv : List (Nat × Value)} {st : List Value} {bS L : Nat} {xs : Nat → Int32}
theorem g_sld (hX : GX κ cy Z cc (w0 :: zT) own rm) (hS : GScr κ bS L xs) {i : Nat} (hi : i < L) (hL : L ≤ 3072) (d : decode cc pc = .ok (.iaload, 1)) (k : GW κ n1 n2 w (pc + 1) lv (.int (xs i) :: st)) : GW κ n1 n2 w pc lv (.int (nI i) :: .ref bS :: st) := by
  obtain ⟨p, l, e, R, s, m, args, below, meth, c, Q, A, D, cy', nL', Z'⟩ := κ
  obtain ⟨hx, hb, hts, hown, hK, hml, hA, hlk, hR, hcy, hZe, hZ⟩ := hX
  obtain ⟨h1, h2, h3⟩ := hS
  intro H locs ls hP hD hSS hl
  refine va_sld hx hb h1 h2 h3 hSS (vp_in_nI hi (by omega)) d ?_
  rw [nI_clamp (by omega)]
  exact k H locs ls hP hD hSS hl
theorem g_sln (hX : GX κ cy Z cc (w0 :: zT) own rm) (hS : GScr κ bS L xs) (d : decode cc pc = .ok (.arraylength, 1)) (k : GW κ n1 n2 w (pc + 1) lv (.int (nI L) :: st)) : GW κ n1 n2 w pc lv (.ref bS :: st) := by
  obtain ⟨p, l, e, R, s, m, args, below, meth, c, Q, A, D, cy', nL', Z'⟩ := κ
  obtain ⟨hx, hb, hts, hown, hK, hml, hA, hlk, hR, hcy, hZe, hZ⟩ := hX
  obtain ⟨h1, h2, h3⟩ := hS
  intro H locs ls hP hD hSS hl
  exact va_slen hx hb h1 h2 h3 hSS d (k H locs ls hP hD hSS hl)
/-- the law's locals at the call of the place i -/
abbrev lvL (bS a h0 i : Nat) : List (Nat × Value) := [(3, .int (nI i)), (2, .ref h0), (1, .ref a), (0, .ref bS)]
/-- an argument of a call: script[i + k] -/
theorem l_arg (hX : GX κ cy Z cc (w0 :: zT) own rm) (hS : GScr κ bS L xs) {a h0 i : Nat} (k0 : Nat) (v0 : Int) (hv : Int32.ofInt v0 = nI k0) (hi : i + k0 < L) (hL : L ≤ 3072) (d0 : decode cc pc = .ok (.aload_n 0, 1)) (d1 : decode cc (pc + 1) = .ok (.iload_n 3, 1)) (d2 : decode cc (pc + 1 + 1) = .ok (.iconst v0, 1)) (d3 : decode cc (pc + 1 + 1 + 1) = .ok (.iadd, 1)) (d4 : decode cc (pc + 1 + 1 + 1 + 1) = .ok (.iaload, 1)) (k : GW κ n1 n2 w (pc + 1 + 1 + 1 + 1 + 1) (lvL bS a h0 i) (.int (xs (i + k0)) :: st)) : GW κ n1 n2 w pc (lvL bS a h0 i) st := by
  refine g_aload_n hX 3 rfl rfl d0 ?_
  refine g_iload_n hX 0 rfl rfl d1 ?_
  refine g_iconst hX (v := nI k0) hv d2 ?_
  refine g_iaddN hX d3 ?_
  exact g_sld hX hS hi hL d4 k
theorem l_callM (hX : GX κ cy Z cc (w0 :: zT) own rm) (hzo : zOK Z) {h0 : Nat} {a q : Nat → Nat} {C : (Nat → Int32) → (Nat → Int32) → (Nat → Nat → Int32) → (Nat → Nat → Int32) → va_W} {v s : Nat → Int32} {r x : Nat → Nat → Int32} (hC : mLens (cy 0) h0 a q C) {y : MethodName} {cb : ByteArray} {nl : Nat} {rt : Option FieldType} {rm2 : Room} {index : Nat} {Po : Option Value → va_W → Prop} (As rest : List Value) (hM : GM (Kl κ) (KD κ) cy Z y (zW y cb nl rt) rm2 (.ref h0 :: As) (C v s r x) Po 0 0) (hk : mKV RX7 y cb nl rt As.length) (h1 : Cond.methodLink own index y ∈ lw_tbl) (hrc : rm2.cells = 0) (hrs : rm2.slots = 0) (hR1 : rm2.frames + 1 ≤ rm.frames) (hR2 : 8 + (nl + 11) + rm2.locals ≤ rm.locals) (hf : n1 + 0 ≤ rm.cells ∧ n2 + 0 ≤ rm.slots) {st0 : List Value} (hst : st0 = As.reverse ++ .ref h0 :: rest) (hrest : (rest.map fun v => v.category).sum ≤ 8) (d : decode cc pc = .ok (.invokevirtual index, 3)) (k : ∀ (res : Option Value) (w2 : va_W), Po res w2 → GW κ n1 n2 w2 (pc + 3) lv (res.toList ++ rest)) : GW κ n1 n2 (C v s r x) pc lv st0 :=
  g_callV hX hzo As rest 7 (q 33) (qc := (RX7, TX7, 33)) rfl rfl (hC.1 v s r x) hM (z_V h1 hk.1 hk.2.1 hk.2.2.1 hk.2.2.2.1) rfl hrc hrs hk.2.2.2.2 hR1 hR2 hst hrest hf d k
end LW
/-- the fixed things of the law's walk -/
def LawX (κ : GC) (cy : Nat → ClassId) (Z : (Nat → Prop) → State → Heap → Prop) (aStr aByt : Nat → Nat) (bS L : Nat) (xs : Nat → Int32) : Prop := GX κ cy Z cL_law (Cond.initialized RX6 :: zT) RL room_1 ∧ GN κ 4 ∧ GScr κ bS L xs ∧ zOK Z ∧ zSt Z aStr aByt ∧ L ≤ 3072
