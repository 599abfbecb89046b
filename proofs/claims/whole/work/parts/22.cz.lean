def lenS : List Nat := [4, 3, 4, 3, 2, 2]
def bytS : List (List Int32) := [[112, 117, 115, 104], [102, 101, 101], [102, 105, 110, 101], [119, 108, 99], [114, 100], [99, 112]]
def idxS : Nat → Nat := fun i => [66, 68, 70, 123, 125, 127].getD i 0
def txS : Nat → String := fun i => ["push", "fee", "fine", "wlc", "rd", "cp"].getD i ""
def tabOf (l : List Int32) : Nat → Int32 := fun k => l.getD k 0
def tabLEAST : Nat → Int32 := tabOf [0, 1, -50, 0, 0, 0]
def tabMOST : Nat → Int32 := tabOf [5, 99, 50, 99, 999, 9]
def tabABOVE : Nat → Int32 := tabOf [-1, 0, 0, 1, 2, 0]
/-- a static row of numbers, seen from a body -/
def zTab (κ : GC) (n : String) (t N : Nat) (f : Nat → Int32) : Prop := match κ with
  | (p, l, e, R, s, m, args, below, meth, c, Q, A, D, cy, nL, Z) => va_Z "LeaningStreet" n "[I" (.ref t) A s s.heap ∧ va_T .int t N (fun j => .int (f j)) A s s.heap
def zT1 (n : String) (N : Nat) (f : Nat → Int32) (A : Nat → Prop) (U : State) (H : Heap) : Prop := ∃ t, va_Z "LeaningStreet" n "[I" (.ref t) A U H ∧ va_T .int t N (fun j => .int (f j)) A U H
/-- the texts of the reader's constants, and String's own static -/
def zStr (aK aV : Nat → Nat) (A : Nat → Prop) (U : State) (H : Heap) : Prop := vk_S 6 lenS bytS aK aV A U H ∧ (∀ i, i < 6 → vk_R RX1 (idxS i) (txS i) (aK i) U) ∧ va_Z "java/lang/String" "COMPACT_STRINGS" "Z" (.int 1) A U H ∧ va_Zq "jdk/internal/util/Preconditions" "SIOOBE_FORMATTER" "Ljava/util/function/BiFunction;" A U H
/-- private makers of nest mates -/
def zMk (U : State) : Prop := va_Nw (.methodLinkNest RX4 55 yX0_init "LeaningStreet") U ∧ va_Nw (.methodLinkNest RX6 24 yX1_init "LeaningStreet") U ∧ va_Nw (.methodLinkNest RX6 53 yX2_init "LeaningStreet") U ∧ va_Nw (.methodLinkNest RX6 54 yX3_init "LeaningStreet") U ∧ va_Nw (.methodLinkNest RX3 20 yX0_init "LeaningStreet") U ∧ va_Nw (.methodLinkNest RX3 27 yX2_init "LeaningStreet") U ∧ va_AO RX0 U ∧ va_AO RX5 U ∧ va_AO RX2 U ∧ va_AO RX3 U ∧ va_Nw (.castable "[I" "java/lang/Cloneable") U
/-- what the statics hold -/
def zSt (Z : (Nat → Prop) → State → Heap → Prop) (aStr aByt : Nat → Nat) : Prop := ∀ A U H, Z A U H → zT1 "LEAST" 6 tabLEAST A U H ∧ zT1 "MOST" 6 tabMOST A U H ∧ zT1 "ABOVE" 6 tabABOVE A U H ∧ va_Nw (.fieldLinkNest RX0 34 "LeaningStreet" "ABOVE" "[I" "LeaningStreet") U ∧ va_Nw (.fieldLinkNest RX4 100 "LeaningStreet" "MOST" "[I" "LeaningStreet") U ∧ va_Nw (.fieldLinkNest RX4 97 "LeaningStreet" "LEAST" "[I" "LeaningStreet") U ∧ zStr aStr aByt A U H ∧ zMk U
theorem va_rfc (o : Option Nat) : (va_rf o).category = 1 := by cases o <;> rfl
section ZZ
variable {κ : GC} {cy : Nat → ClassId} {Z : (Nat → Prop) → State → Heap → Prop} {cc : ByteArray} {Ts : List Cond} {own : String} {rm : Room} {n1 n2 : Nat} {w : va_W} {pc : Nat} {lv : List (Nat × Value)} {st : List Value}
theorem zt_LEAST (hX : GX κ cy Z cc Ts own rm) {aStr aByt : Nat → Nat} (hzs : zSt Z aStr aByt) : ∃ t, zTab κ "LEAST" t 6 tabLEAST := by
  obtain ⟨p, l, e, R, s, m, args, below, meth, c, Q, A, D, cy', nL, Z'⟩ := κ
  obtain ⟨hx, hb, hts, hown, hK, hml, hA, hlk, hR, hcy, hZe, hZ⟩ := hX
  subst hZe
  exact (hzs A s s.heap hZ).1
theorem zt_MOST (hX : GX κ cy Z cc Ts own rm) {aStr aByt : Nat → Nat} (hzs : zSt Z aStr aByt) : ∃ t, zTab κ "MOST" t 6 tabMOST := by
  obtain ⟨p, l, e, R, s, m, args, below, meth, c, Q, A, D, cy', nL, Z'⟩ := κ
  obtain ⟨hx, hb, hts, hown, hK, hml, hA, hlk, hR, hcy, hZe, hZ⟩ := hX
  subst hZe
  exact (hzs A s s.heap hZ).2.1
theorem zt_ABOVE (hX : GX κ cy Z cc Ts own rm) {aStr aByt : Nat → Nat} (hzs : zSt Z aStr aByt) : ∃ t, zTab κ "ABOVE" t 6 tabABOVE := by
  obtain ⟨p, l, e, R, s, m, args, below, meth, c, Q, A, D, cy', nL, Z'⟩ := κ
  obtain ⟨hx, hb, hts, hown, hK, hml, hA, hlk, hR, hcy, hZe, hZ⟩ := hX
  subst hZe
  exact (hzs A s s.heap hZ).2.2.1
def zNw (κ : GC) (w : Cond) : Prop := match κ with
  | (p, l, e, R, s, m, args, below, meth, c, Q, A, D, cy, nL, Z) => va_Nw w s
def zAO (κ : GC) (C : String) : Prop := match κ with
  | (p, l, e, R, s, m, args, below, meth, c, Q, A, D, cy, nL, Z) => va_AO C s
theorem zn_X0_34 (hX : GX κ cy Z cc Ts own rm) {aStr aByt : Nat → Nat} (hzs : zSt Z aStr aByt) : zNw κ (.fieldLinkNest RX0 34 "LeaningStreet" "ABOVE" "[I" "LeaningStreet") := by
  obtain ⟨p, l, e, R, s, m, args, below, meth, c, Q, A, D, cy', nL, Z'⟩ := κ
  obtain ⟨hx, hb, hts, hown, hK, hml, hA, hlk, hR, hcy, hZe, hZ⟩ := hX
  subst hZe
  exact (hzs A s s.heap hZ).2.2.2.1
theorem zn_X4_100 (hX : GX κ cy Z cc Ts own rm) {aStr aByt : Nat → Nat} (hzs : zSt Z aStr aByt) : zNw κ (.fieldLinkNest RX4 100 "LeaningStreet" "MOST" "[I" "LeaningStreet") := by
  obtain ⟨p, l, e, R, s, m, args, below, meth, c, Q, A, D, cy', nL, Z'⟩ := κ
  obtain ⟨hx, hb, hts, hown, hK, hml, hA, hlk, hR, hcy, hZe, hZ⟩ := hX
  subst hZe
  exact (hzs A s s.heap hZ).2.2.2.2.1
theorem zn_X4_97 (hX : GX κ cy Z cc Ts own rm) {aStr aByt : Nat → Nat} (hzs : zSt Z aStr aByt) : zNw κ (.fieldLinkNest RX4 97 "LeaningStreet" "LEAST" "[I" "LeaningStreet") := by
  obtain ⟨p, l, e, R, s, m, args, below, meth, c, Q, A, D, cy', nL, Z'⟩ := κ
  obtain ⟨hx, hb, hts, hown, hK, hml, hA, hlk, hR, hcy, hZe, hZ⟩ := hX
  subst hZe
  exact (hzs A s s.heap hZ).2.2.2.2.2.1
theorem zk_0 (hX : GX κ cy Z cc Ts own rm) {aStr aByt : Nat → Nat} (hzs : zSt Z aStr aByt) : zNw κ (.methodLinkNest RX4 55 yX0_init "LeaningStreet") := by
  obtain ⟨p, l, e, R, s, m, args, below, meth, c, Q, A, D, cy', nL, Z'⟩ := κ
  obtain ⟨hx, hb, hts, hown, hK, hml, hA, hlk, hR, hcy, hZe, hZ⟩ := hX
  subst hZe
  exact (hzs A s s.heap hZ).2.2.2.2.2.2.2.1
theorem zk_1 (hX : GX κ cy Z cc Ts own rm) {aStr aByt : Nat → Nat} (hzs : zSt Z aStr aByt) : zNw κ (.methodLinkNest RX6 24 yX1_init "LeaningStreet") := by
  obtain ⟨p, l, e, R, s, m, args, below, meth, c, Q, A, D, cy', nL, Z'⟩ := κ
  obtain ⟨hx, hb, hts, hown, hK, hml, hA, hlk, hR, hcy, hZe, hZ⟩ := hX
  subst hZe
  exact (hzs A s s.heap hZ).2.2.2.2.2.2.2.2.1
theorem zk_2 (hX : GX κ cy Z cc Ts own rm) {aStr aByt : Nat → Nat} (hzs : zSt Z aStr aByt) : zNw κ (.methodLinkNest RX6 53 yX2_init "LeaningStreet") := by
  obtain ⟨p, l, e, R, s, m, args, below, meth, c, Q, A, D, cy', nL, Z'⟩ := κ
  obtain ⟨hx, hb, hts, hown, hK, hml, hA, hlk, hR, hcy, hZe, hZ⟩ := hX
  subst hZe
  exact (hzs A s s.heap hZ).2.2.2.2.2.2.2.2.2.1
theorem zk_3 (hX : GX κ cy Z cc Ts own rm) {aStr aByt : Nat → Nat} (hzs : zSt Z aStr aByt) : zNw κ (.methodLinkNest RX6 54 yX3_init "LeaningStreet") := by
  obtain ⟨p, l, e, R, s, m, args, below, meth, c, Q, A, D, cy', nL, Z'⟩ := κ
  obtain ⟨hx, hb, hts, hown, hK, hml, hA, hlk, hR, hcy, hZe, hZ⟩ := hX
  subst hZe
  exact (hzs A s s.heap hZ).2.2.2.2.2.2.2.2.2.2.1
theorem zk_4 (hX : GX κ cy Z cc Ts own rm) {aStr aByt : Nat → Nat} (hzs : zSt Z aStr aByt) : zNw κ (.methodLinkNest RX3 20 yX0_init "LeaningStreet") := by
  obtain ⟨p, l, e, R, s, m, args, below, meth, c, Q, A, D, cy', nL, Z'⟩ := κ
  obtain ⟨hx, hb, hts, hown, hK, hml, hA, hlk, hR, hcy, hZe, hZ⟩ := hX
  subst hZe
  exact (hzs A s s.heap hZ).2.2.2.2.2.2.2.2.2.2.2.1
theorem zk_5 (hX : GX κ cy Z cc Ts own rm) {aStr aByt : Nat → Nat} (hzs : zSt Z aStr aByt) : zNw κ (.methodLinkNest RX3 27 yX2_init "LeaningStreet") := by
  obtain ⟨p, l, e, R, s, m, args, below, meth, c, Q, A, D, cy', nL, Z'⟩ := κ
  obtain ⟨hx, hb, hts, hown, hK, hml, hA, hlk, hR, hcy, hZe, hZ⟩ := hX
  subst hZe
  exact (hzs A s s.heap hZ).2.2.2.2.2.2.2.2.2.2.2.2.1
theorem zk_6 (hX : GX κ cy Z cc Ts own rm) {aStr aByt : Nat → Nat} (hzs : zSt Z aStr aByt) : zAO κ RX0 := by
  obtain ⟨p, l, e, R, s, m, args, below, meth, c, Q, A, D, cy', nL, Z'⟩ := κ
  obtain ⟨hx, hb, hts, hown, hK, hml, hA, hlk, hR, hcy, hZe, hZ⟩ := hX
  subst hZe
  exact (hzs A s s.heap hZ).2.2.2.2.2.2.2.2.2.2.2.2.2.1
theorem zk_7 (hX : GX κ cy Z cc Ts own rm) {aStr aByt : Nat → Nat} (hzs : zSt Z aStr aByt) : zAO κ RX5 := by
  obtain ⟨p, l, e, R, s, m, args, below, meth, c, Q, A, D, cy', nL, Z'⟩ := κ
  obtain ⟨hx, hb, hts, hown, hK, hml, hA, hlk, hR, hcy, hZe, hZ⟩ := hX
  subst hZe
  exact (hzs A s s.heap hZ).2.2.2.2.2.2.2.2.2.2.2.2.2.2.1
theorem zk_8 (hX : GX κ cy Z cc Ts own rm) {aStr aByt : Nat → Nat} (hzs : zSt Z aStr aByt) : zAO κ RX2 := by
  obtain ⟨p, l, e, R, s, m, args, below, meth, c, Q, A, D, cy', nL, Z'⟩ := κ
  obtain ⟨hx, hb, hts, hown, hK, hml, hA, hlk, hR, hcy, hZe, hZ⟩ := hX
  subst hZe
  exact (hzs A s s.heap hZ).2.2.2.2.2.2.2.2.2.2.2.2.2.2.2.1
theorem zk_9 (hX : GX κ cy Z cc Ts own rm) {aStr aByt : Nat → Nat} (hzs : zSt Z aStr aByt) : zAO κ RX3 := by
  obtain ⟨p, l, e, R, s, m, args, below, meth, c, Q, A, D, cy', nL, Z'⟩ := κ
  obtain ⟨hx, hb, hts, hown, hK, hml, hA, hlk, hR, hcy, hZe, hZ⟩ := hX
  subst hZe
  exact (hzs A s s.heap hZ).2.2.2.2.2.2.2.2.2.2.2.2.2.2.2.2.1
theorem zk_10 (hX : GX κ cy Z cc Ts own rm) {aStr aByt : Nat → Nat} (hzs : zSt Z aStr aByt) : zNw κ (.castable "[I" "java/lang/Cloneable") := by
  obtain ⟨p, l, e, R, s, m, args, below, meth, c, Q, A, D, cy', nL, Z'⟩ := κ
  obtain ⟨hx, hb, hts, hown, hK, hml, hA, hlk, hR, hcy, hZe, hZ⟩ := hX
  subst hZe
  exact (hzs A s s.heap hZ).2.2.2.2.2.2.2.2.2.2.2.2.2.2.2.2.2
theorem g_tabN (hX : GX κ cy Z cc Ts own rm) {n : String} {t N index : Nat} {f : Nat → Int32} (ht : zTab κ n t N f) (hl : zNw κ (.fieldLinkNest own index "LeaningStreet" n "[I" "LeaningStreet")) (d : decode cc pc = .ok (.getstatic index, 3)) (k : GW κ n1 n2 w (pc + 3) lv (.ref t :: st)) : GW κ n1 n2 w pc lv st := by
  obtain ⟨p, l, e, R, s, m, args, below, meth, c, Q, A, D, cy', nL, Z'⟩ := κ
  obtain ⟨hx, hb, hts, hown, hK, hml, hA, hlk, hR, hcy, hZe, hZ⟩ := hX
  intro H locs ls hP hD hS hl'
  exact va_getsN hx hb ht.1 hS hown (va_Nw.use rfl hl) (fun _ h => h) d (k H locs ls hP hD hS hl')
theorem g_tab (hX : GX κ cy Z cc Ts own rm) {n : String} {t N index : Nat} {f : Nat → Int32} (ht : zTab κ n t N f) (hl : Cond.fieldLink own index "LeaningStreet" n "[I" ∈ Ts) (d : decode cc pc = .ok (.getstatic index, 3)) (k : GW κ n1 n2 w (pc + 3) lv (.ref t :: st)) : GW κ n1 n2 w pc lv st := by
  obtain ⟨p, l, e, R, s, m, args, below, meth, c, Q, A, D, cy', nL, Z'⟩ := κ
  obtain ⟨hx, hb, hts, hown, hK, hml, hA, hlk, hR, hcy, hZe, hZ⟩ := hX
  intro H locs ls hP hD hS hl'
  exact va_gets hx hb ht.1 hS hown (hts _ hl) (fun _ h => h) d (k H locs ls hP hD hS hl')
theorem g_tabi (hX : GX κ cy Z cc Ts own rm) {n : String} {t N : Nat} {f : Nat → Int32} (ht : zTab κ n t N f) {i : Int32} (hi : ¬ (i < 0 ∨ N ≤ i.toNatClampNeg)) (d : decode cc pc = .ok (.iaload, 1)) (k : GW κ n1 n2 w (pc + 1) lv (.int (f i.toNatClampNeg) :: st)) : GW κ n1 n2 w pc lv (.int i :: .ref t :: st) := by
  obtain ⟨p, l, e, R, s, m, args, below, meth, c, Q, A, D, cy', nL, Z'⟩ := κ
  obtain ⟨hx, hb, hts, hown, hK, hml, hA, hlk, hR, hcy, hZe, hZ⟩ := hX
  intro H locs ls hP hD hS hl'
  exact va_ti hx hb ht.2 hS hi rfl d (k H locs ls hP hD hS hl')
theorem g_ifnull (hX : GX κ cy Z cc Ts own rm) {x : Nat} {off : Int} (d : decode cc pc = .ok (.ifnull off, 3)) (k : GW κ n1 n2 w (pc + 3) lv st) : GW κ n1 n2 w pc lv (.ref x :: st) := by
  obtain ⟨p, l, e, R, s, m, args, below, meth, c, Q, A, D, cy', nL, Z'⟩ := κ
  obtain ⟨hx, hb, hts, hown, hK, hml, hA, hlk, hR, hcy, hZe, hZ⟩ := hX
  intro H locs ls hP hD hS hl
  exact lv_ifnull hx hb d (k H locs ls hP hD hS hl)
theorem g_ifnullN (hX : GX κ cy Z cc Ts own rm) {off : Int} (tgt : Nat) (ht : (pc : Int) + off = (tgt : Int)) (d : decode cc pc = .ok (.ifnull off, 3)) (k : GW κ n1 n2 w tgt lv st) : GW κ n1 n2 w pc lv (.null :: st) := by
  obtain ⟨p, l, e, R, s, m, args, below, meth, c, Q, A, D, cy', nL, Z'⟩ := κ
  obtain ⟨hx, hb, hts, hown, hK, hml, hA, hlk, hR, hcy, hZe, hZ⟩ := hX
  intro H locs ls hP hD hS hl
  exact lv_ifnullN hx hb d ht (k H locs ls hP hD hS hl)
theorem g_aload_nQ (hX : GX κ cy Z cc Ts own rm) (i : Nat) {q0 : Fin 4} {j : Nat} {o : Option Nat} (hl0 : lv[i]? = some (j, va_rf o)) (hq : (q0 : Nat) = j) (d : decode cc pc = .ok (.aload_n q0, 1)) (k : GW κ n1 n2 w (pc + 1) lv (va_rf o :: st)) : GW κ n1 n2 w pc lv st := by
  cases o with
  | none => exact g_aload_nN hX i hl0 hq d k
  | some a => exact g_aload_n hX i hl0 hq d k
theorem g_aloadQ (hX : GX κ cy Z cc Ts own rm) (i : Nat) {j : Nat} {o : Option Nat} (hl0 : lv[i]? = some (j, va_rf o)) (d : decode cc pc = .ok (.aload j, 2)) (k : GW κ n1 n2 w (pc + 2) lv (va_rf o :: st)) : GW κ n1 n2 w pc lv st := by
  cases o with
  | none => exact g_aloadN hX i hl0 d k
  | some a => exact g_aload hX i hl0 d k
theorem g_astore_nQ (hX : GX κ cy Z cc Ts own rm) {q0 : Fin 4} {o : Option Nat} {lv2 : List (Nat × Value)} (j nL : Nat) (hn : GN κ nL) (hq : (q0 : Nat) = j) (hj : j < nL) (h2 : (j, va_rf o) :: lv.filter (fun q => !(q.1 == j) && !(q.1 + 1 == j && q.2.category == 2)) = lv2) (d : decode cc pc = .ok (.astore_n q0, 1)) (k : GW κ n1 n2 w (pc + 1) lv2 st) : GW κ n1 n2 w pc lv (va_rf o :: st) := by
  cases o with
  | some a => exact g_astore_n hX j nL hn hq hj h2 d k
  | none =>
    obtain ⟨p, l, e, R, s, m, args, below, meth, c, Q, A, D, cy', nL', Z'⟩ := κ
    obtain ⟨hx, hb, hts, hown, hK, hml, hA, hlk, hR, hcy, hZe, hZ⟩ := hX
    intro H locs ls hP hD hS hl
    have hn : nL' = nL := hn
    subst hn
    exact lv_astore_nN (lv' := lv2) hx hb d hq hl hj h2 (fun ls2 hl2 => k H locs ls2 hP hD hS hl2)
theorem g_astoreQ (hX : GX κ cy Z cc Ts own rm) {o : Option Nat} {lv2 : List (Nat × Value)} (j nL : Nat) (hn : GN κ nL) (hj : j < nL) (h2 : (j, va_rf o) :: lv.filter (fun q => !(q.1 == j) && !(q.1 + 1 == j && q.2.category == 2)) = lv2) (d : decode cc pc = .ok (.astore j, 2)) (k : GW κ n1 n2 w (pc + 2) lv2 st) : GW κ n1 n2 w pc lv (va_rf o :: st) := by
  cases o with
  | some a => exact g_astore hX j nL hn hj h2 d k
  | none =>
    obtain ⟨p, l, e, R, s, m, args, below, meth, c, Q, A, D, cy', nL', Z'⟩ := κ
    obtain ⟨hx, hb, hts, hown, hK, hml, hA, hlk, hR, hcy, hZe, hZ⟩ := hX
    intro H locs ls hP hD hS hl
    have hn : nL' = nL := hn
    subst hn
    exact lv_astoreN (lv' := lv2) hx hb d hl hj h2 (fun ls2 hl2 => k H locs ls2 hP hD hS hl2)
def mnI (x y : Int32) : Int32 := if y < x then y else x
def mxI (x y : Int32) : Int32 := if x < y then y else x
def abI (x : Int32) : Int32 := if 0 ≤ x then x else 0 - x
theorem g_mmin {w0 : Cond} (hX : GX κ cy Z cc (w0 :: zT) own rm) {index : Nat} {x y : Int32} (hl : Cond.methodLink own index yJ9_min_7cf53 ∈ lw_tbl) (hf : 1 ≤ rm.frames) (hlo : 21 ≤ rm.locals) (hr : (st.map fun v => v.category).sum ≤ 8) (hc : n1 ≤ rm.cells) (hs : n2 ≤ rm.slots) (d : decode cc pc = .ok (.invokestatic index, 3)) (k : GW κ n1 n2 w (pc + 3) lv (.int (mnI x y) :: st)) : GW κ n1 n2 w pc lv (.int y :: .int x :: st) := by
  obtain ⟨p, l, e, R, s, m, args, below, meth, c, Q, A, D, cy', nL, Z'⟩ := κ
  obtain ⟨hx, hb, hts, hown, hK, hml, hA, hlk, hR, hcy, hZe, hZ⟩ := hX
  subst hR
  intro H locs ls hP hD hS hl'
  exact va_mmin hx hb (hml.trans hl'.1.symm) hown (hts _ (zu hl rfl)) (hts _ (zu tSta_J9_min_7cf53 rfl)) (hts _ (zu tIni_J9 rfl)) (hts _ (zu tCod_J9_min_7cf53 rfl)) hf (by omega) hc hs d (k H locs ls hP hD hS hl')
theorem g_mmax {w0 : Cond} (hX : GX κ cy Z cc (w0 :: zT) own rm) {index : Nat} {x y : Int32} (hl : Cond.methodLink own index yJ9_max_7cf53 ∈ lw_tbl) (hf : 1 ≤ rm.frames) (hlo : 21 ≤ rm.locals) (hr : (st.map fun v => v.category).sum ≤ 8) (hc : n1 ≤ rm.cells) (hs : n2 ≤ rm.slots) (d : decode cc pc = .ok (.invokestatic index, 3)) (k : GW κ n1 n2 w (pc + 3) lv (.int (mxI x y) :: st)) : GW κ n1 n2 w pc lv (.int y :: .int x :: st) := by
  obtain ⟨p, l, e, R, s, m, args, below, meth, c, Q, A, D, cy', nL, Z'⟩ := κ
  obtain ⟨hx, hb, hts, hown, hK, hml, hA, hlk, hR, hcy, hZe, hZ⟩ := hX
  subst hR
  intro H locs ls hP hD hS hl'
  exact va_mmax hx hb (hml.trans hl'.1.symm) hown (hts _ (zu hl rfl)) (hts _ (zu tSta_J9_max_7cf53 rfl)) (hts _ (zu tIni_J9 rfl)) (hts _ (zu tCod_J9_max_7cf53 rfl)) hf (by omega) hc hs d (k H locs ls hP hD hS hl')
theorem g_mabs {w0 : Cond} (hX : GX κ cy Z cc (w0 :: zT) own rm) {index : Nat} {x : Int32} (hl : Cond.methodLink own index yJ9_abs_0f7a4 ∈ lw_tbl) (hf : 1 ≤ rm.frames) (hlo : 21 ≤ rm.locals) (hr : (st.map fun v => v.category).sum ≤ 8) (hc : n1 ≤ rm.cells) (hs : n2 ≤ rm.slots) (d : decode cc pc = .ok (.invokestatic index, 3)) (k : GW κ n1 n2 w (pc + 3) lv (.int (abI x) :: st)) : GW κ n1 n2 w pc lv (.int x :: st) := by
  obtain ⟨p, l, e, R, s, m, args, below, meth, c, Q, A, D, cy', nL, Z'⟩ := κ
  obtain ⟨hx, hb, hts, hown, hK, hml, hA, hlk, hR, hcy, hZe, hZ⟩ := hX
  subst hR
  intro H locs ls hP hD hS hl'
  exact va_mabs hx hb (hml.trans hl'.1.symm) hown (hts _ (zu hl rfl)) (hts _ (zu tSta_J9_abs_0f7a4 rfl)) (hts _ (zu tIni_J9 rfl)) (hts _ (zu tCod_J9_abs_0f7a4 rfl)) hf (by omega) hc hs d (k H locs ls hP hD hS hl')
/-- the texts, seen from a body -/
def zTx (κ : GC) (aStr aByt : Nat → Nat) : Prop := match κ with
  | (p, l, e, R, s, m, args, below, meth, c, Q, A, D, cy, nL, Z) => zStr aStr aByt A s s.heap
theorem zt_str (hX : GX κ cy Z cc Ts own rm) {aStr aByt : Nat → Nat} (hzs : zSt Z aStr aByt) : zTx κ aStr aByt := by
  obtain ⟨p, l, e, R, s, m, args, below, meth, c, Q, A, D, cy', nL, Z'⟩ := κ
  obtain ⟨hx, hb, hts, hown, hK, hml, hA, hlk, hR, hcy, hZe, hZ⟩ := hX
  subst hZe
  exact (hzs A s s.heap hZ).2.2.2.2.2.2.1
theorem z_recv {aStr aByt : Nat → Nat} (h : zTx κ aStr aByt) {i : Nat} (hi : i < 6) : GRecv κ RJ0 (aStr i) := by
  obtain ⟨p, l, e, R, s, m, args, below, meth, c, Q, A, D, cy', nL, Z'⟩ := κ
  intro H locs hS
  exact vk_recv h.1 hi hS
theorem g_str (hX : GX κ cy Z cc Ts RX1 rm) {aStr aByt : Nat → Nat} (h : zTx κ aStr aByt) (i : Nat) (hi : i < 6) (d : decode cc pc = .ok (.ldc (idxS i), 2)) (k : GW κ n1 n2 w (pc + 2) lv (.ref (aStr i) :: st)) : GW κ n1 n2 w pc lv st := by
  obtain ⟨p, l, e, R, s, m, args, below, meth, c, Q, A, D, cy', nL, Z'⟩ := κ
  obtain ⟨hx, hb, hts, hown, hK, hml, hA, hlk, hR, hcy, hZe, hZ⟩ := hX
  intro H locs ls hP hD hS hl
  exact va_ldcS hx hb hown (h.2.1 i hi) d (k H locs ls hP hD hS hl)
theorem g_sval (hX : GX κ cy Z cc Ts own rm) {aStr aByt : Nat → Nat} (h : zTx κ aStr aByt) {i index : Nat} (hi : i < 6) (hl : Cond.fieldLink own index "java/lang/String" "value" "[B" ∈ Ts) (d : decode cc pc = .ok (.getfield index, 3)) (k : GW κ n1 n2 w (pc + 3) lv (.ref (aByt i) :: st)) : GW κ n1 n2 w pc lv (.ref (aStr i) :: st) := by
  obtain ⟨p, l, e, R, s, m, args, below, meth, c, Q, A, D, cy', nL, Z'⟩ := κ
  obtain ⟨hx, hb, hts, hown, hK, hml, hA, hlk, hR, hcy, hZe, hZ⟩ := hX
  intro H locs ls hP hD hS hl'
  exact vk_getf hx hb (h.1.1 i hi).2.2.1 hS hown (hts _ hl) (fun _ h => h) d (k H locs ls hP hD hS hl')
theorem g_scod (hX : GX κ cy Z cc Ts own rm) {aStr aByt : Nat → Nat} (h : zTx κ aStr aByt) {i index : Nat} (hi : i < 6) (hl : Cond.fieldLink own index "java/lang/String" "coder" "B" ∈ Ts) (d : decode cc pc = .ok (.getfield index, 3)) (k : GW κ n1 n2 w (pc + 3) lv (.int (nI 0) :: st)) : GW κ n1 n2 w pc lv (.ref (aStr i) :: st) := by
  obtain ⟨p, l, e, R, s, m, args, below, meth, c, Q, A, D, cy', nL, Z'⟩ := κ
  obtain ⟨hx, hb, hts, hown, hK, hml, hA, hlk, hR, hcy, hZe, hZ⟩ := hX
  intro H locs ls hP hD hS hl'
  exact vk_getf hx hb (h.1.1 i hi).2.1 hS hown (hts _ hl) (fun _ h => h) d (k H locs ls hP hD hS hl')
theorem g_slen (hX : GX κ cy Z cc Ts own rm) {aStr aByt : Nat → Nat} (h : zTx κ aStr aByt) {i : Nat} (hi : i < 6) (d : decode cc pc = .ok (.arraylength, 1)) (k : GW κ n1 n2 w (pc + 1) lv (.int (nI (lenS.getD i 0)) :: st)) : GW κ n1 n2 w pc lv (.ref (aByt i) :: st) := by
  obtain ⟨p, l, e, R, s, m, args, below, meth, c, Q, A, D, cy', nL, Z'⟩ := κ
  obtain ⟨hx, hb, hts, hown, hK, hml, hA, hlk, hR, hcy, hZe, hZ⟩ := hX
  intro H locs ls hP hD hS hl'
  exact va_tlen hx hb (h.1.1 i hi).2.2.2 hS rfl d (k H locs ls hP hD hS hl')
theorem g_sbal (hX : GX κ cy Z cc Ts own rm) {aStr aByt : Nat → Nat} (h : zTx κ aStr aByt) {i : Nat} (hi : i < 6) {j : Int32} (hj : ¬ (j < 0 ∨ lenS.getD i 0 ≤ j.toNatClampNeg)) (d : decode cc pc = .ok (.baload, 1)) (k : GW κ n1 n2 w (pc + 1) lv (.int ((bytS.getD i []).getD j.toNatClampNeg 0) :: st)) : GW κ n1 n2 w pc lv (.int j :: .ref (aByt i) :: st) := by
  obtain ⟨p, l, e, R, s, m, args, below, meth, c, Q, A, D, cy', nL, Z'⟩ := κ
  obtain ⟨hx, hb, hts, hown, hK, hml, hA, hlk, hR, hcy, hZe, hZ⟩ := hX
  intro H locs ls hP hD hS hl'
  exact va_tb hx hb (h.1.1 i hi).2.2.2 hS hj rfl d (k H locs ls hP hD hS hl')
theorem g_scs (hX : GX κ cy Z cc Ts own rm) {aStr aByt : Nat → Nat} (h : zTx κ aStr aByt) {index : Nat} (hl : Cond.fieldLink own index "java/lang/String" "COMPACT_STRINGS" "Z" ∈ Ts) (d : decode cc pc = .ok (.getstatic index, 3)) (k : GW κ n1 n2 w (pc + 3) lv (.int (nI 1) :: st)) : GW κ n1 n2 w pc lv st := by
  obtain ⟨p, l, e, R, s, m, args, below, meth, c, Q, A, D, cy', nL, Z'⟩ := κ
  obtain ⟨hx, hb, hts, hown, hK, hml, hA, hlk, hR, hcy, hZe, hZ⟩ := hX
  intro H locs ls hP hD hS hl'
  exact va_gets hx hb h.2.2.1 hS hown (hts _ hl) (fun _ h => h) d (k H locs ls hP hD hS hl')
theorem g_sio (hX : GX κ cy Z cc Ts own rm) {aStr aByt : Nat → Nat} (h : zTx κ aStr aByt) {index : Nat} (hl : Cond.fieldLink own index "jdk/internal/util/Preconditions" "SIOOBE_FORMATTER" "Ljava/util/function/BiFunction;" ∈ Ts) (d : decode cc pc = .ok (.getstatic index, 3)) (k : ∀ o : Option Nat, GW κ n1 n2 w (pc + 3) lv (va_rf o :: st)) : GW κ n1 n2 w pc lv st := by
  obtain ⟨p, l, e, R, s, m, args, below, meth, c, Q, A, D, cy', nL, Z'⟩ := κ
  obtain ⟨hx, hb, hts, hown, hK, hml, hA, hlk, hR, hcy, hZe, hZ⟩ := hX
  intro H locs ls hP hD hS hl'
  rcases h.2.2.2 with h | ⟨t, h⟩
  · exact va_gets hx hb h hS hown (hts _ hl) (fun _ h => h) d (k none H locs ls hP hD hS hl')
  · exact va_gets hx hb h hS hown (hts _ hl) (fun _ h => h) d (k (some t) H locs ls hP hD hS hl')
/-- a call on one of the texts -/
theorem s_callT {w0 : Cond} (hX : GX κ cy Z cc (w0 :: zT) own rm) (hzo : zOK Z) {aStr aByt : Nat → Nat} (h : zTx κ aStr aByt) {i : Nat} (hi : i < 6) {y : MethodName} {cb : ByteArray} {nl : Nat} {rt : Option FieldType} {rm2 : Room} {index : Nat} {res : Option Value} (As rest : List Value) (hM : GD (Kl κ) (KD κ) cy Z y (zW y cb nl rt) rm2 (.ref (aStr i) :: As) w res w 0 0) (hk : mKV RJ0 y cb nl rt As.length) (h1 : Cond.methodLink own index y ∈ lw_tbl) (hrc : rm2.cells = 0) (hrs : rm2.slots = 0) (hR1 : rm2.frames + 1 ≤ rm.frames) (hR2 : 8 + (nl + 11) + rm2.locals ≤ rm.locals) (hf : n1 + 0 ≤ rm.cells ∧ n2 + 0 ≤ rm.slots) {st0 st1 : List Value} (hst : st0 = As.reverse ++ .ref (aStr i) :: rest) (hst1 : res.toList ++ rest = st1) (hrest : (rest.map fun v => v.category).sum ≤ 8) (d : decode cc pc = .ok (.invokevirtual index, 3)) (k : GW κ n1 n2 w (pc + 3) lv st1) : GW κ n1 n2 w pc lv st0 := by
  refine g_callVS hX hzo As rest (z_recv h hi) hM (z_V h1 hk.1 hk.2.1 hk.2.2.1 hk.2.2.2.1) rfl hrc hrs hk.2.2.2.2 hR1 hR2 hst hrest hf d ?_
  rintro res' w' ⟨rfl, rfl⟩
  rw [hst1]
  exact k
end ZZ
