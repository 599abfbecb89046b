/-! ===== the machine's fixed things in one tuple; the judgement GW; contracts GM ===== -/
abbrev GC : Type := Program × Launch × Env × Room × State × MethodId × Array Value × List Frame × Method × Code × (State → Prop) × (Nat → Prop) × va_G × (Nat → ClassId) × Nat × ((Nat → Prop) → State → Heap → Prop)
/-- the array classes that worlds name: ints, houses, rows, slots, texts -/
def zTy (c : Nat → ClassId) : List (ClassId × FieldType) := [(c 0, .int), (c 1, .object "LeaningStreet$House"), (c 2, .object "LeaningStreet$Row"), (c 3, .object "LeaningStreet$Slot"), (c 4, .object "LeaningStreet$Text")]
/-- what is carried along beside the world: it may be narrowed, moved, and stays where nobody writes -/
def zOK (Z : (Nat → Prop) → State → Heap → Prop) : Prop := (∀ (A B : Nat → Prop) (U : State) (H : Heap), (∀ q, B q → A q) → Z A U H → Z B U H) ∧ (∀ (A : Nat → Prop) (u U : State) (H : Heap), u.vm = U.vm → Z A u H → Z A U H) ∧ (∀ (A : Nat → Prop) (u U : State) (H : Heap), u.WarmedH U.vm → Z A u H → Z A U H) ∧ (∀ (A : Nat → Prop) (U : State) (H H1 : Heap), (∀ a : Nat, a < H.size → ¬ A a → H1[a]? = H[a]?) → Z A U H → Z A U H1)
def Kl (κ : GC) : Launch := κ.2.1
def KD (κ : GC) : va_G := κ.2.2.2.2.2.2.2.2.2.2.2.2.1
def GN (κ : GC) (n : Nat) : Prop := κ.2.2.2.2.2.2.2.2.2.2.2.2.2.2.1 = n
/-- from here on: with the world w, at pc, locals lv, operands st, n1 cells of n2 slots made so far, it comes to its end -/
def GW (κ : GC) (n1 n2 : Nat) (w : va_W) (pc : Nat) (lv : List (Nat × Value)) (st : List Value) : Prop :=
  match κ with
  | (p, l, e, R, s, m, args, below, meth, c, Q, A, D, cy, nL, Z) => ∀ (H : Heap) (locs : List Loc) (ls : Array Slot), va_P D vwCl w H → va_D A w → va_S A s.heap H locs → lv_has ls nL lv → W p l e R s m args below meth c H locs n1 n2 Q (F0 m pc ls st)
/-- the fixed facts of a body: machine, code, words, own class, the tables, the room -/
def GX (κ : GC) (cy0 : Nat → ClassId) (Z0 : (Nat → Prop) → State → Heap → Prop) (cc : ByteArray) (Ts : List Cond) (own : String) (rm : Room) : Prop :=
  match κ with
  | (p, l, e, R, s, m, args, below, meth, c, Q, A, D, cy, nL, Z) => p.tables.exec = Jvm.exec ∧ c.code = cc ∧ (∀ w ∈ Ts, w.before args s = true) ∧ s.vm.findClass own = some m.cls ∧ va_K D vwCl (zTy cy) s ∧ c.maxLocals = nL ∧ (∀ q, s.heap.size ≤ q → A q) ∧ meth.locks = false ∧ R = rm ∧ cy = cy0 ∧ Z = Z0 ∧ Z A s s.heap
/-- a contract: from the world w the method answers res and leaves the world w2, with Po res w2; mc cells of ms slots are new -/
def GM (l : Launch) (D : va_G) (cy : Nat → ClassId) (Z : (Nat → Prop) → State → Heap → Prop) (y : MethodName) (ws : List Cond) (rm : Room) (av : List Value) (w : va_W) (Po : Option Value → va_W → Prop) (mc ms : Nat) : Prop :=
  ∀ sz : Nat, Met l y ws rm (va_Pc av (fun U => U.heap.size = sz ∧ va_P D vwCl w U.heap ∧ va_K D vwCl (zTy cy) U ∧ va_D (fun _ => True) w ∧ Z (va_A w sz) U U.heap)) (fun _ st oc t => (∃ (res : Option Value) (w2 : va_W), Po res w2 ∧ oc = .returned res ∧ va_P D vwCl w2 t.heap ∧ va_D (va_A w sz) w2) ∧ va_F (va_A w sz) st t) mc ms (va_A w sz)
/-- a contract with one answer and one world -/
def GD (l : Launch) (D : va_G) (cy : Nat → ClassId) (Z : (Nat → Prop) → State → Heap → Prop) (y : MethodName) (ws : List Cond) (rm : Room) (av : List Value) (w : va_W) (res : Option Value) (w2 : va_W) (mc ms : Nat) : Prop := GM l D cy Z y ws rm av w (fun x y => x = res ∧ y = w2) mc ms
/-- the end of a body -/
def GR (κ : GC) (cc : ByteArray) (mc ms : Nat) (ret : Option FieldType) (Po : Option Value → va_W → Prop) : Prop := ∀ (res : Option Value) (w2 : va_W), Po res w2 →
  (∀ (ty : FieldType) (x : Int32) (pc : Nat) (lv : List (Nat × Value)), ret = some ty → res = some (.int x) → narrow ty (.int x) = .int x → decode cc pc = .ok (.ireturn, 1) → GW κ mc ms w2 pc lv [.int x]) ∧
  (∀ (pc : Nat) (lv : List (Nat × Value)), ret = none → res = none → decode cc pc = .ok (.return_, 1) → GW κ mc ms w2 pc lv []) ∧
  (∀ (rt : FieldType) (v : Value) (pc : Nat) (lv : List (Nat × Value)), ret = some rt → ((∃ n, rt = .object n) ∨ ∃ t, rt = .array t) → (v = .null ∨ ∃ a, v = .ref a) → res = some v → decode cc pc = .ok (.areturn, 1) → GW κ mc ms w2 pc lv [v])
set_option maxHeartbeats 4000000 in
theorem g_entry {l : Launch} {D : va_G} {cy : Nat → ClassId} {Z : (Nat → Prop) → State → Heap → Prop} {y : MethodName} {ws ws' : List Cond} {rm : Room} {cc : ByteArray} {maxL : Nat} {ret : Option FieldType} {av : List Value} {w : va_W} {Po : Option Value → va_W → Prop} {mc ms : Nat} (hy : plainName y.cls = true) (hw : ws = Cond.code y cc maxL ret :: ws') (hlen : (lg_sl av).length ≤ maxL)
    (body : ∀ κ : GC, GN κ maxL → GX κ cy Z cc ws y.cls rm → GR κ cc mc ms ret Po → GW κ 0 0 w 0 (lv_args 0 av) []) : GM l D cy Z y ws rm av w Po mc ms := by
  intro sz
  refine Met.ofW (cc := cc) (maxL := maxL) (ret := ret) hy hw ?_
  intro p e s m args below meth c s₁ B hml hv
  obtain ⟨rfl, hsz, hP, hK, hD0, hZ⟩ := hv
  have hx := B.exec
  have hb := B.bytes
  have hr := B.returns
  have hts := atoms_spec (ws := ws) B.pre
  have hown : s.vm.findClass y.cls = some m.cls := findClass_of_methodNamed B.named
  have hlocks := B.notSynchronized
  subst hsz
  have hD := hD0.self (sz := s.heap.size)
  have hl := lv_entry av (n := maxL) hlen
  rw [lg_entry_eq]
  have hS : va_S (va_A w s.heap.size) s.heap s.heap [] := va_S.rf
  refine body (p, l, e, (headSpec ws rm).room, s, m, av.toArray, below, meth, c, (MQ below (fun _ st oc t => (∃ (res : Option Value) (w2 : va_W), Po res w2 ∧ oc = .returned res ∧ va_P D vwCl w2 t.heap ∧ va_D (va_A w s.heap.size) w2) ∧ va_F (va_A w s.heap.size) st t) av.toArray s mc ms (va_A w s.heap.size)), va_A w s.heap.size, D, cy, maxL, Z) rfl ⟨hx, hb, hts, hown, hK, hml, fun q h => Or.inr h, hlocks, rfl, rfl, rfl, hZ⟩ (fun res w2 hPo => ⟨?_, ?_, ?_⟩) s.heap [] _ hP hD hS hl
  · intro ty x pc lv e1 e2 hn hdg H locs ls hP hD hS hl
    exact W.zret hx hb (hr.trans e1) hn (fun t ht hW => ⟨⟨_, w2, hPo, by rw [e2], by rw [ht]; exact hP, hD⟩, hS.F ht⟩) hS.2.2 hdg hlocks
  · intro pc lv e1 e2 hdg H locs ls hP hD hS hl
    exact W.vret hx hb (hr.trans e1) (fun t ht hW => ⟨⟨_, w2, hPo, by rw [e2], by rw [ht]; exact hP, hD⟩, hS.F ht⟩) hS.2.2 hdg hlocks
  · intro rt v pc lv e1 hrt hv e2 hdg H locs ls hP hD hS hl
    exact W.aret hx hb (hr.trans e1) hrt hv (fun t ht hW => ⟨⟨_, w2, hPo, by rw [e2], by rw [ht]; exact hP, hD⟩, hS.F ht⟩) hS.2.2 hdg hlocks

/-- a receiver that lies outside the world -/
def GRecv (κ : GC) (C : String) (b : Nat) : Prop := match κ with
  | (p, l, e, R, s, m, args, below, meth, c, Q, A, D, cy, nL, Z) => ∀ (H : Heap) (locs : List Loc), va_S A s.heap H locs → ∃ cellB : Cell, H[b]? = some cellB ∧ cellB.vm.isStatics = false ∧ s.vm.findClass C = some cellB.cls
section GG
variable {κ : GC} {cy : Nat → ClassId} {Z : (Nat → Prop) → State → Heap → Prop} {cc : ByteArray} {Ts : List Cond} {own : String} {rm : Room} {n1 n2 : Nat} {w : va_W} {pc : Nat} {lv : List (Nat × Value)} {st : List Value}
theorem g_iconst (hX : GX κ cy Z cc Ts own rm) {n : Int} {v : Int32} (hv : Int32.ofInt n = v) (d : decode cc pc = .ok (.iconst n, 1)) (k : GW κ n1 n2 w (pc + 1) lv (.int v :: st)) : GW κ n1 n2 w pc lv (st) := by
  obtain ⟨p, l, e, R, s, m, args, below, meth, c, Q, A, D, cy', nL', Z'⟩ := κ
  obtain ⟨hx, hb, hts, hown, hK, hml, hA, hlk, hR, hcy, hZe, hZ⟩ := hX
  intro H locs ls hP hD hS hl
  exact lv_iconst hx hb d hv (k H locs ls hP hD hS hl)
theorem g_bipush (hX : GX κ cy Z cc Ts own rm) {n : Int} {v : Int32} (hv : (Int8.ofInt n).toInt32 = v) (d : decode cc pc = .ok (.bipush n, 2)) (k : GW κ n1 n2 w (pc + 2) lv (.int v :: st)) : GW κ n1 n2 w pc lv (st) := by
  obtain ⟨p, l, e, R, s, m, args, below, meth, c, Q, A, D, cy', nL', Z'⟩ := κ
  obtain ⟨hx, hb, hts, hown, hK, hml, hA, hlk, hR, hcy, hZe, hZ⟩ := hX
  intro H locs ls hP hD hS hl
  exact lv_bipush hx hb d hv (k H locs ls hP hD hS hl)
theorem g_sipush (hX : GX κ cy Z cc Ts own rm) {n : Int} {v : Int32} (hv : (Int16.ofInt n).toInt32 = v) (d : decode cc pc = .ok (.sipush n, 3)) (k : GW κ n1 n2 w (pc + 3) lv (.int v :: st)) : GW κ n1 n2 w pc lv (st) := by
  obtain ⟨p, l, e, R, s, m, args, below, meth, c, Q, A, D, cy', nL', Z'⟩ := κ
  obtain ⟨hx, hb, hts, hown, hK, hml, hA, hlk, hR, hcy, hZe, hZ⟩ := hX
  intro H locs ls hP hD hS hl
  exact lv_sipush hx hb d hv (k H locs ls hP hD hS hl)
theorem g_lconst (hX : GX κ cy Z cc Ts own rm) {n : Fin 2} {v : Int64} (hv : Int64.ofNat (n : Nat) = v) (d : decode cc pc = .ok (.lconst n, 1)) (k : GW κ n1 n2 w (pc + 1) lv (.long v :: st)) : GW κ n1 n2 w pc lv (st) := by
  obtain ⟨p, l, e, R, s, m, args, below, meth, c, Q, A, D, cy', nL', Z'⟩ := κ
  obtain ⟨hx, hb, hts, hown, hK, hml, hA, hlk, hR, hcy, hZe, hZ⟩ := hX
  intro H locs ls hP hD hS hl
  exact lv_lconst hx hb d hv (k H locs ls hP hD hS hl)
theorem g_ldc (hX : GX κ cy Z cc Ts own rm) {index : Nat} {v : Int32} (hm : Cond.constant own index v ∈ Ts) (d : decode cc pc = .ok (.ldc index, 2)) (k : GW κ n1 n2 w (pc + 2) lv (.int v :: st)) : GW κ n1 n2 w pc lv (st) := by
  obtain ⟨p, l, e, R, s, m, args, below, meth, c, Q, A, D, cy', nL', Z'⟩ := κ
  obtain ⟨hx, hb, hts, hown, hK, hml, hA, hlk, hR, hcy, hZe, hZ⟩ := hX
  intro H locs ls hP hD hS hl
  exact lv_ldc hx hb hown (hts _ hm) d (k H locs ls hP hD hS hl)
theorem g_ldcw (hX : GX κ cy Z cc Ts own rm) {index : Nat} {v : Int32} (hm : Cond.constant own index v ∈ Ts) (d : decode cc pc = .ok (.ldc_w index, 3)) (k : GW κ n1 n2 w (pc + 3) lv (.int v :: st)) : GW κ n1 n2 w pc lv (st) := by
  obtain ⟨p, l, e, R, s, m, args, below, meth, c, Q, A, D, cy', nL', Z'⟩ := κ
  obtain ⟨hx, hb, hts, hown, hK, hml, hA, hlk, hR, hcy, hZe, hZ⟩ := hX
  intro H locs ls hP hD hS hl
  exact lv_ldcw hx hb hown (hts _ hm) d (k H locs ls hP hD hS hl)
theorem g_ldc2 (hX : GX κ cy Z cc Ts own rm) {index : Nat} {v : Int64} (hm : Cond.constantLong own index v ∈ Ts) (d : decode cc pc = .ok (.ldc2_w index, 3)) (k : GW κ n1 n2 w (pc + 3) lv (.long v :: st)) : GW κ n1 n2 w pc lv (st) := by
  obtain ⟨p, l, e, R, s, m, args, below, meth, c, Q, A, D, cy', nL', Z'⟩ := κ
  obtain ⟨hx, hb, hts, hown, hK, hml, hA, hlk, hR, hcy, hZe, hZ⟩ := hX
  intro H locs ls hP hD hS hl
  exact lv_ldc2 hx hb hown (hts _ hm) d (k H locs ls hP hD hS hl)
theorem g_iload_n (hX : GX κ cy Z cc Ts own rm) (i : Nat) {q : Fin 4} {j : Nat} {x : Int32} (hl0 : lv[i]? = some (j, .int x)) (hq : (q : Nat) = j) (d : decode cc pc = .ok (.iload_n q, 1)) (k : GW κ n1 n2 w (pc + 1) lv (.int x :: st)) : GW κ n1 n2 w pc lv (st) := by
  obtain ⟨p, l, e, R, s, m, args, below, meth, c, Q, A, D, cy', nL', Z'⟩ := κ
  obtain ⟨hx, hb, hts, hown, hK, hml, hA, hlk, hR, hcy, hZe, hZ⟩ := hX
  intro H locs ls hP hD hS hl
  exact lv_iload_n hx hb d hq (lv_at hl i hl0) (k H locs ls hP hD hS hl)
theorem g_iload (hX : GX κ cy Z cc Ts own rm) (i : Nat) {j : Nat} {x : Int32} (hl0 : lv[i]? = some (j, .int x)) (d : decode cc pc = .ok (.iload j, 2)) (k : GW κ n1 n2 w (pc + 2) lv (.int x :: st)) : GW κ n1 n2 w pc lv (st) := by
  obtain ⟨p, l, e, R, s, m, args, below, meth, c, Q, A, D, cy', nL', Z'⟩ := κ
  obtain ⟨hx, hb, hts, hown, hK, hml, hA, hlk, hR, hcy, hZe, hZ⟩ := hX
  intro H locs ls hP hD hS hl
  exact lv_iload hx hb d (lv_at hl i hl0) (k H locs ls hP hD hS hl)
theorem g_lload_n (hX : GX κ cy Z cc Ts own rm) (i : Nat) {q : Fin 4} {j : Nat} {x : Int64} (hl0 : lv[i]? = some (j, .long x)) (hq : (q : Nat) = j) (d : decode cc pc = .ok (.lload_n q, 1)) (k : GW κ n1 n2 w (pc + 1) lv (.long x :: st)) : GW κ n1 n2 w pc lv (st) := by
  obtain ⟨p, l, e, R, s, m, args, below, meth, c, Q, A, D, cy', nL', Z'⟩ := κ
  obtain ⟨hx, hb, hts, hown, hK, hml, hA, hlk, hR, hcy, hZe, hZ⟩ := hX
  intro H locs ls hP hD hS hl
  exact lv_lload_n hx hb d hq (lv_at hl i hl0) (k H locs ls hP hD hS hl)
theorem g_lload (hX : GX κ cy Z cc Ts own rm) (i : Nat) {j : Nat} {x : Int64} (hl0 : lv[i]? = some (j, .long x)) (d : decode cc pc = .ok (.lload j, 2)) (k : GW κ n1 n2 w (pc + 2) lv (.long x :: st)) : GW κ n1 n2 w pc lv (st) := by
  obtain ⟨p, l, e, R, s, m, args, below, meth, c, Q, A, D, cy', nL', Z'⟩ := κ
  obtain ⟨hx, hb, hts, hown, hK, hml, hA, hlk, hR, hcy, hZe, hZ⟩ := hX
  intro H locs ls hP hD hS hl
  exact lv_lload hx hb d (lv_at hl i hl0) (k H locs ls hP hD hS hl)
theorem g_aload_n (hX : GX κ cy Z cc Ts own rm) (i : Nat) {q : Fin 4} {j : Nat} {x : Nat} (hl0 : lv[i]? = some (j, .ref x)) (hq : (q : Nat) = j) (d : decode cc pc = .ok (.aload_n q, 1)) (k : GW κ n1 n2 w (pc + 1) lv (.ref x :: st)) : GW κ n1 n2 w pc lv (st) := by
  obtain ⟨p, l, e, R, s, m, args, below, meth, c, Q, A, D, cy', nL', Z'⟩ := κ
  obtain ⟨hx, hb, hts, hown, hK, hml, hA, hlk, hR, hcy, hZe, hZ⟩ := hX
  intro H locs ls hP hD hS hl
  exact lv_aload_n hx hb d hq (lv_at hl i hl0) (k H locs ls hP hD hS hl)
theorem g_aload (hX : GX κ cy Z cc Ts own rm) (i : Nat) {j : Nat} {x : Nat} (hl0 : lv[i]? = some (j, .ref x)) (d : decode cc pc = .ok (.aload j, 2)) (k : GW κ n1 n2 w (pc + 2) lv (.ref x :: st)) : GW κ n1 n2 w pc lv (st) := by
  obtain ⟨p, l, e, R, s, m, args, below, meth, c, Q, A, D, cy', nL', Z'⟩ := κ
  obtain ⟨hx, hb, hts, hown, hK, hml, hA, hlk, hR, hcy, hZe, hZ⟩ := hX
  intro H locs ls hP hD hS hl
  exact lv_aload hx hb d (lv_at hl i hl0) (k H locs ls hP hD hS hl)
theorem g_aload_nN (hX : GX κ cy Z cc Ts own rm) (i : Nat) {q : Fin 4} {j : Nat} (hl0 : lv[i]? = some (j, .null)) (hq : (q : Nat) = j) (d : decode cc pc = .ok (.aload_n q, 1)) (k : GW κ n1 n2 w (pc + 1) lv (.null :: st)) : GW κ n1 n2 w pc lv (st) := by
  obtain ⟨p, l, e, R, s, m, args, below, meth, c, Q, A, D, cy', nL', Z'⟩ := κ
  obtain ⟨hx, hb, hts, hown, hK, hml, hA, hlk, hR, hcy, hZe, hZ⟩ := hX
  intro H locs ls hP hD hS hl
  exact lv_aload_nN hx hb d hq (lv_at hl i hl0) (k H locs ls hP hD hS hl)
theorem g_aloadN (hX : GX κ cy Z cc Ts own rm) (i : Nat) {j : Nat} (hl0 : lv[i]? = some (j, .null)) (d : decode cc pc = .ok (.aload j, 2)) (k : GW κ n1 n2 w (pc + 2) lv (.null :: st)) : GW κ n1 n2 w pc lv (st) := by
  obtain ⟨p, l, e, R, s, m, args, below, meth, c, Q, A, D, cy', nL', Z'⟩ := κ
  obtain ⟨hx, hb, hts, hown, hK, hml, hA, hlk, hR, hcy, hZe, hZ⟩ := hX
  intro H locs ls hP hD hS hl
  exact lv_aloadN hx hb d (lv_at hl i hl0) (k H locs ls hP hD hS hl)
theorem g_istore_n (hX : GX κ cy Z cc Ts own rm) {q : Fin 4} {x : Int32} {lv2 : List (Nat × Value)} (j nL : Nat) (hn : GN κ nL) (hq : (q : Nat) = j) (hj : j < nL) (h2 : (j, Value.int x) :: lv.filter (fun q => !(q.1 == j) && !(q.1 + 1 == j && q.2.category == 2)) = lv2) (d : decode cc pc = .ok (.istore_n q, 1)) (k : GW κ n1 n2 w (pc + 1) lv2 st) : GW κ n1 n2 w pc lv (.int x :: st) := by
  obtain ⟨p, l, e, R, s, m, args, below, meth, c, Q, A, D, cy', nL', Z'⟩ := κ
  obtain ⟨hx, hb, hts, hown, hK, hml, hA, hlk, hR, hcy, hZe, hZ⟩ := hX
  intro H locs ls hP hD hS hl
  have hn : nL' = nL := hn
  subst hn
  exact lv_istore_n (lv' := lv2) hx hb d hq hl hj h2 (fun ls2 hl2 => k H locs ls2 hP hD hS hl2)
theorem g_istore (hX : GX κ cy Z cc Ts own rm) {x : Int32} {lv2 : List (Nat × Value)} (j nL : Nat) (hn : GN κ nL) (hj : j < nL) (h2 : (j, Value.int x) :: lv.filter (fun q => !(q.1 == j) && !(q.1 + 1 == j && q.2.category == 2)) = lv2) (d : decode cc pc = .ok (.istore j, 2)) (k : GW κ n1 n2 w (pc + 2) lv2 st) : GW κ n1 n2 w pc lv (.int x :: st) := by
  obtain ⟨p, l, e, R, s, m, args, below, meth, c, Q, A, D, cy', nL', Z'⟩ := κ
  obtain ⟨hx, hb, hts, hown, hK, hml, hA, hlk, hR, hcy, hZe, hZ⟩ := hX
  intro H locs ls hP hD hS hl
  have hn : nL' = nL := hn
  subst hn
  exact lv_istore (lv' := lv2) hx hb d hl hj h2 (fun ls2 hl2 => k H locs ls2 hP hD hS hl2)
theorem g_astore_n (hX : GX κ cy Z cc Ts own rm) {q : Fin 4} {x : Nat} {lv2 : List (Nat × Value)} (j nL : Nat) (hn : GN κ nL) (hq : (q : Nat) = j) (hj : j < nL) (h2 : (j, Value.ref x) :: lv.filter (fun q => !(q.1 == j) && !(q.1 + 1 == j && q.2.category == 2)) = lv2) (d : decode cc pc = .ok (.astore_n q, 1)) (k : GW κ n1 n2 w (pc + 1) lv2 st) : GW κ n1 n2 w pc lv (.ref x :: st) := by
  obtain ⟨p, l, e, R, s, m, args, below, meth, c, Q, A, D, cy', nL', Z'⟩ := κ
  obtain ⟨hx, hb, hts, hown, hK, hml, hA, hlk, hR, hcy, hZe, hZ⟩ := hX
  intro H locs ls hP hD hS hl
  have hn : nL' = nL := hn
  subst hn
  exact lv_astore_n (lv' := lv2) hx hb d hq hl hj h2 (fun ls2 hl2 => k H locs ls2 hP hD hS hl2)
theorem g_astore (hX : GX κ cy Z cc Ts own rm) {x : Nat} {lv2 : List (Nat × Value)} (j nL : Nat) (hn : GN κ nL) (hj : j < nL) (h2 : (j, Value.ref x) :: lv.filter (fun q => !(q.1 == j) && !(q.1 + 1 == j && q.2.category == 2)) = lv2) (d : decode cc pc = .ok (.astore j, 2)) (k : GW κ n1 n2 w (pc + 2) lv2 st) : GW κ n1 n2 w pc lv (.ref x :: st) := by
  obtain ⟨p, l, e, R, s, m, args, below, meth, c, Q, A, D, cy', nL', Z'⟩ := κ
  obtain ⟨hx, hb, hts, hown, hK, hml, hA, hlk, hR, hcy, hZe, hZ⟩ := hX
  intro H locs ls hP hD hS hl
  have hn : nL' = nL := hn
  subst hn
  exact lv_astore (lv' := lv2) hx hb d hl hj h2 (fun ls2 hl2 => k H locs ls2 hP hD hS hl2)
theorem g_iinc (hX : GX κ cy Z cc Ts own rm) {n : Int} {x v : Int32} {lv2 : List (Nat × Value)} (i j nL : Nat) (hn : GN κ nL) (hl0 : lv[i]? = some (j, .int x)) (hv : x + Int32.ofInt n = v) (hj : j < nL) (h2 : (j, Value.int v) :: lv.filter (fun q => !(q.1 == j) && !(q.1 + 1 == j && q.2.category == 2)) = lv2) (d : decode cc pc = .ok (.iinc j n, 3)) (k : GW κ n1 n2 w (pc + 3) lv2 st) : GW κ n1 n2 w pc lv st := by
  obtain ⟨p, l, e, R, s, m, args, below, meth, c, Q, A, D, cy', nL', Z'⟩ := κ
  obtain ⟨hx, hb, hts, hown, hK, hml, hA, hlk, hR, hcy, hZe, hZ⟩ := hX
  intro H locs ls hP hD hS hl
  have hn : nL' = nL := hn
  subst hn
  exact lv_iinc (lv' := lv2) hx hb d hl hl0 hv hj h2 (fun ls2 hl2 => k H locs ls2 hP hD hS hl2)
theorem g_iadd (hX : GX κ cy Z cc Ts own rm) {x y : Int32} (d : decode cc pc = .ok (.iadd, 1)) (k : GW κ n1 n2 w (pc + 1) lv (.int (x + y) :: st)) : GW κ n1 n2 w pc lv (.int y :: .int x :: st) := by
  obtain ⟨p, l, e, R, s, m, args, below, meth, c, Q, A, D, cy', nL', Z'⟩ := κ
  obtain ⟨hx, hb, hts, hown, hK, hml, hA, hlk, hR, hcy, hZe, hZ⟩ := hX
  intro H locs ls hP hD hS hl
  exact lv_iadd hx hb d (k H locs ls hP hD hS hl)
theorem g_isub (hX : GX κ cy Z cc Ts own rm) {x y : Int32} (d : decode cc pc = .ok (.isub, 1)) (k : GW κ n1 n2 w (pc + 1) lv (.int (x - y) :: st)) : GW κ n1 n2 w pc lv (.int y :: .int x :: st) := by
  obtain ⟨p, l, e, R, s, m, args, below, meth, c, Q, A, D, cy', nL', Z'⟩ := κ
  obtain ⟨hx, hb, hts, hown, hK, hml, hA, hlk, hR, hcy, hZe, hZ⟩ := hX
  intro H locs ls hP hD hS hl
  exact lv_isub hx hb d (k H locs ls hP hD hS hl)
theorem g_imul (hX : GX κ cy Z cc Ts own rm) {x y : Int32} (d : decode cc pc = .ok (.imul, 1)) (k : GW κ n1 n2 w (pc + 1) lv (.int (x * y) :: st)) : GW κ n1 n2 w pc lv (.int y :: .int x :: st) := by
  obtain ⟨p, l, e, R, s, m, args, below, meth, c, Q, A, D, cy', nL', Z'⟩ := κ
  obtain ⟨hx, hb, hts, hown, hK, hml, hA, hlk, hR, hcy, hZe, hZ⟩ := hX
  intro H locs ls hP hD hS hl
  exact lv_imul hx hb d (k H locs ls hP hD hS hl)
theorem g_iand (hX : GX κ cy Z cc Ts own rm) {x y : Int32} (d : decode cc pc = .ok (.iand, 1)) (k : GW κ n1 n2 w (pc + 1) lv (.int (x &&& y) :: st)) : GW κ n1 n2 w pc lv (.int y :: .int x :: st) := by
  obtain ⟨p, l, e, R, s, m, args, below, meth, c, Q, A, D, cy', nL', Z'⟩ := κ
  obtain ⟨hx, hb, hts, hown, hK, hml, hA, hlk, hR, hcy, hZe, hZ⟩ := hX
  intro H locs ls hP hD hS hl
  exact lv_iand hx hb d (k H locs ls hP hD hS hl)
theorem g_ior (hX : GX κ cy Z cc Ts own rm) {x y : Int32} (d : decode cc pc = .ok (.ior, 1)) (k : GW κ n1 n2 w (pc + 1) lv (.int (x ||| y) :: st)) : GW κ n1 n2 w pc lv (.int y :: .int x :: st) := by
  obtain ⟨p, l, e, R, s, m, args, below, meth, c, Q, A, D, cy', nL', Z'⟩ := κ
  obtain ⟨hx, hb, hts, hown, hK, hml, hA, hlk, hR, hcy, hZe, hZ⟩ := hX
  intro H locs ls hP hD hS hl
  exact lv_ior hx hb d (k H locs ls hP hD hS hl)
theorem g_ixor (hX : GX κ cy Z cc Ts own rm) {x y : Int32} (d : decode cc pc = .ok (.ixor, 1)) (k : GW κ n1 n2 w (pc + 1) lv (.int (x ^^^ y) :: st)) : GW κ n1 n2 w pc lv (.int y :: .int x :: st) := by
  obtain ⟨p, l, e, R, s, m, args, below, meth, c, Q, A, D, cy', nL', Z'⟩ := κ
  obtain ⟨hx, hb, hts, hown, hK, hml, hA, hlk, hR, hcy, hZe, hZ⟩ := hX
  intro H locs ls hP hD hS hl
  exact lv_ixor hx hb d (k H locs ls hP hD hS hl)
theorem g_ishl (hX : GX κ cy Z cc Ts own rm) {x y : Int32} (d : decode cc pc = .ok (.ishl, 1)) (k : GW κ n1 n2 w (pc + 1) lv (.int (x <<< (y &&& 31)) :: st)) : GW κ n1 n2 w pc lv (.int y :: .int x :: st) := by
  obtain ⟨p, l, e, R, s, m, args, below, meth, c, Q, A, D, cy', nL', Z'⟩ := κ
  obtain ⟨hx, hb, hts, hown, hK, hml, hA, hlk, hR, hcy, hZe, hZ⟩ := hX
  intro H locs ls hP hD hS hl
  exact lv_ishl hx hb d (k H locs ls hP hD hS hl)
theorem g_ishr (hX : GX κ cy Z cc Ts own rm) {x y : Int32} (d : decode cc pc = .ok (.ishr, 1)) (k : GW κ n1 n2 w (pc + 1) lv (.int (x >>> (y &&& 31)) :: st)) : GW κ n1 n2 w pc lv (.int y :: .int x :: st) := by
  obtain ⟨p, l, e, R, s, m, args, below, meth, c, Q, A, D, cy', nL', Z'⟩ := κ
  obtain ⟨hx, hb, hts, hown, hK, hml, hA, hlk, hR, hcy, hZe, hZ⟩ := hX
  intro H locs ls hP hD hS hl
  exact lv_ishr hx hb d (k H locs ls hP hD hS hl)
theorem g_lcmp (hX : GX κ cy Z cc Ts own rm) {x y : Int64} (d : decode cc pc = .ok (.lcmp, 1)) (k : GW κ n1 n2 w (pc + 1) lv (.int (lg_cmp x y) :: st)) : GW κ n1 n2 w pc lv (.long y :: .long x :: st) := by
  obtain ⟨p, l, e, R, s, m, args, below, meth, c, Q, A, D, cy', nL', Z'⟩ := κ
  obtain ⟨hx, hb, hts, hown, hK, hml, hA, hlk, hR, hcy, hZe, hZ⟩ := hX
  intro H locs ls hP hD hS hl
  exact W.lcmp hx hb d (k H locs ls hP hD hS hl)
theorem g_ladd (hX : GX κ cy Z cc Ts own rm) {x y : Int64} (d : decode cc pc = .ok (.ladd, 1)) (k : GW κ n1 n2 w (pc + 1) lv (.long (x + y) :: st)) : GW κ n1 n2 w pc lv (.long y :: .long x :: st) := by
  obtain ⟨p, l, e, R, s, m, args, below, meth, c, Q, A, D, cy', nL', Z'⟩ := κ
  obtain ⟨hx, hb, hts, hown, hK, hml, hA, hlk, hR, hcy, hZe, hZ⟩ := hX
  intro H locs ls hP hD hS hl
  exact lv_ladd hx hb d (k H locs ls hP hD hS hl)
theorem g_idiv (hX : GX κ cy Z cc Ts own rm) {x y : Int32} (hne : ¬ y = 0) (d : decode cc pc = .ok (.idiv, 1)) (k : GW κ n1 n2 w (pc + 1) lv (.int (x / y) :: st)) : GW κ n1 n2 w pc lv (.int y :: .int x :: st) := by
  obtain ⟨p, l, e, R, s, m, args, below, meth, c, Q, A, D, cy', nL', Z'⟩ := κ
  obtain ⟨hx, hb, hts, hown, hK, hml, hA, hlk, hR, hcy, hZe, hZ⟩ := hX
  intro H locs ls hP hD hS hl
  exact lv_idiv hx hb d hne (k H locs ls hP hD hS hl)
theorem g_irem (hX : GX κ cy Z cc Ts own rm) {x y : Int32} (hne : ¬ y = 0) (d : decode cc pc = .ok (.irem, 1)) (k : GW κ n1 n2 w (pc + 1) lv (.int (x - x / y * y) :: st)) : GW κ n1 n2 w pc lv (.int y :: .int x :: st) := by
  obtain ⟨p, l, e, R, s, m, args, below, meth, c, Q, A, D, cy', nL', Z'⟩ := κ
  obtain ⟨hx, hb, hts, hown, hK, hml, hA, hlk, hR, hcy, hZe, hZ⟩ := hX
  intro H locs ls hP hD hS hl
  exact lv_irem hx hb d hne (k H locs ls hP hD hS hl)
theorem g_ineg (hX : GX κ cy Z cc Ts own rm) {x : Int32} (d : decode cc pc = .ok (.ineg, 1)) (k : GW κ n1 n2 w (pc + 1) lv (.int (-x) :: st)) : GW κ n1 n2 w pc lv (.int x :: st) := by
  obtain ⟨p, l, e, R, s, m, args, below, meth, c, Q, A, D, cy', nL', Z'⟩ := κ
  obtain ⟨hx, hb, hts, hown, hK, hml, hA, hlk, hR, hcy, hZe, hZ⟩ := hX
  intro H locs ls hP hD hS hl
  exact lv_ineg hx hb d (k H locs ls hP hD hS hl)
theorem g_iushr (hX : GX κ cy Z cc Ts own rm) {x y : Int32} (d : decode cc pc = .ok (.iushr, 1)) (k : GW κ n1 n2 w (pc + 1) lv (.int ((x.toUInt32 >>> (y.toUInt32 &&& Int32.toUInt32 31)).toInt32) :: st)) : GW κ n1 n2 w pc lv (.int y :: .int x :: st) := by
  obtain ⟨p, l, e, R, s, m, args, below, meth, c, Q, A, D, cy', nL', Z'⟩ := κ
  obtain ⟨hx, hb, hts, hown, hK, hml, hA, hlk, hR, hcy, hZe, hZ⟩ := hX
  intro H locs ls hP hD hS hl
  exact lv_iushr hx hb d rfl (k H locs ls hP hD hS hl)
theorem g_i2l (hX : GX κ cy Z cc Ts own rm) {x : Int32} (d : decode cc pc = .ok (.i2l, 1)) (k : GW κ n1 n2 w (pc + 1) lv (.long x.toInt64 :: st)) : GW κ n1 n2 w pc lv (.int x :: st) := by
  obtain ⟨p, l, e, R, s, m, args, below, meth, c, Q, A, D, cy', nL', Z'⟩ := κ
  obtain ⟨hx, hb, hts, hown, hK, hml, hA, hlk, hR, hcy, hZe, hZ⟩ := hX
  intro H locs ls hP hD hS hl
  exact lv_i2l hx hb d rfl (k H locs ls hP hD hS hl)
theorem g_i2b (hX : GX κ cy Z cc Ts own rm) {x : Int32} (d : decode cc pc = .ok (.i2b, 1)) (k : GW κ n1 n2 w (pc + 1) lv (.int x.toInt8.toInt32 :: st)) : GW κ n1 n2 w pc lv (.int x :: st) := by
  obtain ⟨p, l, e, R, s, m, args, below, meth, c, Q, A, D, cy', nL', Z'⟩ := κ
  obtain ⟨hx, hb, hts, hown, hK, hml, hA, hlk, hR, hcy, hZe, hZ⟩ := hX
  intro H locs ls hP hD hS hl
  exact lv_i2b hx hb d rfl (k H locs ls hP hD hS hl)
theorem g_i2s (hX : GX κ cy Z cc Ts own rm) {x : Int32} (d : decode cc pc = .ok (.i2s, 1)) (k : GW κ n1 n2 w (pc + 1) lv (.int x.toInt16.toInt32 :: st)) : GW κ n1 n2 w pc lv (.int x :: st) := by
  obtain ⟨p, l, e, R, s, m, args, below, meth, c, Q, A, D, cy', nL', Z'⟩ := κ
  obtain ⟨hx, hb, hts, hown, hK, hml, hA, hlk, hR, hcy, hZe, hZ⟩ := hX
  intro H locs ls hP hD hS hl
  exact lv_i2s hx hb d rfl (k H locs ls hP hD hS hl)
theorem g_i2c (hX : GX κ cy Z cc Ts own rm) {x : Int32} (d : decode cc pc = .ok (.i2c, 1)) (k : GW κ n1 n2 w (pc + 1) lv (.int (x.toUInt32 % 65536).toInt32 :: st)) : GW κ n1 n2 w pc lv (.int x :: st) := by
  obtain ⟨p, l, e, R, s, m, args, below, meth, c, Q, A, D, cy', nL', Z'⟩ := κ
  obtain ⟨hx, hb, hts, hown, hK, hml, hA, hlk, hR, hcy, hZe, hZ⟩ := hX
  intro H locs ls hP hD hS hl
  exact lv_i2c hx hb d rfl (k H locs ls hP hD hS hl)
theorem g_dup (hX : GX κ cy Z cc Ts own rm) {v : Value} (hv : v.category = 1) (d : decode cc pc = .ok (.dup, 1)) (k : GW κ n1 n2 w (pc + 1) lv (v :: v :: st)) : GW κ n1 n2 w pc lv (v :: st) := by
  obtain ⟨p, l, e, R, s, m, args, below, meth, c, Q, A, D, cy', nL', Z'⟩ := κ
  obtain ⟨hx, hb, hts, hown, hK, hml, hA, hlk, hR, hcy, hZe, hZ⟩ := hX
  intro H locs ls hP hD hS hl
  exact lv_dup hx hb d hv (k H locs ls hP hD hS hl)
theorem g_pop (hX : GX κ cy Z cc Ts own rm) {v : Value} (hv : v.category = 1) (d : decode cc pc = .ok (.pop, 1)) (k : GW κ n1 n2 w (pc + 1) lv (st)) : GW κ n1 n2 w pc lv (v :: st) := by
  obtain ⟨p, l, e, R, s, m, args, below, meth, c, Q, A, D, cy', nL', Z'⟩ := κ
  obtain ⟨hx, hb, hts, hown, hK, hml, hA, hlk, hR, hcy, hZe, hZ⟩ := hX
  intro H locs ls hP hD hS hl
  exact lv_pop hx hb d hv (k H locs ls hP hD hS hl)
theorem g_dup2 (hX : GX κ cy Z cc Ts own rm) {v u : Value} (hv : v.category = 1) (hu : u.category = 1) (d : decode cc pc = .ok (.dup2, 1)) (k : GW κ n1 n2 w (pc + 1) lv (v :: u :: v :: u :: st)) : GW κ n1 n2 w pc lv (v :: u :: st) := by
  obtain ⟨p, l, e, R, s, m, args, below, meth, c, Q, A, D, cy', nL', Z'⟩ := κ
  obtain ⟨hx, hb, hts, hown, hK, hml, hA, hlk, hR, hcy, hZe, hZ⟩ := hX
  intro H locs ls hP hD hS hl
  exact lv_dup2_11 hx hb d hv hu (k H locs ls hP hD hS hl)
theorem g_if_eq (hX : GX κ cy Z cc Ts own rm) {x : Int32} {off : Int} (tgt : Nat) (ht : (pc : Int) + off = (tgt : Int)) (d : decode cc pc = .ok (.ifCond .eq off, 3)) (kt : x = 0 → GW κ n1 n2 w tgt lv st) (kf : ¬ x = 0 → GW κ n1 n2 w (pc + 3) lv st) : GW κ n1 n2 w pc lv (.int x :: st) := by
  obtain ⟨p, l, e, R, s, m, args, below, meth, c, Q, A, D, cy', nL', Z'⟩ := κ
  obtain ⟨hx, hb, hts, hown, hK, hml, hA, hlk, hR, hcy, hZe, hZ⟩ := hX
  intro H locs ls hP hD hS hl
  exact lv_if_eq hx hb d ht (fun q => kt q H locs ls hP hD hS hl) (fun q => kf q H locs ls hP hD hS hl)
theorem g_icmp_eq (hX : GX κ cy Z cc Ts own rm) {x y : Int32} {off : Int} (tgt : Nat) (ht : (pc : Int) + off = (tgt : Int)) (d : decode cc pc = .ok (.if_icmp .eq off, 3)) (kt : x = y → GW κ n1 n2 w tgt lv st) (kf : ¬ x = y → GW κ n1 n2 w (pc + 3) lv st) : GW κ n1 n2 w pc lv (.int y :: .int x :: st) := by
  obtain ⟨p, l, e, R, s, m, args, below, meth, c, Q, A, D, cy', nL', Z'⟩ := κ
  obtain ⟨hx, hb, hts, hown, hK, hml, hA, hlk, hR, hcy, hZe, hZ⟩ := hX
  intro H locs ls hP hD hS hl
  exact lv_icmp_eq hx hb d ht (fun q => kt q H locs ls hP hD hS hl) (fun q => kf q H locs ls hP hD hS hl)
theorem g_if_ne (hX : GX κ cy Z cc Ts own rm) {x : Int32} {off : Int} (tgt : Nat) (ht : (pc : Int) + off = (tgt : Int)) (d : decode cc pc = .ok (.ifCond .ne off, 3)) (kt : ¬ x = 0 → GW κ n1 n2 w tgt lv st) (kf : x = 0 → GW κ n1 n2 w (pc + 3) lv st) : GW κ n1 n2 w pc lv (.int x :: st) := by
  obtain ⟨p, l, e, R, s, m, args, below, meth, c, Q, A, D, cy', nL', Z'⟩ := κ
  obtain ⟨hx, hb, hts, hown, hK, hml, hA, hlk, hR, hcy, hZe, hZ⟩ := hX
  intro H locs ls hP hD hS hl
  exact lv_if_ne hx hb d ht (fun q => kt q H locs ls hP hD hS hl) (fun q => kf q H locs ls hP hD hS hl)
theorem g_icmp_ne (hX : GX κ cy Z cc Ts own rm) {x y : Int32} {off : Int} (tgt : Nat) (ht : (pc : Int) + off = (tgt : Int)) (d : decode cc pc = .ok (.if_icmp .ne off, 3)) (kt : ¬ x = y → GW κ n1 n2 w tgt lv st) (kf : x = y → GW κ n1 n2 w (pc + 3) lv st) : GW κ n1 n2 w pc lv (.int y :: .int x :: st) := by
  obtain ⟨p, l, e, R, s, m, args, below, meth, c, Q, A, D, cy', nL', Z'⟩ := κ
  obtain ⟨hx, hb, hts, hown, hK, hml, hA, hlk, hR, hcy, hZe, hZ⟩ := hX
  intro H locs ls hP hD hS hl
  exact lv_icmp_ne hx hb d ht (fun q => kt q H locs ls hP hD hS hl) (fun q => kf q H locs ls hP hD hS hl)
theorem g_if_lt (hX : GX κ cy Z cc Ts own rm) {x : Int32} {off : Int} (tgt : Nat) (ht : (pc : Int) + off = (tgt : Int)) (d : decode cc pc = .ok (.ifCond .lt off, 3)) (kt : x < 0 → GW κ n1 n2 w tgt lv st) (kf : ¬ x < 0 → GW κ n1 n2 w (pc + 3) lv st) : GW κ n1 n2 w pc lv (.int x :: st) := by
  obtain ⟨p, l, e, R, s, m, args, below, meth, c, Q, A, D, cy', nL', Z'⟩ := κ
  obtain ⟨hx, hb, hts, hown, hK, hml, hA, hlk, hR, hcy, hZe, hZ⟩ := hX
  intro H locs ls hP hD hS hl
  exact lv_if_lt hx hb d ht (fun q => kt q H locs ls hP hD hS hl) (fun q => kf q H locs ls hP hD hS hl)
theorem g_icmp_lt (hX : GX κ cy Z cc Ts own rm) {x y : Int32} {off : Int} (tgt : Nat) (ht : (pc : Int) + off = (tgt : Int)) (d : decode cc pc = .ok (.if_icmp .lt off, 3)) (kt : x < y → GW κ n1 n2 w tgt lv st) (kf : ¬ x < y → GW κ n1 n2 w (pc + 3) lv st) : GW κ n1 n2 w pc lv (.int y :: .int x :: st) := by
  obtain ⟨p, l, e, R, s, m, args, below, meth, c, Q, A, D, cy', nL', Z'⟩ := κ
  obtain ⟨hx, hb, hts, hown, hK, hml, hA, hlk, hR, hcy, hZe, hZ⟩ := hX
  intro H locs ls hP hD hS hl
  exact lv_icmp_lt hx hb d ht (fun q => kt q H locs ls hP hD hS hl) (fun q => kf q H locs ls hP hD hS hl)
theorem g_if_ge (hX : GX κ cy Z cc Ts own rm) {x : Int32} {off : Int} (tgt : Nat) (ht : (pc : Int) + off = (tgt : Int)) (d : decode cc pc = .ok (.ifCond .ge off, 3)) (kt : 0 ≤ x → GW κ n1 n2 w tgt lv st) (kf : ¬ 0 ≤ x → GW κ n1 n2 w (pc + 3) lv st) : GW κ n1 n2 w pc lv (.int x :: st) := by
  obtain ⟨p, l, e, R, s, m, args, below, meth, c, Q, A, D, cy', nL', Z'⟩ := κ
  obtain ⟨hx, hb, hts, hown, hK, hml, hA, hlk, hR, hcy, hZe, hZ⟩ := hX
  intro H locs ls hP hD hS hl
  exact lv_if_ge hx hb d ht (fun q => kt q H locs ls hP hD hS hl) (fun q => kf q H locs ls hP hD hS hl)
theorem g_icmp_ge (hX : GX κ cy Z cc Ts own rm) {x y : Int32} {off : Int} (tgt : Nat) (ht : (pc : Int) + off = (tgt : Int)) (d : decode cc pc = .ok (.if_icmp .ge off, 3)) (kt : y ≤ x → GW κ n1 n2 w tgt lv st) (kf : ¬ y ≤ x → GW κ n1 n2 w (pc + 3) lv st) : GW κ n1 n2 w pc lv (.int y :: .int x :: st) := by
  obtain ⟨p, l, e, R, s, m, args, below, meth, c, Q, A, D, cy', nL', Z'⟩ := κ
  obtain ⟨hx, hb, hts, hown, hK, hml, hA, hlk, hR, hcy, hZe, hZ⟩ := hX
  intro H locs ls hP hD hS hl
  exact lv_icmp_ge hx hb d ht (fun q => kt q H locs ls hP hD hS hl) (fun q => kf q H locs ls hP hD hS hl)
theorem g_if_gt (hX : GX κ cy Z cc Ts own rm) {x : Int32} {off : Int} (tgt : Nat) (ht : (pc : Int) + off = (tgt : Int)) (d : decode cc pc = .ok (.ifCond .gt off, 3)) (kt : 0 < x → GW κ n1 n2 w tgt lv st) (kf : ¬ 0 < x → GW κ n1 n2 w (pc + 3) lv st) : GW κ n1 n2 w pc lv (.int x :: st) := by
  obtain ⟨p, l, e, R, s, m, args, below, meth, c, Q, A, D, cy', nL', Z'⟩ := κ
  obtain ⟨hx, hb, hts, hown, hK, hml, hA, hlk, hR, hcy, hZe, hZ⟩ := hX
  intro H locs ls hP hD hS hl
  exact lv_if_gt hx hb d ht (fun q => kt q H locs ls hP hD hS hl) (fun q => kf q H locs ls hP hD hS hl)
theorem g_icmp_gt (hX : GX κ cy Z cc Ts own rm) {x y : Int32} {off : Int} (tgt : Nat) (ht : (pc : Int) + off = (tgt : Int)) (d : decode cc pc = .ok (.if_icmp .gt off, 3)) (kt : y < x → GW κ n1 n2 w tgt lv st) (kf : ¬ y < x → GW κ n1 n2 w (pc + 3) lv st) : GW κ n1 n2 w pc lv (.int y :: .int x :: st) := by
  obtain ⟨p, l, e, R, s, m, args, below, meth, c, Q, A, D, cy', nL', Z'⟩ := κ
  obtain ⟨hx, hb, hts, hown, hK, hml, hA, hlk, hR, hcy, hZe, hZ⟩ := hX
  intro H locs ls hP hD hS hl
  exact lv_icmp_gt hx hb d ht (fun q => kt q H locs ls hP hD hS hl) (fun q => kf q H locs ls hP hD hS hl)
theorem g_if_le (hX : GX κ cy Z cc Ts own rm) {x : Int32} {off : Int} (tgt : Nat) (ht : (pc : Int) + off = (tgt : Int)) (d : decode cc pc = .ok (.ifCond .le off, 3)) (kt : x ≤ 0 → GW κ n1 n2 w tgt lv st) (kf : ¬ x ≤ 0 → GW κ n1 n2 w (pc + 3) lv st) : GW κ n1 n2 w pc lv (.int x :: st) := by
  obtain ⟨p, l, e, R, s, m, args, below, meth, c, Q, A, D, cy', nL', Z'⟩ := κ
  obtain ⟨hx, hb, hts, hown, hK, hml, hA, hlk, hR, hcy, hZe, hZ⟩ := hX
  intro H locs ls hP hD hS hl
  exact lv_if_le hx hb d ht (fun q => kt q H locs ls hP hD hS hl) (fun q => kf q H locs ls hP hD hS hl)
theorem g_icmp_le (hX : GX κ cy Z cc Ts own rm) {x y : Int32} {off : Int} (tgt : Nat) (ht : (pc : Int) + off = (tgt : Int)) (d : decode cc pc = .ok (.if_icmp .le off, 3)) (kt : x ≤ y → GW κ n1 n2 w tgt lv st) (kf : ¬ x ≤ y → GW κ n1 n2 w (pc + 3) lv st) : GW κ n1 n2 w pc lv (.int y :: .int x :: st) := by
  obtain ⟨p, l, e, R, s, m, args, below, meth, c, Q, A, D, cy', nL', Z'⟩ := κ
  obtain ⟨hx, hb, hts, hown, hK, hml, hA, hlk, hR, hcy, hZe, hZ⟩ := hX
  intro H locs ls hP hD hS hl
  exact lv_icmp_le hx hb d ht (fun q => kt q H locs ls hP hD hS hl) (fun q => kf q H locs ls hP hD hS hl)
theorem g_goto (hX : GX κ cy Z cc Ts own rm) {off : Int} (tgt : Nat) (ht : (pc : Int) + off = (tgt : Int)) (d : decode cc pc = .ok (.goto off, 3)) (k : GW κ n1 n2 w tgt lv st) : GW κ n1 n2 w pc lv st := by
  obtain ⟨p, l, e, R, s, m, args, below, meth, c, Q, A, D, cy', nL', Z'⟩ := κ
  obtain ⟨hx, hb, hts, hown, hK, hml, hA, hlk, hR, hcy, hZe, hZ⟩ := hX
  intro H locs ls hP hD hS hl
  exact lv_goto hx hb d ht (k H locs ls hP hD hS hl)
theorem g_ifnonnull (hX : GX κ cy Z cc Ts own rm) {x : Nat} {off : Int} (tgt : Nat) (ht : (pc : Int) + off = (tgt : Int)) (d : decode cc pc = .ok (.ifnonnull off, 3)) (k : GW κ n1 n2 w tgt lv st) : GW κ n1 n2 w pc lv (.ref x :: st) := by
  obtain ⟨p, l, e, R, s, m, args, below, meth, c, Q, A, D, cy', nL', Z'⟩ := κ
  obtain ⟨hx, hb, hts, hown, hK, hml, hA, hlk, hR, hcy, hZe, hZ⟩ := hX
  intro H locs ls hP hD hS hl
  exact lv_ifnonnull hx hb d ht (k H locs ls hP hD hS hl)
theorem g_ifnonnullN (hX : GX κ cy Z cc Ts own rm) {off : Int} (d : decode cc pc = .ok (.ifnonnull off, 3)) (k : GW κ n1 n2 w (pc + 3) lv st) : GW κ n1 n2 w pc lv (.null :: st) := by
  obtain ⟨p, l, e, R, s, m, args, below, meth, c, Q, A, D, cy', nL', Z'⟩ := κ
  obtain ⟨hx, hb, hts, hown, hK, hml, hA, hlk, hR, hcy, hZe, hZ⟩ := hX
  intro H locs ls hP hD hS hl
  exact lv_ifnonnullN hx hb d (k H locs ls hP hD hS hl)
theorem g_tableIn (hX : GX κ cy Z cc Ts own rm) {dflt lo hi : Int} {offs : Array Int} {len : Nat} {x : Int32} {off : Int} (tgt : Nat) (h1 : ¬ x.toInt < lo) (h2 : ¬ hi < x.toInt) (ho : offs[(x.toInt - lo).toNat]? = some off) (ht : (pc : Int) + off = (tgt : Int)) (d : decode cc pc = .ok (.tableswitch dflt lo hi offs, len)) (k : GW κ n1 n2 w tgt lv st) : GW κ n1 n2 w pc lv (.int x :: st) := by
  obtain ⟨p, l, e, R, s, m, args, below, meth, c, Q, A, D, cy', nL', Z'⟩ := κ
  obtain ⟨hx, hb, hts, hown, hK, hml, hA, hlk, hR, hcy, hZe, hZ⟩ := hX
  intro H locs ls hP hD hS hl
  exact lv_tableIn hx hb d h1 h2 ho ht (k H locs ls hP hD hS hl)
theorem g_tableOut (hX : GX κ cy Z cc Ts own rm) {dflt lo hi : Int} {offs : Array Int} {len : Nat} {x : Int32} (tgt : Nat) (h : x.toInt < lo ∨ hi < x.toInt) (ht : (pc : Int) + dflt = (tgt : Int)) (d : decode cc pc = .ok (.tableswitch dflt lo hi offs, len)) (k : GW κ n1 n2 w tgt lv st) : GW κ n1 n2 w pc lv (.int x :: st) := by
  obtain ⟨p, l, e, R, s, m, args, below, meth, c, Q, A, D, cy', nL', Z'⟩ := κ
  obtain ⟨hx, hb, hts, hown, hK, hml, hA, hlk, hR, hcy, hZe, hZ⟩ := hX
  intro H locs ls hP hD hS hl
  exact lv_tableOut hx hb d h ht (k H locs ls hP hD hS hl)
theorem g_lookup (hX : GX κ cy Z cc Ts own rm) {dflt : Int} {ps : Array (Int × Int)} {len : Nat} {x : Int32} {off : Int} (tgt : Nat) (hp : (ps.toList.zip (ps.toList.drop 1)).all (fun (a, next) => a.1 < next.1) = true) (ho : Op.lookupswitch.offset ps.toList dflt x.toInt = off) (ht : (pc : Int) + off = (tgt : Int)) (d : decode cc pc = .ok (.lookupswitch dflt ps, len)) (k : GW κ n1 n2 w tgt lv st) : GW κ n1 n2 w pc lv (.int x :: st) := by
  obtain ⟨p, l, e, R, s, m, args, below, meth, c, Q, A, D, cy', nL', Z'⟩ := κ
  obtain ⟨hx, hb, hts, hown, hK, hml, hA, hlk, hR, hcy, hZe, hZ⟩ := hX
  intro H locs ls hP hD hS hl
  exact lv_lookup hx hb d hp ho ht (k H locs ls hP hD hS hl)
theorem g_get (hX : GX κ cy Z cc Ts own rm) {C ref : String} {T : u_T} {N index : Nat} {a : Nat} {fs : List Value} {v : Value} (ci q0 k0 : Nat) (hin : ∀ x ∈ u_ws C T N, x ∈ Ts) (he : w[q0]? = some (a, .inr (ci, fs))) (hc : vwCl[ci]? = some (C, T, N)) (hk : k0 < N) (hlk0 : Cond.fieldLink own index ref (T k0).2.1 (T k0).2.2.1 ∈ Ts) (href : (T k0).1 = ref) (hv : fs[k0]? = some v) (d : decode cc pc = .ok (.getfield index, 3)) (k : GW κ n1 n2 w (pc + 3) lv (v :: st)) : GW κ n1 n2 w pc lv (.ref a :: st) := by
  obtain ⟨p, l, e, R, s, m, args, below, meth, c, Q, A, D, cy', nL', Z'⟩ := κ
  obtain ⟨hx, hb, hts, hown, hK, hml, hA, hlk, hR, hcy, hZe, hZ⟩ := hX
  intro H locs ls hP hD hS hl
  exact va_get (D := D) hx hb hts hin hown hK hP q0 he hc k0 hk (hts _ hlk0) (fun _ h9 => by rw [← href]; exact h9) hv d (k H locs ls hP hD hS hl)
theorem g_put (hX : GX κ cy Z cc Ts own rm) {C ref : String} {T : u_T} {N index : Nat} {a : Nat} {fs : List Value} {v : Value} {w2 : va_W} {ty : FieldType} (ci q0 k0 : Nat) (hin : ∀ x ∈ u_ws C T N, x ∈ Ts) (ty0 : Nat → FieldType) (hty : ∀ k, k < N → parseFieldDescriptor (T k).2.2.1 = some (ty0 k)) (hnm : ∀ a, a < N → ∀ b, b < N → a ≠ b → (T a).2.1 ≠ (T b).2.1) (he : w[q0]? = some (a, .inr (ci, fs))) (hc : vwCl[ci]? = some (C, T, N)) (hk : k0 < N) (hlk0 : Cond.fieldLink own index ref (T k0).2.1 (T k0).2.2.1 ∈ Ts) (href : (T k0).1 = ref) (hfin : (T k0).2.2.2 = false) (hd : parseFieldDescriptor (T k0).2.2.1 = some ty) (hn : narrow ty v = v) (hfit : fits ty v = true) (hl9 : k0 < fs.length) (hw2 : w.set q0 (a, .inr (ci, fs.set k0 v)) = w2) (d : decode cc pc = .ok (.putfield index, 3)) (k : GW κ n1 n2 w2 (pc + 3) lv st) : GW κ n1 n2 w pc lv (v :: .ref a :: st) := by
  obtain ⟨p, l, e, R, s, m, args, below, meth, c, Q, A, D, cy', nL', Z'⟩ := κ
  obtain ⟨hx, hb, hts, hown, hK, hml, hA, hlk, hR, hcy, hZe, hZ⟩ := hX
  intro H locs ls hP hD hS hl
  subst hw2
  exact va_put (D := D) hx hb hts hin ty0 hty hnm hown hK hP hD hS q0 he hc k0 hk (hts _ hlk0) (fun _ h9 => by rw [← href]; exact h9) hfin hd hn hfit hl9 d (fun H1 locs1 hP hD hS => k H1 locs1 ls hP hD hS hl)
theorem g_ald (hX : GX κ cy Z cc Ts own rm) {a n : Nat} {f : Nat → Int32} {i : Int32} (q0 : Nat) (he : w[q0]? = some (a, .inl (cy 0, n, .inl f))) (hi : vp_in i n) (d : decode cc pc = .ok (.iaload, 1)) (k : GW κ n1 n2 w (pc + 1) lv (.int (f i.toNatClampNeg) :: st)) : GW κ n1 n2 w pc lv (.int i :: .ref a :: st) := by
  obtain ⟨p, l, e, R, s, m, args, below, meth, c, Q, A, D, cy', nL', Z'⟩ := κ
  obtain ⟨hx, hb, hts, hown, hK, hml, hA, hlk, hR, hcy, hZe, hZ⟩ := hX
  intro H locs ls hP hD hS hl
  subst hcy
  exact va_iald hx hb hK hP q0 0 he rfl hi d (k H locs ls hP hD hS hl)
theorem g_ast (hX : GX κ cy Z cc Ts own rm) {a n : Nat} {f : Nat → Int32} {i x : Int32} {w2 : va_W} (q0 : Nat) (he : w[q0]? = some (a, .inl (cy 0, n, .inl f))) (hi : vp_in i n) (hw2 : w.set q0 (a, .inl (cy 0, n, .inl (upd f i.toNatClampNeg x))) = w2) (d : decode cc pc = .ok (.iastore, 1)) (k : GW κ n1 n2 w2 (pc + 1) lv st) : GW κ n1 n2 w pc lv (.int x :: .int i :: .ref a :: st) := by
  obtain ⟨p, l, e, R, s, m, args, below, meth, c, Q, A, D, cy', nL', Z'⟩ := κ
  obtain ⟨hx, hb, hts, hown, hK, hml, hA, hlk, hR, hcy, hZe, hZ⟩ := hX
  intro H locs ls hP hD hS hl
  subst hw2
  subst hcy
  exact va_iast hx hb hK hP hD hS q0 0 he rfl hi d (fun H1 locs1 hP hD hS => k H1 locs1 ls hP hD hS hl)
theorem g_aald (hX : GX κ cy Z cc Ts own rm) {a n : Nat} {f : Nat → Option Nat} {i : Int32} {C : String} (q0 t0 : Nat) (he : w[q0]? = some (a, .inl (cy t0, n, .inr (.inr (.inr (.inr f)))))) (ht : (zTy cy)[t0]? = some (cy t0, .object C)) (hi : vp_in i n) (d : decode cc pc = .ok (.aaload, 1)) (k : GW κ n1 n2 w (pc + 1) lv (va_rf (f i.toNatClampNeg) :: st)) : GW κ n1 n2 w pc lv (.int i :: .ref a :: st) := by
  obtain ⟨p, l, e, R, s, m, args, below, meth, c, Q, A, D, cy', nL', Z'⟩ := κ
  obtain ⟨hx, hb, hts, hown, hK, hml, hA, hlk, hR, hcy, hZe, hZ⟩ := hX
  intro H locs ls hP hD hS hl
  subst hcy
  exact va_aldq hx hb hK hP q0 t0 he ht hi d (k H locs ls hP hD hS hl)
theorem g_alen (hX : GX κ cy Z cc Ts own rm) {a n : Nat} {f : Nat → Int32} {v : Int32} (q0 : Nat) (he : w[q0]? = some (a, .inl (cy 0, n, .inl f))) (hv : Int32.ofNat n = v) (d : decode cc pc = .ok (.arraylength, 1)) (k : GW κ n1 n2 w (pc + 1) lv (.int v :: st)) : GW κ n1 n2 w pc lv (.ref a :: st) := by
  obtain ⟨p, l, e, R, s, m, args, below, meth, c, Q, A, D, cy', nL', Z'⟩ := κ
  obtain ⟨hx, hb, hts, hown, hK, hml, hA, hlk, hR, hcy, hZe, hZ⟩ := hX
  intro H locs ls hP hD hS hl
  subst hcy
  exact va_alen hx hb hK hP q0 0 he rfl hv d (k H locs ls hP hD hS hl)
theorem g_callV (hX : GX κ cy Z cc Ts own rm) (hzo : zOK Z) {y : MethodName} {ws ws2 : List Cond} {rm2 : Room} {bytes : ByteArray} {maxL index mc ms : Nat} {ret : Option FieldType} {Po : Option Value → va_W → Prop} {C : String} {b : Nat} (As rest : List Value) (ci q0 : Nat) {qc : vw_C} {fs : List Value} (hcl : vwCl[ci]? = some qc) (hcn : qc.1 = C) (he : w[q0]? = some (b, .inr (ci, fs))) (hM : GM (Kl κ) (KD κ) cy Z y ws rm2 (.ref b :: As) w Po mc ms) (hG : GoodIn Ts (wsV own index C y ws)) (hw : ws = Cond.code y bytes maxL ret :: ws2) (hrc : rm2.cells = mc) (hrs : rm2.slots = ms) (hd : y.cls = C ∧ y.cls ≠ "java/lang/invoke/MethodHandle" ∧ y.cls ≠ "java/lang/invoke/VarHandle" ∧ (parseMethodDescriptor y.desc).map (fun d => d.parameters.length) = some As.length) (hR1 : rm2.frames + 1 ≤ rm.frames) (hR2 : 8 + (maxL + 11) + rm2.locals ≤ rm.locals) {st0 : List Value} (hst : st0 = As.reverse ++ .ref b :: rest) (hrest : (rest.map fun v => v.category).sum ≤ 8) (hf : n1 + mc ≤ rm.cells ∧ n2 + ms ≤ rm.slots) (d : decode cc pc = .ok (.invokevirtual index, 3)) (k : ∀ (res : Option Value) (w2 : va_W), Po res w2 → GW κ (n1 + mc) (n2 + ms) w2 (pc + 3) lv (res.toList ++ rest)) : GW κ n1 n2 w pc lv st0 := by
  obtain ⟨p, l, e, R, s, m, args, below, meth, c, Q, A, D, cy', nL', Z'⟩ := κ
  obtain ⟨hx, hb, hts, hown, hK, hml, hA, hlk, hR, hcy, hZe, hZ⟩ := hX
  intro H locs ls hP hD hS hl
  subst hR
  subst hcy
  subst hZe
  have hF : ∀ q, va_A w H.size q → A q := fun q h => by
    rcases h with ⟨k9, e9, h⟩ | h
    · exact hD.2 k9 (q, e9) h
    · exact hA q (Nat.le_trans hS.1 h)
  have hpre : ∀ U : State, U.heap = H → s.WarmedH U.vm → U.heap.size = H.size ∧ va_P D vwCl w U.heap ∧ va_K D vwCl (zTy cy') U ∧ va_D (fun _ => True) w ∧ Z' (va_A w H.size) U U.heap := fun U hU hW => by
    refine ⟨by rw [hU], by rw [hU]; exact hP, va_K.moved hW.alike hK, hD.weaken (fun _ _ _ _ => trivial), ?_⟩
    rw [hU]
    exact hzo.1 A _ U H hF (hzo.2.2.1 A s U H hW (hzo.2.2.2 A s s.heap H hS.2.1 hZ))
  have hrv : ∃ cellB : Cell, H[b]? = some cellB ∧ cellB.vm.isStatics = false ∧ s.vm.findClass C = some cellB.cls := by rw [← hcn]; exact va_recv hK hP hcl he
  intro T hT X
  have hr := va_runV (l := l) (e := e) (below := below) (meth := meth) (As := As) (rest := rest) (n := As.length) (locs := locs) (cells := n1) (slots := n2) (g := F0 m pc ls st0) ⟨hx, hb, hml, hown, hts⟩ (hM H.size) (cwV As.length hts hG hw hrc hrs hd ⟨hR1, hR2⟩) ⟨fun a U g mk q => by obtain ⟨q0, q1, qP, qK, qD, qZ⟩ := q; exact ⟨q0, q1, qP, va_K.moved (u := U) (U := U.calling g mk a) (Vm.Alike.refl U.vm) qK, qD, hzo.2.1 _ U _ _ rfl qZ⟩, hrv, fun U hU hW => ⟨rfl, hpre U hU hW⟩⟩ rfl rfl hl.1 hst (lv_room hrest) d hf
  obtain ⟨v9, st₀, t, T', L, h0, X', hL, e1, e2, ⟨⟨res, w2, hPo, hv, hP1, hD1⟩, hz, hk⟩, stp⟩ := hr T hT X
  cases hv
  rw [h0] at hz hk
  obtain ⟨t2, a1, b1⟩ := k _ w2 hPo T'.heap (locs ++ L) ls (by rw [e1]; exact hP1) (hD1.weaken (fun _ q _ h => hF q.1 h))
    ⟨Nat.le_trans hS.1 (by rw [e1]; exact hz), fun q h1 h2 => by rw [e1, hk q (Nat.lt_of_lt_of_le h1 hS.1) (fun z => h2 (hF q z))]; exact hS.2.1 q h1 h2, fun q hq => by
      rcases List.mem_append.mp hq with h | h
      · exact hS.2.2 q h
      · exact hF _ (hL q h)⟩ hl T' rfl X'
  exact ⟨t2, stp t2 a1, b1⟩
theorem g_callVS (hX : GX κ cy Z cc Ts own rm) (hzo : zOK Z) {y : MethodName} {ws ws2 : List Cond} {rm2 : Room} {bytes : ByteArray} {maxL index mc ms : Nat} {ret : Option FieldType} {Po : Option Value → va_W → Prop} {C : String} {b : Nat} (As rest : List Value) (hrv0 : GRecv κ C b) (hM : GM (Kl κ) (KD κ) cy Z y ws rm2 (.ref b :: As) w Po mc ms) (hG : GoodIn Ts (wsV own index C y ws)) (hw : ws = Cond.code y bytes maxL ret :: ws2) (hrc : rm2.cells = mc) (hrs : rm2.slots = ms) (hd : y.cls = C ∧ y.cls ≠ "java/lang/invoke/MethodHandle" ∧ y.cls ≠ "java/lang/invoke/VarHandle" ∧ (parseMethodDescriptor y.desc).map (fun d => d.parameters.length) = some As.length) (hR1 : rm2.frames + 1 ≤ rm.frames) (hR2 : 8 + (maxL + 11) + rm2.locals ≤ rm.locals) {st0 : List Value} (hst : st0 = As.reverse ++ .ref b :: rest) (hrest : (rest.map fun v => v.category).sum ≤ 8) (hf : n1 + mc ≤ rm.cells ∧ n2 + ms ≤ rm.slots) (d : decode cc pc = .ok (.invokevirtual index, 3)) (k : ∀ (res : Option Value) (w2 : va_W), Po res w2 → GW κ (n1 + mc) (n2 + ms) w2 (pc + 3) lv (res.toList ++ rest)) : GW κ n1 n2 w pc lv st0 := by
  obtain ⟨p, l, e, R, s, m, args, below, meth, c, Q, A, D, cy', nL', Z'⟩ := κ
  obtain ⟨hx, hb, hts, hown, hK, hml, hA, hlk, hR, hcy, hZe, hZ⟩ := hX
  intro H locs ls hP hD hS hl
  subst hR
  subst hcy
  subst hZe
  have hF : ∀ q, va_A w H.size q → A q := fun q h => by
    rcases h with ⟨k9, e9, h⟩ | h
    · exact hD.2 k9 (q, e9) h
    · exact hA q (Nat.le_trans hS.1 h)
  have hpre : ∀ U : State, U.heap = H → s.WarmedH U.vm → U.heap.size = H.size ∧ va_P D vwCl w U.heap ∧ va_K D vwCl (zTy cy') U ∧ va_D (fun _ => True) w ∧ Z' (va_A w H.size) U U.heap := fun U hU hW => by
    refine ⟨by rw [hU], by rw [hU]; exact hP, va_K.moved hW.alike hK, hD.weaken (fun _ _ _ _ => trivial), ?_⟩
    rw [hU]
    exact hzo.1 A _ U H hF (hzo.2.2.1 A s U H hW (hzo.2.2.2 A s s.heap H hS.2.1 hZ))
  have hrv : ∃ cellB : Cell, H[b]? = some cellB ∧ cellB.vm.isStatics = false ∧ s.vm.findClass C = some cellB.cls := hrv0 H locs hS
  intro T hT X
  have hr := va_runV (l := l) (e := e) (below := below) (meth := meth) (As := As) (rest := rest) (n := As.length) (locs := locs) (cells := n1) (slots := n2) (g := F0 m pc ls st0) ⟨hx, hb, hml, hown, hts⟩ (hM H.size) (cwV As.length hts hG hw hrc hrs hd ⟨hR1, hR2⟩) ⟨fun a U g mk q => by obtain ⟨q0, q1, qP, qK, qD, qZ⟩ := q; exact ⟨q0, q1, qP, va_K.moved (u := U) (U := U.calling g mk a) (Vm.Alike.refl U.vm) qK, qD, hzo.2.1 _ U _ _ rfl qZ⟩, hrv, fun U hU hW => ⟨rfl, hpre U hU hW⟩⟩ rfl rfl hl.1 hst (lv_room hrest) d hf
  obtain ⟨v9, st₀, t, T', L, h0, X', hL, e1, e2, ⟨⟨res, w2, hPo, hv, hP1, hD1⟩, hz, hk⟩, stp⟩ := hr T hT X
  cases hv
  rw [h0] at hz hk
  obtain ⟨t2, a1, b1⟩ := k _ w2 hPo T'.heap (locs ++ L) ls (by rw [e1]; exact hP1) (hD1.weaken (fun _ q _ h => hF q.1 h))
    ⟨Nat.le_trans hS.1 (by rw [e1]; exact hz), fun q h1 h2 => by rw [e1, hk q (Nat.lt_of_lt_of_le h1 hS.1) (fun z => h2 (hF q z))]; exact hS.2.1 q h1 h2, fun q hq => by
      rcases List.mem_append.mp hq with h | h
      · exact hS.2.2 q h
      · exact hF _ (hL q h)⟩ hl T' rfl X'
  exact ⟨t2, stp t2 a1, b1⟩
theorem g_callS (hX : GX κ cy Z cc Ts own rm) (hzo : zOK Z) {y : MethodName} {ws ws2 : List Cond} {rm2 : Room} {bytes : ByteArray} {maxL index mc ms : Nat} {ret : Option FieldType} {Po : Option Value → va_W → Prop}  (As rest : List Value)  (hM : GM (Kl κ) (KD κ) cy Z y ws rm2 (As) w Po mc ms) (hG : GoodIn Ts (va_wsS own index y ws)) (hw : ws = Cond.code y bytes maxL ret :: ws2) (hrc : rm2.cells = mc) (hrs : rm2.slots = ms) (hd : y.cls ≠ "java/lang/invoke/MethodHandle" ∧ y.cls ≠ "java/lang/invoke/VarHandle" ∧ (parseMethodDescriptor y.desc).map (fun d => d.parameters.length) = some As.length) (hR1 : rm2.frames + 1 ≤ rm.frames) (hR2 : 8 + (maxL + 11) + rm2.locals ≤ rm.locals) {st0 : List Value} (hst : st0 = As.reverse ++ rest) (hrest : (rest.map fun v => v.category).sum ≤ 8) (hf : n1 + mc ≤ rm.cells ∧ n2 + ms ≤ rm.slots) (d : decode cc pc = .ok (.invokestatic index, 3)) (k : ∀ (res : Option Value) (w2 : va_W), Po res w2 → GW κ (n1 + mc) (n2 + ms) w2 (pc + 3) lv (res.toList ++ rest)) : GW κ n1 n2 w pc lv st0 := by
  obtain ⟨p, l, e, R, s, m, args, below, meth, c, Q, A, D, cy', nL', Z'⟩ := κ
  obtain ⟨hx, hb, hts, hown, hK, hml, hA, hlk, hR, hcy, hZe, hZ⟩ := hX
  intro H locs ls hP hD hS hl
  subst hR
  subst hcy
  subst hZe
  have hF : ∀ q, va_A w H.size q → A q := fun q h => by
    rcases h with ⟨k9, e9, h⟩ | h
    · exact hD.2 k9 (q, e9) h
    · exact hA q (Nat.le_trans hS.1 h)
  have hpre : ∀ U : State, U.heap = H → s.WarmedH U.vm → U.heap.size = H.size ∧ va_P D vwCl w U.heap ∧ va_K D vwCl (zTy cy') U ∧ va_D (fun _ => True) w ∧ Z' (va_A w H.size) U U.heap := fun U hU hW => by
    refine ⟨by rw [hU], by rw [hU]; exact hP, va_K.moved hW.alike hK, hD.weaken (fun _ _ _ _ => trivial), ?_⟩
    rw [hU]
    exact hzo.1 A _ U H hF (hzo.2.2.1 A s U H hW (hzo.2.2.2 A s s.heap H hS.2.1 hZ))
  intro T hT X
  have hr := va_runS (l := l) (e := e) (below := below) (meth := meth) (As := As) (rest := rest) (n := As.length) (locs := locs) (cells := n1) (slots := n2) (g := F0 m pc ls st0) ⟨hx, hb, hml, hown, hts⟩ (hM H.size) (va_cwS As.length hts hG hw hrc hrs hd ⟨hR1, hR2⟩) ⟨fun a U g mk q => by obtain ⟨q0, q1, qP, qK, qD, qZ⟩ := q; exact ⟨q0, q1, qP, va_K.moved (u := U) (U := U.calling g mk a) (Vm.Alike.refl U.vm) qK, qD, hzo.2.1 _ U _ _ rfl qZ⟩, fun U hU hW => ⟨rfl, hpre U hU hW⟩⟩ rfl rfl hl.1 hst (lv_room hrest) d hf
  obtain ⟨v9, st₀, t, T', L, h0, X', hL, e1, e2, ⟨⟨res, w2, hPo, hv, hP1, hD1⟩, hz, hk⟩, stp⟩ := hr T hT X
  cases hv
  rw [h0] at hz hk
  obtain ⟨t2, a1, b1⟩ := k _ w2 hPo T'.heap (locs ++ L) ls (by rw [e1]; exact hP1) (hD1.weaken (fun _ q _ h => hF q.1 h))
    ⟨Nat.le_trans hS.1 (by rw [e1]; exact hz), fun q h1 h2 => by rw [e1, hk q (Nat.lt_of_lt_of_le h1 hS.1) (fun z => h2 (hF q z))]; exact hS.2.1 q h1 h2, fun q hq => by
      rcases List.mem_append.mp hq with h | h
      · exact hS.2.2 q h
      · exact hF _ (hL q h)⟩ hl T' rfl X'
  exact ⟨t2, stp t2 a1, b1⟩
end GG
