def bI (b : Bool) : Int32 := if b then 1 else 0
theorem bI_t : bI true = 1 := rfl
theorem bI_f : bI false = 0 := rfl
theorem bI_ne {b : Bool} (h : ¬ bI b = 0) : b = true := by cases b with | false => exact absurd rfl h | true => rfl
theorem bI_eq {b : Bool} (h : bI b = 0) : b = false := by cases b with | false => rfl | true => exact absurd h (by decide)
theorem bI_nar (b : Bool) : narrow .boolean (.int (bI b)) = .int (bI b) := by cases b <;> rfl
theorem bI_one (b : Bool) (h : b = true) : (1 : Int32) = bI b := by rw [h]; rfl
theorem bI_zero (b : Bool) (h : b = false) : (0 : Int32) = bI b := by rw [h]; rfl
/-- the row j of the family becomes f -/
def mU (r : Nat → Nat → Int32) (j : Nat) (f : Nat → Int32) : Nat → Nat → Int32 := fun k => if k = j then f else r k
theorem mU_s (r : Nat → Nat → Int32) (j : Nat) (f : Nat → Int32) : mU r j f j = f := by simp [mU]
theorem mU_n (r : Nat → Nat → Int32) {j k : Nat} (f : Nat → Int32) (h : k ≠ j) : mU r j f k = r k := by simp [mU, h]
theorem mU_mU (r : Nat → Nat → Int32) (j : Nat) (f g : Nat → Int32) : mU (mU r j f) j g = mU r j g := by funext k; by_cases h : k = j <;> simp [mU, h]
theorem mU_self (r : Nat → Nat → Int32) (j : Nat) : mU r j (r j) = r := by funext k; by_cases h : k = j <;> simp [mU, h]
def mF (a : Nat → Nat) (v : Nat → Int32) : List Value := [.ref (a 0), .ref (a 1), .ref (a 2), .int (v 3), .ref (a 4), .ref (a 5), .ref (a 6), .ref (a 7), .ref (a 8), .ref (a 9), .ref (a 10), .ref (a 11), .ref (a 12), .ref (a 13), .ref (a 14), .ref (a 15), .int (v 16), .int (v 17), .int (v 18), .int (v 19), .int (v 20), .int (v 21), .int (v 22), .int (v 23), .int (v 24), .int (v 25), .int (v 26), .ref (a 27), .ref (a 28), .ref (a 29), .ref (a 30), .int (v 31), .ref (a 32)]
def mN : Nat → Nat := fun j => match j with
  | 0 => 3069
  | 1 => 3069
  | 2 => 3069
  | 4 => 4
  | 5 => 4
  | 6 => 96
  | 7 => 5
  | 8 => 5
  | 9 => 5
  | 10 => 5
  | 11 => 120
  | 12 => 9
  | 13 => 9
  | 14 => 69
  | 15 => 96
  | 27 => 128
  | 28 => 100
  | 29 => 24
  | 30 => 60
  | 32 => 60
  | _ => 0
def mA (j : Nat) : Bool := [1, 2, 4, 5, 6, 7, 8, 9, 10, 11, 14, 15, 29, 30, 32].contains j
/-- scratch rows: nobody asks what they hold between calls -/
def mB (j : Nat) : Bool := [12, 13, 27, 28].contains j
def mI (j : Nat) : Bool := [3, 16, 17, 18, 19, 20, 21, 22, 23, 24, 25, 26, 31].contains j
/-- C is a family of worlds that hold the reference at h0: its object at the place q 33, its row j at the place q j -/
def mLens (cI : ClassId) (h0 : Nat) (a q : Nat → Nat) (C : (Nat → Int32) → (Nat → Int32) → (Nat → Nat → Int32) → (Nat → Nat → Int32) → va_W) : Prop :=
  (∀ v s r x, (C v s r x)[q 33]? = some (h0, .inr (7, mF a v))) ∧ (∀ v s r x k y, mI k = true → (C v s r x).set (q 33) (h0, .inr (7, (mF a v).set k (.int y))) = C (upd v k y) s r x) ∧
  (∀ v s r x j, mA j = true → (C v s r x)[q j]? = some (a j, .inl (cI, mN j, .inl (r j)))) ∧ (∀ v s r x j f, mA j = true → (C v s r x).set (q j) (a j, .inl (cI, mN j, .inl f)) = C v s (mU r j f) x) ∧
  (∀ v s r x j, mB j = true → (C v s r x)[q j]? = some (a j, .inl (cI, mN j, .inl (x j)))) ∧ (∀ v s r x j f, mB j = true → (C v s r x).set (q j) (a j, .inl (cI, mN j, .inl f)) = C v s r (mU x j f)) ∧
  (∀ v s r x, (C v s r x)[q 0]? = some (a 0, .inl (cI, 3069, .inl s))) ∧ (∀ v s r x f, (C v s r x).set (q 0) (a 0, .inl (cI, 3069, .inl f)) = C v f r x)
theorem m_ref : ∀ k : Nat, (TX7 k).1 = "LeaningStreetModel" := by intro k; unfold TX7; split <;> rfl
/-- what a caller needs of a callee beside its contract -/
def mKV (C : String) (y : MethodName) (c : ByteArray) (n : Nat) (r : Option FieldType) (na : Nat) : Prop := Cond.instanceMethod y ∈ lw_tbl ∧ Cond.selects C y y ∈ lw_tbl ∧ Cond.initialized C ∈ lw_tbl ∧ Cond.code y c n r ∈ lw_tbl ∧ (y.cls = C ∧ y.cls ≠ "java/lang/invoke/MethodHandle" ∧ y.cls ≠ "java/lang/invoke/VarHandle" ∧ (parseMethodDescriptor y.desc).map (fun d => d.parameters.length) = some na)
def mKS (y : MethodName) (c : ByteArray) (n : Nat) (r : Option FieldType) (na : Nat) : Prop := Cond.static y ∈ lw_tbl ∧ Cond.initialized y.cls ∈ lw_tbl ∧ Cond.code y c n r ∈ lw_tbl ∧ (y.cls ≠ "java/lang/invoke/MethodHandle" ∧ y.cls ≠ "java/lang/invoke/VarHandle" ∧ (parseMethodDescriptor y.desc).map (fun d => d.parameters.length) = some na)
section MM
variable {κ : GC} {cy : Nat → ClassId} {Z : (Nat → Prop) → State → Heap → Prop} {cc : ByteArray} {w0 : Cond} {rm : Room} {n1 n2 : Nat} {pc : Nat} {lv : List (Nat × Value)} {st : List Value} {h0 : Nat} {a q : Nat → Nat} {C : (Nat → Int32) → (Nat → Int32) → (Nat → Nat → Int32) → (Nat → Nat → Int32) → va_W} {v s : Nat → Int32} {r x : Nat → Nat → Int32}
theorem m_getA (hX : GX κ cy Z cc (w0 :: zT) RX7 rm) (hC : mLens (cy 0) h0 a q C) (j : Nat) (hj : j < 33) {index : Nat} (hv : (mF a v)[j]? = some (.ref (a j))) (hl : Cond.fieldLink RX7 index "LeaningStreetModel" (TX7 j).2.1 (TX7 j).2.2.1 ∈ lw_tbl) (d : decode cc pc = .ok (.getfield index, 3)) (k : GW κ n1 n2 (C v s r x) (pc + 3) lv (.ref (a j) :: st)) : GW κ n1 n2 (C v s r x) pc lv (.ref h0 :: st) := g_get hX 7 (q 33) j zin_X7 (hC.1 v s r x) rfl hj (zu hl rfl) (m_ref j) hv d k
theorem m_getI (hX : GX κ cy Z cc (w0 :: zT) RX7 rm) (hC : mLens (cy 0) h0 a q C) (j : Nat) (hj : j < 33) {index : Nat} {z : Int32} (hv : (mF a v)[j]? = some (.int z)) (hl : Cond.fieldLink RX7 index "LeaningStreetModel" (TX7 j).2.1 (TX7 j).2.2.1 ∈ lw_tbl) (d : decode cc pc = .ok (.getfield index, 3)) (k : GW κ n1 n2 (C v s r x) (pc + 3) lv (.int z :: st)) : GW κ n1 n2 (C v s r x) pc lv (.ref h0 :: st) := g_get hX 7 (q 33) j zin_X7 (hC.1 v s r x) rfl hj (zu hl rfl) (m_ref j) hv d k
theorem m_putI (hX : GX κ cy Z cc (w0 :: zT) RX7 rm) (hC : mLens (cy 0) h0 a q C) (j : Nat) (hj : j < 33) (hI : mI j = true) {index : Nat} {z : Int32} {ty : FieldType} (hfin : (TX7 j).2.2.2 = false) (hd : parseFieldDescriptor (TX7 j).2.2.1 = some ty) (hn : narrow ty (.int z) = .int z) (hfit : fits ty (.int z) = true) (hl : Cond.fieldLink RX7 index "LeaningStreetModel" (TX7 j).2.1 (TX7 j).2.2.1 ∈ lw_tbl) (d : decode cc pc = .ok (.putfield index, 3)) (k : GW κ n1 n2 (C (upd v j z) s r x) (pc + 3) lv st) : GW κ n1 n2 (C v s r x) pc lv (.int z :: .ref h0 :: st) := g_put hX 7 (q 33) j zin_X7 tyX7 tyX7_ok nmX7 (hC.1 v s r x) rfl hj (zu hl rfl) (m_ref j) hfin hd hn hfit hj (hC.2.1 v s r x j z hI) d k
theorem m_ald (hX : GX κ cy Z cc (w0 :: zT) RX7 rm) (hC : mLens (cy 0) h0 a q C) (j : Nat) (hA : mA j = true) {i : Int32} (hi : vp_in i (mN j)) (d : decode cc pc = .ok (.iaload, 1)) (k : GW κ n1 n2 (C v s r x) (pc + 1) lv (.int (r j i.toNatClampNeg) :: st)) : GW κ n1 n2 (C v s r x) pc lv (.int i :: .ref (a j) :: st) := g_ald hX (q j) (hC.2.2.1 v s r x j hA) hi d k
theorem m_aldN (hX : GX κ cy Z cc (w0 :: zT) RX7 rm) (hC : mLens (cy 0) h0 a q C) (j : Nat) (hA : mA j = true) {i : Nat} (hi : i < mN j) (hN : mN j < 2 ^ 31) (d : decode cc pc = .ok (.iaload, 1)) (k : GW κ n1 n2 (C v s r x) (pc + 1) lv (.int (r j i) :: st)) : GW κ n1 n2 (C v s r x) pc lv (.int (nI i) :: .ref (a j) :: st) := m_ald hX hC j hA (vp_in_nI hi hN) d (by rw [nI_clamp (Nat.lt_trans hi hN)]; exact k)
theorem m_ast (hX : GX κ cy Z cc (w0 :: zT) RX7 rm) (hC : mLens (cy 0) h0 a q C) (j : Nat) (hA : mA j = true) {i z : Int32} (hi : vp_in i (mN j)) (d : decode cc pc = .ok (.iastore, 1)) (k : GW κ n1 n2 (C v s (mU r j (upd (r j) i.toNatClampNeg z)) x) (pc + 1) lv st) : GW κ n1 n2 (C v s r x) pc lv (.int z :: .int i :: .ref (a j) :: st) := g_ast hX (q j) (hC.2.2.1 v s r x j hA) hi (hC.2.2.2.1 v s r x j _ hA) d k
theorem m_astN (hX : GX κ cy Z cc (w0 :: zT) RX7 rm) (hC : mLens (cy 0) h0 a q C) (j : Nat) (hA : mA j = true) {i : Nat} {z : Int32} (hi : i < mN j) (hN : mN j < 2 ^ 31) (d : decode cc pc = .ok (.iastore, 1)) (k : GW κ n1 n2 (C v s (mU r j (upd (r j) i z)) x) (pc + 1) lv st) : GW κ n1 n2 (C v s r x) pc lv (.int z :: .int (nI i) :: .ref (a j) :: st) := m_ast hX hC j hA (vp_in_nI hi hN) d (by rw [nI_clamp (Nat.lt_trans hi hN)]; exact k)
theorem mb_ald (hX : GX κ cy Z cc (w0 :: zT) RX7 rm) (hC : mLens (cy 0) h0 a q C) (j : Nat) (hB : mB j = true) {i : Int32} (hi : vp_in i (mN j)) (d : decode cc pc = .ok (.iaload, 1)) (k : GW κ n1 n2 (C v s r x) (pc + 1) lv (.int (x j i.toNatClampNeg) :: st)) : GW κ n1 n2 (C v s r x) pc lv (.int i :: .ref (a j) :: st) := g_ald hX (q j) (hC.2.2.2.2.1 v s r x j hB) hi d k
theorem mb_aldN (hX : GX κ cy Z cc (w0 :: zT) RX7 rm) (hC : mLens (cy 0) h0 a q C) (j : Nat) (hB : mB j = true) {i : Nat} (hi : i < mN j) (hN : mN j < 2 ^ 31) (d : decode cc pc = .ok (.iaload, 1)) (k : GW κ n1 n2 (C v s r x) (pc + 1) lv (.int (x j i) :: st)) : GW κ n1 n2 (C v s r x) pc lv (.int (nI i) :: .ref (a j) :: st) := mb_ald hX hC j hB (vp_in_nI hi hN) d (by rw [nI_clamp (Nat.lt_trans hi hN)]; exact k)
theorem mb_ast (hX : GX κ cy Z cc (w0 :: zT) RX7 rm) (hC : mLens (cy 0) h0 a q C) (j : Nat) (hB : mB j = true) {i z : Int32} (hi : vp_in i (mN j)) (d : decode cc pc = .ok (.iastore, 1)) (k : GW κ n1 n2 (C v s r (mU x j (upd (x j) i.toNatClampNeg z))) (pc + 1) lv st) : GW κ n1 n2 (C v s r x) pc lv (.int z :: .int i :: .ref (a j) :: st) := g_ast hX (q j) (hC.2.2.2.2.1 v s r x j hB) hi (hC.2.2.2.2.2.1 v s r x j _ hB) d k
theorem mb_astN (hX : GX κ cy Z cc (w0 :: zT) RX7 rm) (hC : mLens (cy 0) h0 a q C) (j : Nat) (hB : mB j = true) {i : Nat} {z : Int32} (hi : i < mN j) (hN : mN j < 2 ^ 31) (d : decode cc pc = .ok (.iastore, 1)) (k : GW κ n1 n2 (C v s r (mU x j (upd (x j) i z))) (pc + 1) lv st) : GW κ n1 n2 (C v s r x) pc lv (.int z :: .int (nI i) :: .ref (a j) :: st) := mb_ast hX hC j hB (vp_in_nI hi hN) d (by rw [nI_clamp (Nat.lt_trans hi hN)]; exact k)
theorem m0_ald (hX : GX κ cy Z cc (w0 :: zT) RX7 rm) (hC : mLens (cy 0) h0 a q C) {i : Int32} (hi : vp_in i 3069) (d : decode cc pc = .ok (.iaload, 1)) (k : GW κ n1 n2 (C v s r x) (pc + 1) lv (.int (s i.toNatClampNeg) :: st)) : GW κ n1 n2 (C v s r x) pc lv (.int i :: .ref (a 0) :: st) := g_ald hX (q 0) (hC.2.2.2.2.2.2.1 v s r x) hi d k
theorem m0_aldN (hX : GX κ cy Z cc (w0 :: zT) RX7 rm) (hC : mLens (cy 0) h0 a q C) {i : Nat} (hi : i < 3069) (d : decode cc pc = .ok (.iaload, 1)) (k : GW κ n1 n2 (C v s r x) (pc + 1) lv (.int (s i) :: st)) : GW κ n1 n2 (C v s r x) pc lv (.int (nI i) :: .ref (a 0) :: st) := m0_ald hX hC (vp_in_nI hi (by decide)) d (by rw [nI_clamp (Nat.lt_trans hi (by decide))]; exact k)
theorem m0_ast (hX : GX κ cy Z cc (w0 :: zT) RX7 rm) (hC : mLens (cy 0) h0 a q C) {i z : Int32} (hi : vp_in i 3069) (d : decode cc pc = .ok (.iastore, 1)) (k : GW κ n1 n2 (C v (upd s i.toNatClampNeg z) r x) (pc + 1) lv st) : GW κ n1 n2 (C v s r x) pc lv (.int z :: .int i :: .ref (a 0) :: st) := g_ast hX (q 0) (hC.2.2.2.2.2.2.1 v s r x) hi (hC.2.2.2.2.2.2.2 v s r x _) d k
theorem m0_astN (hX : GX κ cy Z cc (w0 :: zT) RX7 rm) (hC : mLens (cy 0) h0 a q C) {i : Nat} {z : Int32} (hi : i < 3069) (d : decode cc pc = .ok (.iastore, 1)) (k : GW κ n1 n2 (C v (upd s i z) r x) (pc + 1) lv st) : GW κ n1 n2 (C v s r x) pc lv (.int z :: .int (nI i) :: .ref (a 0) :: st) := m0_ast hX hC (vp_in_nI hi (by decide)) d (by rw [nI_clamp (Nat.lt_trans hi (by decide))]; exact k)
theorem m_call (hX : GX κ cy Z cc (w0 :: zT) RX7 rm) (hzo : zOK Z) (hC : mLens (cy 0) h0 a q C) {y : MethodName} {cb : ByteArray} {nl : Nat} {rt : Option FieldType} {rm2 : Room} {index : Nat} {Po : Option Value → va_W → Prop} (As rest : List Value) (hM : GM (Kl κ) (KD κ) cy Z y (zW y cb nl rt) rm2 (.ref h0 :: As) (C v s r x) Po 0 0) (hk : mKV RX7 y cb nl rt As.length) (h1 : Cond.methodLink RX7 index y ∈ lw_tbl) (hrc : rm2.cells = 0) (hrs : rm2.slots = 0) (hR1 : rm2.frames + 1 ≤ rm.frames) (hR2 : 8 + (nl + 11) + rm2.locals ≤ rm.locals) (hf : n1 + 0 ≤ rm.cells ∧ n2 + 0 ≤ rm.slots) {st0 : List Value} (hst : st0 = As.reverse ++ .ref h0 :: rest) (hrest : (rest.map fun v => v.category).sum ≤ 8) (d : decode cc pc = .ok (.invokevirtual index, 3)) (k : ∀ (res : Option Value) (w2 : va_W), Po res w2 → GW κ n1 n2 w2 (pc + 3) lv (res.toList ++ rest)) : GW κ n1 n2 (C v s r x) pc lv st0 :=
  g_callV hX hzo As rest 7 (q 33) (qc := (RX7, TX7, 33)) rfl rfl (hC.1 v s r x) hM (z_V h1 hk.1 hk.2.1 hk.2.2.1 hk.2.2.2.1) rfl hrc hrs hk.2.2.2.2 hR1 hR2 hst hrest hf d k
theorem m_callD (hX : GX κ cy Z cc (w0 :: zT) RX7 rm) (hzo : zOK Z) (hC : mLens (cy 0) h0 a q C) {y : MethodName} {cb : ByteArray} {nl : Nat} {rt : Option FieldType} {rm2 : Room} {index : Nat} {res : Option Value} {w2 : va_W} (As rest : List Value) (hM : GD (Kl κ) (KD κ) cy Z y (zW y cb nl rt) rm2 (.ref h0 :: As) (C v s r x) res w2 0 0) (hk : mKV RX7 y cb nl rt As.length) (h1 : Cond.methodLink RX7 index y ∈ lw_tbl) (hrc : rm2.cells = 0) (hrs : rm2.slots = 0) (hR1 : rm2.frames + 1 ≤ rm.frames) (hR2 : 8 + (nl + 11) + rm2.locals ≤ rm.locals) (hf : n1 + 0 ≤ rm.cells ∧ n2 + 0 ≤ rm.slots) {st0 st1 : List Value} (hst : st0 = As.reverse ++ .ref h0 :: rest) (hst1 : res.toList ++ rest = st1) (hrest : (rest.map fun v => v.category).sum ≤ 8) (d : decode cc pc = .ok (.invokevirtual index, 3)) (k : GW κ n1 n2 w2 (pc + 3) lv st1) : GW κ n1 n2 (C v s r x) pc lv st0 := by
  refine m_call hX hzo hC As rest hM hk h1 hrc hrs hR1 hR2 hf hst hrest d ?_
  rintro res' w' ⟨rfl, rfl⟩
  rw [hst1]
  exact k
end MM
/-- a static method's call, the world as it is -/
theorem s_call {κ : GC} {cy : Nat → ClassId} {Z : (Nat → Prop) → State → Heap → Prop} {cc : ByteArray} {w0 : Cond} {own : String} {rm : Room} {n1 n2 : Nat} {pc : Nat} {lv : List (Nat × Value)} {w : va_W} (hX : GX κ cy Z cc (w0 :: zT) own rm) (hzo : zOK Z) {y : MethodName} {cb : ByteArray} {nl : Nat} {rt : Option FieldType} {rm2 : Room} {index : Nat} {res : Option Value} (As rest : List Value) (hM : GD (Kl κ) (KD κ) cy Z y (zW y cb nl rt) rm2 As w res w 0 0) (hk : mKS y cb nl rt As.length) (h1 : Cond.methodLink own index y ∈ lw_tbl) (hrc : rm2.cells = 0) (hrs : rm2.slots = 0) (hR1 : rm2.frames + 1 ≤ rm.frames) (hR2 : 8 + (nl + 11) + rm2.locals ≤ rm.locals) (hf : n1 + 0 ≤ rm.cells ∧ n2 + 0 ≤ rm.slots) {st0 st1 : List Value} (hst : st0 = As.reverse ++ rest) (hst1 : res.toList ++ rest = st1) (hrest : (rest.map fun v => v.category).sum ≤ 8) (d : decode cc pc = .ok (.invokestatic index, 3)) (k : GW κ n1 n2 w (pc + 3) lv st1) : GW κ n1 n2 w pc lv st0 := by
  refine g_callS hX hzo As rest hM (z_S h1 hk.1 hk.2.1 hk.2.2.1) rfl hrc hrs hk.2.2.2 hR1 hR2 hst hrest hf d ?_
  rintro res' w' ⟨rfl, rfl⟩
  rw [hst1]
  exact k
section NN
variable {κ : GC} {cy : Nat → ClassId} {Z : (Nat → Prop) → State → Heap → Prop} {cc : ByteArray} {Ts : List Cond} {own : String} {rm : Room} {n1 n2 : Nat} {w : va_W} {pc : Nat} {lv : List (Nat × Value)} {st : List Value}
theorem g_iaddN (hX : GX κ cy Z cc Ts own rm) {x y : Nat} (d : decode cc pc = .ok (.iadd, 1)) (k : GW κ n1 n2 w (pc + 1) lv (.int (nI (x + y)) :: st)) : GW κ n1 n2 w pc lv (.int (nI y) :: .int (nI x) :: st) := g_iadd hX d (by rw [nI_add]; exact k)
theorem g_imulN (hX : GX κ cy Z cc Ts own rm) {x y : Nat} (d : decode cc pc = .ok (.imul, 1)) (k : GW κ n1 n2 w (pc + 1) lv (.int (nI (x * y)) :: st)) : GW κ n1 n2 w pc lv (.int (nI y) :: .int (nI x) :: st) := g_imul hX d (by rw [pk_mul]; exact k)
theorem g_isubN (hX : GX κ cy Z cc Ts own rm) {x y : Nat} (h : y ≤ x) (d : decode cc pc = .ok (.isub, 1)) (k : GW κ n1 n2 w (pc + 1) lv (.int (nI (x - y)) :: st)) : GW κ n1 n2 w pc lv (.int (nI y) :: .int (nI x) :: st) := g_isub hX d (by rw [pk_sub h]; exact k)
theorem g_iincN (hX : GX κ cy Z cc Ts own rm) {n x : Nat} {lv2 : List (Nat × Value)} (i j nL : Nat) (hn : GN κ nL) (hl0 : lv[i]? = some (j, .int (nI x))) (hj : j < nL) (h2 : (j, Value.int (nI (x + n))) :: lv.filter (fun q => !(q.1 == j) && !(q.1 + 1 == j && q.2.category == 2)) = lv2) (d : decode cc pc = .ok (.iinc j (n : Int), 3)) (k : GW κ n1 n2 w (pc + 3) lv2 st) : GW κ n1 n2 w pc lv st := g_iinc hX i j nL hn hl0 (by rw [show Int32.ofInt (n : Int) = nI n from Int32.ofInt_eq_ofNat]; exact nI_add x n) hj h2 d k
theorem g_ifb_eq (hX : GX κ cy Z cc Ts own rm) {b : Bool} {off : Int} (tgt : Nat) (ht : (pc : Int) + off = (tgt : Int)) (d : decode cc pc = .ok (.ifCond .eq off, 3)) (kt : b = false → GW κ n1 n2 w tgt lv st) (kf : b = true → GW κ n1 n2 w (pc + 3) lv st) : GW κ n1 n2 w pc lv (.int (bI b) :: st) := g_if_eq hX tgt ht d (fun h => kt (bI_eq h)) (fun h => kf (bI_ne h))
theorem g_ifb_ne (hX : GX κ cy Z cc Ts own rm) {b : Bool} {off : Int} (tgt : Nat) (ht : (pc : Int) + off = (tgt : Int)) (d : decode cc pc = .ok (.ifCond .ne off, 3)) (kt : b = true → GW κ n1 n2 w tgt lv st) (kf : b = false → GW κ n1 n2 w (pc + 3) lv st) : GW κ n1 n2 w pc lv (.int (bI b) :: st) := g_if_ne hX tgt ht d (fun h => kt (bI_ne h)) (fun h => kf (bI_eq h))
theorem g_icmpN_eq (hX : GX κ cy Z cc Ts own rm) {x y : Nat} (hx : x < 2147483648) (hy : y < 2147483648) {off : Int} (tgt : Nat) (ht : (pc : Int) + off = (tgt : Int)) (d : decode cc pc = .ok (.if_icmp .eq off, 3)) (kt : x = y → GW κ n1 n2 w tgt lv st) (kf : ¬ x = y → GW κ n1 n2 w (pc + 3) lv st) : GW κ n1 n2 w pc lv (.int (nI y) :: .int (nI x) :: st) := g_icmp_eq hX tgt ht d (fun h => kt ((nI_eq hx hy).mp h)) (fun h => kf (fun z => h ((nI_eq hx hy).mpr z)))
theorem g_icmpN_ne (hX : GX κ cy Z cc Ts own rm) {x y : Nat} (hx : x < 2147483648) (hy : y < 2147483648) {off : Int} (tgt : Nat) (ht : (pc : Int) + off = (tgt : Int)) (d : decode cc pc = .ok (.if_icmp .ne off, 3)) (kt : ¬ x = y → GW κ n1 n2 w tgt lv st) (kf : x = y → GW κ n1 n2 w (pc + 3) lv st) : GW κ n1 n2 w pc lv (.int (nI y) :: .int (nI x) :: st) := g_icmp_ne hX tgt ht d (fun h => kt (fun z => h ((nI_eq hx hy).mpr z))) (fun h => kf ((nI_eq hx hy).mp h))
theorem g_icmpN_lt (hX : GX κ cy Z cc Ts own rm) {x y : Nat} (hx : x < 2147483648) (hy : y < 2147483648) {off : Int} (tgt : Nat) (ht : (pc : Int) + off = (tgt : Int)) (d : decode cc pc = .ok (.if_icmp .lt off, 3)) (kt : x < y → GW κ n1 n2 w tgt lv st) (kf : y ≤ x → GW κ n1 n2 w (pc + 3) lv st) : GW κ n1 n2 w pc lv (.int (nI y) :: .int (nI x) :: st) := g_icmp_lt hX tgt ht d (fun h => kt ((nI_ltI hx hy).mp h)) (fun h => kf (Nat.not_lt.mp (fun z => h ((nI_ltI hx hy).mpr z))))
theorem g_icmpN_ge (hX : GX κ cy Z cc Ts own rm) {x y : Nat} (hx : x < 2147483648) (hy : y < 2147483648) {off : Int} (tgt : Nat) (ht : (pc : Int) + off = (tgt : Int)) (d : decode cc pc = .ok (.if_icmp .ge off, 3)) (kt : y ≤ x → GW κ n1 n2 w tgt lv st) (kf : x < y → GW κ n1 n2 w (pc + 3) lv st) : GW κ n1 n2 w pc lv (.int (nI y) :: .int (nI x) :: st) := g_icmp_ge hX tgt ht d (fun h => kt ((nI_leI hy hx).mp h)) (fun h => kf (Nat.not_le.mp (fun z => h ((nI_leI hy hx).mpr z))))
theorem g_icmpN_gt (hX : GX κ cy Z cc Ts own rm) {x y : Nat} (hx : x < 2147483648) (hy : y < 2147483648) {off : Int} (tgt : Nat) (ht : (pc : Int) + off = (tgt : Int)) (d : decode cc pc = .ok (.if_icmp .gt off, 3)) (kt : y < x → GW κ n1 n2 w tgt lv st) (kf : x ≤ y → GW κ n1 n2 w (pc + 3) lv st) : GW κ n1 n2 w pc lv (.int (nI y) :: .int (nI x) :: st) := g_icmp_gt hX tgt ht d (fun h => kt ((nI_ltI hy hx).mp h)) (fun h => kf (Nat.not_lt.mp (fun z => h ((nI_ltI hy hx).mpr z))))
theorem g_icmpN_le (hX : GX κ cy Z cc Ts own rm) {x y : Nat} (hx : x < 2147483648) (hy : y < 2147483648) {off : Int} (tgt : Nat) (ht : (pc : Int) + off = (tgt : Int)) (d : decode cc pc = .ok (.if_icmp .le off, 3)) (kt : x ≤ y → GW κ n1 n2 w tgt lv st) (kf : y < x → GW κ n1 n2 w (pc + 3) lv st) : GW κ n1 n2 w pc lv (.int (nI y) :: .int (nI x) :: st) := g_icmp_le hX tgt ht d (fun h => kt ((nI_leI hx hy).mp h)) (fun h => kf (Nat.not_le.mp (fun z => h ((nI_leI hx hy).mpr z))))
theorem g_ifN_eq (hX : GX κ cy Z cc Ts own rm) {x : Nat} (hx : x < 2147483648) {off : Int} (tgt : Nat) (ht : (pc : Int) + off = (tgt : Int)) (d : decode cc pc = .ok (.ifCond .eq off, 3)) (kt : x = 0 → GW κ n1 n2 w tgt lv st) (kf : ¬ x = 0 → GW κ n1 n2 w (pc + 3) lv st) : GW κ n1 n2 w pc lv (.int (nI x) :: st) := g_if_eq hX tgt ht d (fun h => kt ((nI_eq hx (by decide)).mp (h.trans nI_0.symm))) (fun h => kf (fun z => h (by rw [z]; exact nI_0)))
theorem g_ifN_ne (hX : GX κ cy Z cc Ts own rm) {x : Nat} (hx : x < 2147483648) {off : Int} (tgt : Nat) (ht : (pc : Int) + off = (tgt : Int)) (d : decode cc pc = .ok (.ifCond .ne off, 3)) (kt : ¬ x = 0 → GW κ n1 n2 w tgt lv st) (kf : x = 0 → GW κ n1 n2 w (pc + 3) lv st) : GW κ n1 n2 w pc lv (.int (nI x) :: st) := g_if_ne hX tgt ht d (fun h => kt (fun z => h (by rw [z]; exact nI_0))) (fun h => kf ((nI_eq hx (by decide)).mp (h.trans nI_0.symm)))
theorem g_ifN_lt (hX : GX κ cy Z cc Ts own rm) {x : Nat} (hx : x < 2147483648) {off : Int} (tgt : Nat) (ht : (pc : Int) + off = (tgt : Int)) (d : decode cc pc = .ok (.ifCond .lt off, 3)) (kf : GW κ n1 n2 w (pc + 3) lv st) : GW κ n1 n2 w pc lv (.int (nI x) :: st) := g_if_lt hX tgt ht d (fun h => absurd h (nI_pos hx)) (fun _ => kf)
theorem g_ifN_ge (hX : GX κ cy Z cc Ts own rm) {x : Nat} (hx : x < 2147483648) {off : Int} (tgt : Nat) (ht : (pc : Int) + off = (tgt : Int)) (d : decode cc pc = .ok (.ifCond .ge off, 3)) (kt : GW κ n1 n2 w tgt lv st) : GW κ n1 n2 w pc lv (.int (nI x) :: st) := g_if_ge hX tgt ht d (fun _ => kt) (fun h => absurd (nI_pos' hx) h)
theorem sw_in (z : Int32) (lo hi : Nat) (h : hi < 2147483648) : (z.toInt < (lo : Int) ∨ (hi : Int) < z.toInt) ∨ ∃ j : Nat, lo ≤ j ∧ j ≤ hi ∧ z = nI j := by
  by_cases h1 : z.toInt < (lo : Int)
  · exact Or.inl (Or.inl h1)
  · by_cases h2 : (hi : Int) < z.toInt
    · exact Or.inl (Or.inr h2)
    · refine Or.inr ⟨z.toInt.toNat, by omega, by omega, ?_⟩
      apply Int32.toInt_inj.mp
      rw [nI_toInt (by omega)]
      omega
theorem sw_out {z : Int32} {lo hi : Int} (h : z.toInt < lo ∨ hi < z.toInt) (j : Nat) (h1 : lo ≤ j) (h2 : (j : Int) ≤ hi) (h3 : j < 2147483648) : ¬ z = nI j := by
  intro e
  rw [e, nI_toInt h3] at h
  omega
theorem g_reti {mc ms : Nat} {res : Int32} {w2 : va_W} (hR : GR κ cc mc ms (some .int) (fun x y => x = some (.int res) ∧ y = w2)) {x : Int32} (hx : x = res) (hw : w = w2) (d : decode cc pc = .ok (.ireturn, 1)) : GW κ mc ms w pc lv [.int x] := by subst hx; subst hw; exact (hR _ _ ⟨rfl, rfl⟩).1 .int x pc lv rfl rfl rfl d
theorem g_retz {mc ms : Nat} {res : Bool} {w2 : va_W} (hR : GR κ cc mc ms (some .boolean) (fun x y => x = some (.int (bI res)) ∧ y = w2)) {x : Int32} (hx : x = bI res) (hw : w = w2) (d : decode cc pc = .ok (.ireturn, 1)) : GW κ mc ms w pc lv [.int x] := by subst hx; subst hw; exact (hR _ _ ⟨rfl, rfl⟩).1 .boolean _ pc lv rfl rfl (bI_nar res) d
theorem g_retv {mc ms : Nat} {w2 : va_W} (hR : GR κ cc mc ms none (fun x y => x = none ∧ y = w2)) (hw : w = w2) (d : decode cc pc = .ok (.return_, 1)) : GW κ mc ms w pc lv [] := by subst hw; exact (hR _ _ ⟨rfl, rfl⟩).2.1 pc lv rfl rfl d
theorem g_retiP {mc ms : Nat} {Po : Option Value → va_W → Prop} (hR : GR κ cc mc ms (some .int) Po) {x : Int32} (hx : Po (some (.int x)) w) (d : decode cc pc = .ok (.ireturn, 1)) : GW κ mc ms w pc lv [.int x] := (hR _ _ hx).1 .int x pc lv rfl rfl rfl d
theorem g_retzP {mc ms : Nat} {Po : Option Value → va_W → Prop} (hR : GR κ cc mc ms (some .boolean) Po) {x : Bool} (hx : Po (some (.int (bI x))) w) (d : decode cc pc = .ok (.ireturn, 1)) : GW κ mc ms w pc lv [.int (bI x)] := (hR _ _ hx).1 .boolean _ pc lv rfl rfl (bI_nar x) d
theorem g_retvP {mc ms : Nat} {Po : Option Value → va_W → Prop} (hR : GR κ cc mc ms none Po) (hx : Po none w) (d : decode cc pc = .ok (.return_, 1)) : GW κ mc ms w pc lv [] := (hR _ _ hx).2.1 pc lv rfl rfl d
/-- another name for what stands on top, by an equation -/
theorem g_top {x y : Value} (h : x = y) (k : GW κ n1 n2 w pc lv (y :: st)) : GW κ n1 n2 w pc lv (x :: st) := by rw [h]; exact k
/-- the locals in another order, or fewer -/
theorem g_lv {lv2 : List (Nat × Value)} (ks : List Nat) (h : lv_pick lv ks = lv2) (k : GW κ n1 n2 w pc lv2 st) : GW κ n1 n2 w pc lv st := by
  obtain ⟨p, l, e, R, s, m, args, below, meth, c, Q, A, D, cy', nL', Z'⟩ := κ
  intro H locs ls hP hD hS hl
  exact k H locs ls hP hD hS (lv_sub hl ks h)
end NN
