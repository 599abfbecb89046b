/-- the body is a maker's -/
def GI (κ : GC) : Prop := match κ with
  | (p, l, e, R, s, m, args, below, meth, c, Q, A, D, cy, nL, Z) => meth.name = "<init>"
set_option maxHeartbeats 4000000 in
theorem g_entryI {l : Launch} {D : va_G} {cy : Nat → ClassId} {Z : (Nat → Prop) → State → Heap → Prop} {y : MethodName} {ws ws' : List Cond} {rm : Room} {cc : ByteArray} {maxL : Nat} {ret : Option FieldType} {av : List Value} {w : va_W} {Po : Option Value → va_W → Prop} {mc ms : Nat} (hy : plainName y.cls = true) (hy2 : y.name = "<init>") (hw : ws = Cond.code y cc maxL ret :: ws') (hlen : (lg_sl av).length ≤ maxL)
    (body : ∀ κ : GC, GN κ maxL → GX κ cy Z cc ws y.cls rm → GI κ → GR κ cc mc ms ret Po → GW κ 0 0 w 0 (lv_args 0 av) []) : GM l D cy Z y ws rm av w Po mc ms := by
  intro sz
  refine Met.ofW (cc := cc) (maxL := maxL) (ret := ret) hy hw ?_
  intro p e s m args below meth c s₁ B hml hv
  obtain ⟨rfl, hsz, hP, hK, hD0, hZ⟩ := hv
  have hx := B.exec
  have hb := B.bytes
  have hr := B.returns
  have hts := atoms_spec (ws := ws) B.pre
  have hown : s.vm.findClass y.cls = some m.cls := findClass_of_methodNamed B.named
  have hlocks := B.notSynchronized
  have hinm : meth.name = "<init>" := (name_of_methodNamed B.named B.method).1.trans hy2
  subst hsz
  have hD := hD0.self (sz := s.heap.size)
  have hl := lv_entry av (n := maxL) hlen
  rw [lg_entry_eq]
  have hS : va_S (va_A w s.heap.size) s.heap s.heap [] := va_S.rf
  refine body (p, l, e, (headSpec ws rm).room, s, m, av.toArray, below, meth, c, (MQ below (fun _ st oc t => (∃ (res : Option Value) (w2 : va_W), Po res w2 ∧ oc = .returned res ∧ va_P D vwCl w2 t.heap ∧ va_D (va_A w s.heap.size) w2) ∧ va_F (va_A w s.heap.size) st t) av.toArray s mc ms (va_A w s.heap.size)), va_A w s.heap.size, D, cy, maxL, Z) rfl ⟨hx, hb, hts, hown, hK, hml, fun q h => Or.inr h, hlocks, rfl, rfl, rfl, hZ⟩ hinm (fun res w2 hPo => ⟨?_, ?_, ?_⟩) s.heap [] _ hP hD hS hl
  · intro ty x pc lv e1 e2 hn hdg H locs ls hP hD hS hl
    exact W.zret hx hb (hr.trans e1) hn (fun t ht hW => ⟨⟨_, w2, hPo, by rw [e2], by rw [ht]; exact hP, hD⟩, hS.F ht⟩) hS.2.2 hdg hlocks
  · intro pc lv e1 e2 hdg H locs ls hP hD hS hl
    exact W.vret hx hb (hr.trans e1) (fun t ht hW => ⟨⟨_, w2, hPo, by rw [e2], by rw [ht]; exact hP, hD⟩, hS.F ht⟩) hS.2.2 hdg hlocks
  · intro rt v pc lv e1 hrt hv e2 hdg H locs ls hP hD hS hl
    exact W.aret hx hb (hr.trans e1) hrt hv (fun t ht hW => ⟨⟨_, w2, hPo, by rw [e2], by rw [ht]; exact hP, hD⟩, hS.F ht⟩) hS.2.2 hdg hlocks
theorem tArr : Cond.arrayClass .int ∈ lw_tbl := List.mem_of_getElem? (i := 143) (by decide +kernel)
theorem tOinC : Cond.code objectInit ⟨#[0xb1]⟩ 1 none ∈ lw_tbl := List.mem_of_getElem? (i := 92) (by decide +kernel)
theorem app_get {α : Type} (a b : List α) (j : Nat) : (a ++ b)[a.length + j]? = b[j]? := by rw [List.getElem?_append_right (by omega)]; congr 1; omega
theorem app_set {α : Type} (a b : List α) (j : Nat) (e : α) : (a ++ b).set (a.length + j) e = a ++ b.set j e := by rw [List.set_append_right _ _ (by omega)]; congr 2; omega
theorem cA_eq {D : va_G} {cy : Nat → ClassId} {U : State} {cA : ClassId} {ty : FieldType} {tys : List (ClassId × FieldType)} {t : Nat} (h : va_K D vwCl tys U) (hm : tys[t]? = some (cy t, ty)) (h2 : va_K D vwCl (tys ++ [(cA, ty)]) U) : cA = cy t := by
  have e1 := (h.2 t _ hm).2
  have e2 := (h2.2 tys.length (cA, ty) (by simp)).2
  cases ty with
  | object C =>
    obtain ⟨_, _, _, _, _, h4⟩ := e1
    obtain ⟨_, _, _, _, _, h5⟩ := e2
    exact Option.some.inj (h5.symm.trans h4)
  | _ => exact Option.some.inj (e2.symm.trans e1)
section AL
variable {κ : GC} {cy : Nat → ClassId} {Z : (Nat → Prop) → State → Heap → Prop} {cc : ByteArray} {w0 : Cond} {own : String} {rm : Room} {n1 n2 : Nat} {w : va_W} {pc : Nat} {lv : List (Nat × Value)} {st : List Value}
theorem g_widen {k1 k2 : Nat} (h1 : n1 ≤ k1) (h2 : n2 ≤ k2) (k : GW κ k1 k2 w pc lv st) : GW κ n1 n2 w pc lv st := by
  obtain ⟨p, l, e, R, s, m, args, below, meth, c, Q, A, D, cy', nL, Z'⟩ := κ
  intro H locs ls hP hD hS hl
  exact W.widen h1 h2 (k H locs ls hP hD hS hl)
theorem g_newi (hX : GX κ cy Z cc (w0 :: zT) own rm) {n : Int32} {N : Nat} (hn : ¬ n < 0) (hN : n.toNatClampNeg = N) (hb9 : N * 4 ≤ 536870912) (hc : n1 + 1 ≤ rm.cells) (hs : n2 + N ≤ rm.slots) (d : decode cc pc = .ok (.newarray .int, 2)) (k : ∀ q : Nat, GW κ (n1 + 1) (n2 + N) (w ++ [(q, .inl (cy 0, N, .inl (fun _ => 0)))]) (pc + 2) lv (.ref q :: st)) : GW κ n1 n2 w pc lv (.int n :: st) := by
  obtain ⟨p, l, e, R, s, m, args, below, meth, c, Q, A, D, cy', nL, Z'⟩ := κ
  obtain ⟨hx, hb, hts, hown, hK, hml, hA, hlk, hR, hcy, hZe, hZ⟩ := hX
  subst hR
  subst hcy
  intro H locs ls hP hD hS hl
  refine va_newa (atype := .int) (a0 := (N, .inl (fun _ => 0))) hx hb (hts _ (zu tArr rfl)) (ty := .int) rfl hK hP hD hS hA (fun _ => rfl) hn hN (by show N * 4 ≤ _; exact hb9) hc hs d (fun q cA H1 hK1 hP hD hS => ?_)
  have e := cA_eq (t := 0) hK rfl hK1
  subst e
  exact k q H1 locs ls hP hD hS hl
theorem g_newq (hX : GX κ cy Z cc (w0 :: zT) own rm) {Cn : String} {index : Nat} (t : Nat) (ht : (zTy cy)[t]? = some (cy t, .object Cn)) (hcl : Cond.classLink own index Cn ∈ lw_tbl) (hov : zAO κ Cn) {n : Int32} {N : Nat} (hn : ¬ n < 0) (hN : n.toNatClampNeg = N) (hb9 : N * 4 ≤ 536870912) (hc : n1 + 1 ≤ rm.cells) (hs : n2 + N ≤ rm.slots) (d : decode cc pc = .ok (.anewarray index, 3)) (k : ∀ q : Nat, GW κ (n1 + 1) (n2 + N) (w ++ [(q, .inl (cy t, N, .inr (.inr (.inr (.inr (fun _ => none))))))]) (pc + 3) lv (.ref q :: st)) : GW κ n1 n2 w pc lv (.int n :: st) := by
  obtain ⟨p, l, e, R, s, m, args, below, meth, c, Q, A, D, cy', nL, Z'⟩ := κ
  obtain ⟨hx, hb, hts, hown, hK, hml, hA, hlk, hR, hcy, hZe, hZ⟩ := hX
  subst hR
  subst hcy
  intro H locs ls hP hD hS hl
  refine va_newq hx hb hown (hts _ (zu hcl rfl)) hov hK hP hD hS hA hn hN hb9 hc hs d (fun q cA H1 hK1 hP hD hS => ?_)
  have e := cA_eq (t := t) hK ht hK1
  subst e
  exact k q H1 locs ls hP hD hS hl
theorem g_new (hX : GX κ cy Z cc (w0 :: zT) own rm) {C : String} {T : u_T} {N index : Nat} (ci : Nat) (hin : ∀ x ∈ u_ws C T N, x ∈ w0 :: zT) (ty : Nat → FieldType) (hty : ∀ k, k < N → parseFieldDescriptor (T k).2.2.1 = some (ty k)) (hcl : Cond.classLink own index C ∈ lw_tbl) (hinst : Cond.instantiable C N ∈ lw_tbl) (hini : Cond.initialized C ∈ lw_tbl) (hci : vwCl[ci]? = some (C, T, N)) {fs : List Value} (hfs : ∀ j, j < N → defaultValue (ty j) = vp_V fs j) (hc : n1 + 1 ≤ rm.cells) (hs : n2 + N ≤ rm.slots) (d : decode cc pc = .ok (.new index, 3)) (k : ∀ q : Nat, GW κ (n1 + 1) (n2 + N) (w ++ [(q, .inr (ci, fs))]) (pc + 3) lv (.ref q :: st)) : GW κ n1 n2 w pc lv st := by
  obtain ⟨p, l, e, R, s, m, args, below, meth, c, Q, A, D, cy', nL, Z'⟩ := κ
  obtain ⟨hx, hb, hts, hown, hK, hml, hA, hlk, hR, hcy, hZe, hZ⟩ := hX
  subst hR
  intro H locs ls hP hD hS hl
  exact va_new hx hb hts hin ty hty hown (hts _ (zu hcl rfl)) (hts _ (zu hinst rfl)) (hts _ (zu hini rfl)) hK hP hD hS hA hci hfs hc hs d (fun q H1 hP hD hS => k q H1 locs ls hP hD hS hl)
theorem g_putF (hX : GX κ cy Z cc (w0 :: zT) own rm) (hI : GI κ) {C ref : String} {T : u_T} {N index : Nat} {a : Nat} {fs : List Value} {v : Value} {w2 : va_W} {ty : FieldType} (ci q0 k0 : Nat) (hin : ∀ x ∈ u_ws C T N, x ∈ w0 :: zT) (ty0 : Nat → FieldType) (hty : ∀ k, k < N → parseFieldDescriptor (T k).2.2.1 = some (ty0 k)) (hnm : ∀ a, a < N → ∀ b, b < N → a ≠ b → (T a).2.1 ≠ (T b).2.1) (he : w[q0]? = some (a, .inr (ci, fs))) (hc : vwCl[ci]? = some (C, T, N)) (hk : k0 < N) (hlk0 : Cond.fieldLink own index ref (T k0).2.1 (T k0).2.2.1 ∈ lw_tbl) (href : (T k0).1 = ref) (hfin : (T k0).2.2.2 = true) (hdecl : (T k0).1 = own) (hd : parseFieldDescriptor (T k0).2.2.1 = some ty) (hn : narrow ty v = v) (hfit : fits ty v = true) (hl9 : k0 < fs.length) (hw2 : w.set q0 (a, .inr (ci, fs.set k0 v)) = w2) (d : decode cc pc = .ok (.putfield index, 3)) (k : GW κ n1 n2 w2 (pc + 3) lv st) : GW κ n1 n2 w pc lv (v :: .ref a :: st) := by
  obtain ⟨p, l, e, R, s, m, args, below, meth, c, Q, A, D, cy', nL, Z'⟩ := κ
  obtain ⟨hx, hb, hts, hown, hK, hml, hA, hlk, hR, hcy, hZe, hZ⟩ := hX
  subst hw2
  intro H locs ls hP hD hS hl
  exact va_putF (D := D) hx hb hts hin ty0 hty hnm hown hK hP hD hS q0 he hc k0 hk (hts _ (zu hlk0 rfl)) (fun _ h9 => by rw [← href]; exact h9) hfin hI hdecl hd hn hfit hl9 d (fun H1 locs1 hP hD hS => k H1 locs1 ls hP hD hS hl)
theorem g_obj (hX : GX κ cy Z cc (w0 :: zT) own rm) {index : Nat} (hl : Cond.methodLink own index objectInit ∈ lw_tbl) {a : Nat} (hf : 1 ≤ rm.frames) (hlo : 20 ≤ rm.locals) (hr : (st.map fun v => v.category).sum ≤ 8) (d : decode cc pc = .ok (.invokespecial index, 3)) (k : GW κ n1 n2 w (pc + 3) lv st) : GW κ n1 n2 w pc lv (.ref a :: st) := by
  obtain ⟨p, l, e, R, s, m, args, below, meth, c, Q, A, D, cy', nL, Z'⟩ := κ
  obtain ⟨hx, hb, hts, hown, hK, hml, hA, hlk, hR, hcy, hZe, hZ⟩ := hX
  subst hR
  intro H locs ls hP hD hS hl'
  exact W.objInit hx hb hown (hts _ (zu hl rfl)) (hts _ (zu tIns_objectInit rfl)) (hts _ (zu tOinC rfl)) (g := F0 m pc ls (.ref a :: st)) rfl (hl'.1.trans hml.symm) rfl d hf (by show 2 * 0 + _ + 12 ≤ _; omega) (k H locs ls hP hD hS hl')
theorem g_callI (hX : GX κ cy Z cc (w0 :: zT) own rm) (hzo : zOK Z) {y : MethodName} {rm2 : Room} {bytes : ByteArray} {maxL index mc ms : Nat} {host : String} {Po : Option Value → va_W → Prop} {b : Nat} (As rest : List Value) (hM : GM (Kl κ) (KD κ) cy Z y (zW y bytes maxL none) rm2 (.ref b :: As) w Po mc ms) (hnl : Cond.methodLink own index y ∈ lw_tbl) (hini : Cond.initialized y.cls ∈ lw_tbl) (hins : Cond.instanceMethod y ∈ lw_tbl) (hcd : Cond.code y bytes maxL none ∈ lw_tbl) (hyn : y.name = "<init>") (hrc : rm2.cells = mc) (hrs : rm2.slots = ms) (hd : y.cls ≠ "java/lang/invoke/MethodHandle" ∧ y.cls ≠ "java/lang/invoke/VarHandle" ∧ (parseMethodDescriptor y.desc).map (fun d => d.parameters.length) = some As.length) (hR1 : rm2.frames + 1 ≤ rm.frames) (hR2 : 8 + (maxL + 11) + rm2.locals ≤ rm.locals) {st0 : List Value} (hst : st0 = As.reverse ++ .ref b :: rest) (hrest : (rest.map fun v => v.category).sum ≤ 8) (hf : n1 + mc ≤ rm.cells ∧ n2 + ms ≤ rm.slots) (d : decode cc pc = .ok (.invokespecial index, 3)) (k : ∀ (res : Option Value) (w2 : va_W), Po res w2 → GW κ (n1 + mc) (n2 + ms) w2 (pc + 3) lv (res.toList ++ rest)) : GW κ n1 n2 w pc lv st0 := by
  have hG : GoodIn (w0 :: zT) (zW y bytes maxL none) := by
    intro w9 hw9
    have hm : w9 ∈ zT := by
      rcases List.mem_cons.mp hw9 with rfl | h
      · exact z_in hcd rfl
      · exact h
    exact ⟨List.mem_cons_of_mem _ hm, good_of_word (z_good hm)⟩
  obtain ⟨p, l, e, R, s, m, args, below, meth, c, Q, A, D, cy', nL', Z'⟩ := κ
  obtain ⟨hx, hb, hts, hown, hK, hml, hA, hlk, hR, hcy, hZe, hZ⟩ := hX
  intro H locs ls hP hD hS hl
  subst hR
  subst hcy
  subst hZe
  have hF : ∀ q, va_A w H.size q → A q := fun q h => by
    rcases h with ⟨k9, e9, h⟩ | h
    · exact hD.2 k9 (q, e9) h
    · exact hA q (Nat.le_trans hS.1 h)
  have hpre : ∀ U : State, U.heap = H → s.WarmedH U.vm → U.heap.size = H.size ∧ va_P D vwCl w U.heap ∧ va_K D vwCl (zTy cy') U ∧ va_D (fun _ => True) w ∧ Z' (va_A w H.size) U U.heap := fun U hU hW => by
    refine ⟨by rw [hU], by rw [hU]; exact hP, va_K.moved hW.alike hK, hD.weaken (fun _ _ _ _ => trivial), ?_⟩
    rw [hU]
    exact hzo.1 A _ U H hF (hzo.2.2.1 A s U H hW (hzo.2.2.2 A s s.heap H hS.2.1 hZ))
  intro T hT X
  have hr := va_runI (l := l) (e := e) (below := below) (meth := meth) (As := As) (rest := rest) (n := As.length) (locs := locs) (cells := n1) (slots := n2) (g := F0 m pc ls st0) ⟨hx, hb, hml, hown, hts⟩ (hM H.size) (cwI As.length hts hG rfl hrc hrs (hts _ (zu hini rfl)) (hts _ (zu hnl rfl)) (hts _ (zu hins rfl)) hyn hd ⟨hR1, hR2⟩) ⟨fun a U g mk q => by obtain ⟨q0, q1, qP, qK, qD, qZ⟩ := q; exact ⟨q0, q1, qP, va_K.moved (u := U) (U := U.calling g mk a) (Vm.Alike.refl U.vm) qK, qD, hzo.2.1 _ U _ _ rfl qZ⟩, fun U hU hW => ⟨rfl, hpre U hU hW⟩⟩ rfl rfl hl.1 hst (lv_room hrest) d hf
  obtain ⟨v9, st₀, t, T', L, h0, X', hL, e1, e2, ⟨⟨res, w2, hPo, hv, hP1, hD1⟩, hz, hk⟩, stp⟩ := hr T hT X
  cases hv
  rw [h0] at hz hk
  obtain ⟨t2, a1, b1⟩ := k _ w2 hPo T'.heap (locs ++ L) ls (by rw [e1]; exact hP1) (hD1.weaken (fun _ q _ h => hF q.1 h))
    ⟨Nat.le_trans hS.1 (by rw [e1]; exact hz), fun q h1 h2 => by rw [e1, hk q (Nat.lt_of_lt_of_le h1 hS.1) (fun z => h2 (hF q z))]; exact hS.2.1 q h1 h2, fun q hq => by
      rcases List.mem_append.mp hq with h | h
      · exact hS.2.2 q h
      · exact hF _ (hL q h)⟩ hl T' rfl X'
  exact ⟨t2, stp t2 a1, b1⟩
theorem g_callIN (hX : GX κ cy Z cc (w0 :: zT) own rm) (hzo : zOK Z) {y : MethodName} {rm2 : Room} {bytes : ByteArray} {maxL index mc ms : Nat} {host : String} {Po : Option Value → va_W → Prop} {b : Nat} (As rest : List Value) (hM : GM (Kl κ) (KD κ) cy Z y (zW y bytes maxL none) rm2 (.ref b :: As) w Po mc ms) (hnl : zNw κ (.methodLinkNest own index y host)) (hini : Cond.initialized y.cls ∈ lw_tbl) (hins : Cond.instanceMethod y ∈ lw_tbl) (hcd : Cond.code y bytes maxL none ∈ lw_tbl) (hyn : y.name = "<init>") (hrc : rm2.cells = mc) (hrs : rm2.slots = ms) (hd : y.cls ≠ "java/lang/invoke/MethodHandle" ∧ y.cls ≠ "java/lang/invoke/VarHandle" ∧ (parseMethodDescriptor y.desc).map (fun d => d.parameters.length) = some As.length) (hR1 : rm2.frames + 1 ≤ rm.frames) (hR2 : 8 + (maxL + 11) + rm2.locals ≤ rm.locals) {st0 : List Value} (hst : st0 = As.reverse ++ .ref b :: rest) (hrest : (rest.map fun v => v.category).sum ≤ 8) (hf : n1 + mc ≤ rm.cells ∧ n2 + ms ≤ rm.slots) (d : decode cc pc = .ok (.invokespecial index, 3)) (k : ∀ (res : Option Value) (w2 : va_W), Po res w2 → GW κ (n1 + mc) (n2 + ms) w2 (pc + 3) lv (res.toList ++ rest)) : GW κ n1 n2 w pc lv st0 := by
  have hG : GoodIn (w0 :: zT) (zW y bytes maxL none) := by
    intro w9 hw9
    have hm : w9 ∈ zT := by
      rcases List.mem_cons.mp hw9 with rfl | h
      · exact z_in hcd rfl
      · exact h
    exact ⟨List.mem_cons_of_mem _ hm, good_of_word (z_good hm)⟩
  obtain ⟨p, l, e, R, s, m, args, below, meth, c, Q, A, D, cy', nL', Z'⟩ := κ
  obtain ⟨hx, hb, hts, hown, hK, hml, hA, hlk, hR, hcy, hZe, hZ⟩ := hX
  intro H locs ls hP hD hS hl
  subst hR
  subst hcy
  subst hZe
  have hF : ∀ q, va_A w H.size q → A q := fun q h => by
    rcases h with ⟨k9, e9, h⟩ | h
    · exact hD.2 k9 (q, e9) h
    · exact hA q (Nat.le_trans hS.1 h)
  have hpre : ∀ U : State, U.heap = H → s.WarmedH U.vm → U.heap.size = H.size ∧ va_P D vwCl w U.heap ∧ va_K D vwCl (zTy cy') U ∧ va_D (fun _ => True) w ∧ Z' (va_A w H.size) U U.heap := fun U hU hW => by
    refine ⟨by rw [hU], by rw [hU]; exact hP, va_K.moved hW.alike hK, hD.weaken (fun _ _ _ _ => trivial), ?_⟩
    rw [hU]
    exact hzo.1 A _ U H hF (hzo.2.2.1 A s U H hW (hzo.2.2.2 A s s.heap H hS.2.1 hZ))
  intro T hT X
  have hr := va_runIN (l := l) (e := e) (below := below) (meth := meth) (As := As) (rest := rest) (n := As.length) (locs := locs) (cells := n1) (slots := n2) (g := F0 m pc ls st0) ⟨hx, hb, hml, hown, hts⟩ (hM H.size) (⟨va_cnB As.length hts hG rfl hrc hrs hnl (hts _ (zu hini rfl)) hd ⟨hR1, hR2⟩, hyn, hts _ (zu hins rfl)⟩) ⟨fun a U g mk q => by obtain ⟨q0, q1, qP, qK, qD, qZ⟩ := q; exact ⟨q0, q1, qP, va_K.moved (u := U) (U := U.calling g mk a) (Vm.Alike.refl U.vm) qK, qD, hzo.2.1 _ U _ _ rfl qZ⟩, fun U hU hW => ⟨rfl, hpre U hU hW⟩⟩ rfl rfl hl.1 hst (lv_room hrest) d hf
  obtain ⟨v9, st₀, t, T', L, h0, X', hL, e1, e2, ⟨⟨res, w2, hPo, hv, hP1, hD1⟩, hz, hk⟩, stp⟩ := hr T hT X
  cases hv
  rw [h0] at hz hk
  obtain ⟨t2, a1, b1⟩ := k _ w2 hPo T'.heap (locs ++ L) ls (by rw [e1]; exact hP1) (hD1.weaken (fun _ q _ h => hF q.1 h))
    ⟨Nat.le_trans hS.1 (by rw [e1]; exact hz), fun q h1 h2 => by rw [e1, hk q (Nat.lt_of_lt_of_le h1 hS.1) (fun z => h2 (hF q z))]; exact hS.2.1 q h1 h2, fun q hq => by
      rcases List.mem_append.mp hq with h | h
      · exact hS.2.2 q h
      · exact hF _ (hL q h)⟩ hl T' rfl X'
  exact ⟨t2, stp t2 a1, b1⟩
end AL
