theorem tClo1 : Cond.sameMethod "[I" "java/lang/Object" "clone" "()Ljava/lang/Object;" ∈ lw_tbl := List.mem_of_getElem? (i := 791) (by decide +kernel)
theorem tClo2 : Cond.native ⟨"java/lang/Object", "clone", "()Ljava/lang/Object;"⟩ ∈ lw_tbl := List.mem_of_getElem? (i := 792) (by decide +kernel)
theorem tClo3 : Cond.instanceMethod ⟨"java/lang/Object", "clone", "()Ljava/lang/Object;"⟩ ∈ lw_tbl := List.mem_of_getElem? (i := 793) (by decide +kernel)
theorem tClo4 : Cond.selects "[I" ⟨"[I", "clone", "()Ljava/lang/Object;"⟩ ⟨"java/lang/Object", "clone", "()Ljava/lang/Object;"⟩ ∈ lw_tbl := List.mem_of_getElem? (i := 794) (by decide +kernel)
section CL
variable {κ : GC} {cy : Nat → ClassId} {Z : (Nat → Prop) → State → Heap → Prop} {cc : ByteArray} {w0 : Cond} {own : String} {rm : Room} {n1 n2 : Nat} {w : va_W} {pc : Nat} {lv : List (Nat × Value)} {st : List Value}
theorem g_clone (hX : GX κ cy Z cc (w0 :: zT) own rm) (hcl : zNw κ (.castable "[I" "java/lang/Cloneable")) {index a n : Nat} {f : Nat → Int32} (hl : Cond.methodLink own index ⟨"[I", "clone", "()Ljava/lang/Object;"⟩ ∈ lw_tbl) (q0 : Nat) (he : w[q0]? = some (a, .inl (cy 0, n, .inl f))) (hf : 1 ≤ rm.frames) (hlo : 22 ≤ rm.locals) (hr : (st.map fun v => v.category).sum ≤ 8) (hc : n1 + 1 ≤ rm.cells) (hs : n2 + n ≤ rm.slots) (d : decode cc pc = .ok (.invokevirtual index, 3)) (k : ∀ q : Nat, GW κ (n1 + 1) (n2 + n) (w ++ [(q, .inl (cy 0, n, .inl f))]) (pc + 3) lv (.ref q :: st)) : GW κ n1 n2 w pc lv (.ref a :: st) := by
  obtain ⟨p, l, e, R, s, m, args, below, meth, c, Q, A, D, cy', nL, Z'⟩ := κ
  obtain ⟨hx, hb, hts, hown, hK, hml, hA, hlk, hR, hcy, hZe, hZ⟩ := hX
  subst hR
  subst hcy
  intro H locs ls hP hD hS hl'
  refine va_clone (ad := "[I") (ty := .int) hx hb (hml.trans hl'.1.symm) hown (hts _ (zu hl rfl)) (hts _ (zu tClo1 rfl)) (hts _ (zu tClo2 rfl)) (hts _ (zu tClo3 rfl)) (hts _ (zu tClo4 rfl)) hcl hK hP hD hS hA q0 0 he rfl (hK.2 0 _ rfl).2 ?_ hf (by omega) hc hs d (fun q H1 hK1 hP hD hS => k q H1 locs ls hP hD hS hl')
  intro i v hv
  have hi : i < n := by
    have h9 := (Array.getElem?_eq_some_iff.mp hv).1
    rw [show (vp_cell (cy' 0) (n, .inl f)).slots.size = n from arrV_size _ _ _] at h9
    exact h9
  rw [show (vp_cell (cy' 0) (n, .inl f)).slots[i]? = some (.int (f i)) from arrV_read _ _ hi] at hv
  cases hv
  rfl
theorem g_castI (hX : GX κ cy Z cc (w0 :: zT) own rm) {index a n : Nat} {f : Nat → Int32} (hl : Cond.classLink own index "[I" ∈ lw_tbl) (q0 : Nat) (he : w[q0]? = some (a, .inl (cy 0, n, .inl f))) (d : decode cc pc = .ok (.checkcast index, 3)) (k : GW κ n1 n2 w (pc + 3) lv (.ref a :: st)) : GW κ n1 n2 w pc lv (.ref a :: st) := by
  obtain ⟨p, l, e, R, s, m, args, below, meth, c, Q, A, D, cy', nL, Z'⟩ := κ
  obtain ⟨hx, hb, hts, hown, hK, hml, hA, hlk, hR, hcy, hZe, hZ⟩ := hX
  subst hcy
  intro H locs ls hP hD hS hl'
  exact va_castA hx hb hown (hts _ (zu hl rfl)) hP q0 he (hK.2 0 _ rfl).2 d (k H locs ls hP hD hS hl')
theorem g_reta {mc ms : Nat} {Po : Option Value → va_W → Prop} (hR : GR κ cc mc ms (some (.array .int)) Po) {a : Nat} (hx : Po (some (.ref a)) w) (d : decode cc pc = .ok (.areturn, 1)) : GW κ mc ms w pc lv [.ref a] := (hR _ _ hx).2.2 (.array .int) (.ref a) pc lv rfl (Or.inr ⟨_, rfl⟩) (Or.inr ⟨_, rfl⟩) rfl d
end CL
theorem get_last {α : Type} (a : List α) (e : α) : (a ++ [e])[a.length]? = some e := by simp
theorem set_last {α : Type} (a : List α) (e e' : α) : (a ++ [e]).set a.length e' = a ++ [e'] := by simp
theorem get_app {α : Type} {a b : List α} {j : Nat} {e : α} (h : a[j]? = some e) : (a ++ b)[j]? = some e := by
  rw [List.getElem?_append_left (List.getElem?_eq_some_iff.mp h).1]; exact h
theorem kJ7_copyOf_59c91 : mKS yJ7_copyOf_59c91 cJ7_copyOf_59c91 3 (some (.array .int)) 2 := ⟨tSta_J7_copyOf_59c91, tIni_J7, tCod_J7_copyOf_59c91, by decide +kernel⟩
set_option maxHeartbeats 4000000 in
set_option maxRecDepth 100000 in
theorem ct_copyOf (l : Launch) (D : va_G) (cy : Nat → ClassId) (Z : (Nat → Prop) → State → Heap → Prop) (hzo : zOK Z) {aStr aByt : Nat → Nat} (hzs : zSt Z aStr aByt) (w : va_W) (q0 a : Nat) (f : Nat → Int32) (he : w[q0]? = some (a, .inl (cy 0, 96, .inl f))) (n : Nat) (hn : n ≤ 96) : GM l D cy Z yJ7_copyOf_59c91 (zW yJ7_copyOf_59c91 cJ7_copyOf_59c91 3 (some (.array .int))) { frames := 1, cells := 1, slots := 96, locals := 60 } [.ref a, .int (nI n)] w (fun rs w2 => ∃ (b : Nat) (g : Nat → Int32), rs = some (.ref b) ∧ w2 = w ++ [(b, .inl (cy 0, n, .inl g))] ∧ ∀ j, j < n → g j = f j) 1 96 := by
  refine g_entry (cc := cJ7_copyOf_59c91) (maxL := 3) (by decide) rfl (Nat.le_of_ble_eq_true rfl) ?_
  intro κ hN hX hR
  have hX : GX κ cy Z cJ7_copyOf_59c91 (Cond.code yJ7_copyOf_59c91 cJ7_copyOf_59c91 3 (some (.array .int)) :: zT) RJ7 { frames := 1, cells := 1, slots := 96, locals := 60 } := hX
  show GW κ 0 0 w 0 [(0, .ref a), (1, .int (nI n))] []
  refine g_iload_n hX 1 rfl rfl dJ7_copyOf_59c91_0 ?_
  refine g_aload_n hX 0 rfl rfl dJ7_copyOf_59c91_1 ?_
  refine g_alen hX q0 he (v := nI 96) rfl dJ7_copyOf_59c91_2 ?_
  refine g_icmpN_ne hX (by omega) (by omega) 14 (by decide) dJ7_copyOf_59c91_3 (fun b3 => ?_) (fun b3 => ?_)
  · refine g_iload_n hX 1 rfl rfl dJ7_copyOf_59c91_14 ?_
    refine g_newi (N := n) hX (nI_pos (by omega)) (nI_clamp (by omega)) (by omega) (Nat.le_of_ble_eq_true rfl) (by show 0 + n ≤ 96; omega) dJ7_copyOf_59c91_15 (fun b => ?_)
    refine g_astore_n (lv2 := [(2, .ref b), (0, .ref a), (1, .int (nI n))]) hX 2 3 hN rfl (by decide) rfl dJ7_copyOf_59c91_17 ?_
    refine g_aload_n hX 1 rfl rfl dJ7_copyOf_59c91_18 ?_
    refine g_iconst hX (v := nI 0) rfl dJ7_copyOf_59c91_19 ?_
    refine g_aload_n hX 0 rfl rfl dJ7_copyOf_59c91_20 ?_
    refine g_iconst hX (v := nI 0) rfl dJ7_copyOf_59c91_21 ?_
    refine g_aload_n hX 1 rfl rfl dJ7_copyOf_59c91_22 ?_
    refine g_alen hX q0 (get_app he) (v := nI 96) rfl dJ7_copyOf_59c91_23 ?_
    refine g_iload_n hX 2 rfl rfl dJ7_copyOf_59c91_24 ?_
    refine g_mmin hX tMet_J7_304 (Nat.le_of_ble_eq_true rfl) (Nat.le_of_ble_eq_true rfl) (Nat.le_of_ble_eq_true rfl) (Nat.le_of_ble_eq_true rfl) (by show 0 + n ≤ 96; omega) dJ7_copyOf_59c91_25 ?_
    refine g_top (y := .int (nI n)) (by
      have e : mnI (nI 96) (nI n) = nI n := by
        unfold mnI
        by_cases h : nI n < nI 96
        · rw [if_pos h]
        · rw [if_neg h]; exact congrArg nI (by have h7 : ¬ n < 96 := fun z => h ((nI_ltI (by omega) (by omega)).mpr z); omega)
      rw [e]) ?_
    refine g_copy hX tMet_J7_150 q0 w.length (get_app he) (get_last w _) (nI_pos (by decide)) (nI_pos (by decide)) (nI_pos (by omega)) (by rw [nI_clamp (by decide), nI_clamp (by omega)]; omega) (by rw [nI_clamp (by decide), nI_clamp (by omega)]; omega) (Nat.le_of_ble_eq_true rfl) (Nat.le_of_ble_eq_true rfl) (Nat.le_of_ble_eq_true rfl) (set_last w _ _) dJ7_copyOf_59c91_28 ?_
    refine g_aload_n hX 0 rfl rfl dJ7_copyOf_59c91_31 ?_
    refine g_widen (k1 := 1) (k2 := 96) (by omega) (by omega) ?_
    refine g_reta hR ⟨b, _, rfl, rfl, fun j hj => ?_⟩ dJ7_copyOf_59c91_32
    rw [pk_cpy_in (by rw [nI_clamp (by decide)]; omega) (by rw [nI_clamp (by decide), nI_clamp (by omega)]; omega), nI_clamp (by decide)]
    congr 1
    omega
  · subst b3
    refine g_aload_n hX 0 rfl rfl dJ7_copyOf_59c91_6 ?_
    refine g_clone hX (zk_10 hX hzs) tMet_J7_316 q0 he (Nat.le_of_ble_eq_true rfl) (Nat.le_of_ble_eq_true rfl) (Nat.le_of_ble_eq_true rfl) (Nat.le_of_ble_eq_true rfl) (Nat.le_of_ble_eq_true rfl) dJ7_copyOf_59c91_7 (fun b => ?_)
    refine g_castI hX tCls_J7_317 w.length (get_last w _) dJ7_copyOf_59c91_10 ?_
    exact g_reta hR ⟨b, f, rfl, rfl, fun _ _ => rfl⟩ dJ7_copyOf_59c91_13
set_option maxHeartbeats 4000000 in
set_option maxRecDepth 100000 in
theorem ct_X5_init (l : Launch) (D : va_G) (cy : Nat → ClassId) (Z : (Nat → Prop) → State → Heap → Prop) (hzo : zOK Z) {aStr aByt : Nat → Nat} (hzs : zSt Z aStr aByt) (w : va_W) (a b : Nat) (n : Nat) (f : Nat → Int32) (z1 z2 z3 : Int32) (m : Nat) (hm : mxI (nI 1) z3 = nI m) (hm2 : m ≤ 96) : GM l D cy Z yX5_init (zW yX5_init cX5_init 5 none) { frames := 1, cells := 1, slots := 96, locals := 60 } [.ref a, .int z1, .int z2, .int z3, .ref b] (w ++ [(a, .inr (5, [.int 0, .int 0, .int 0, .null, .null])), (b, .inl (cy 0, n, .inl f))]) (fun rs w2 => rs = none ∧ ∃ e : Nat, w2 = w ++ [(a, .inr (5, [.int z1, .int z2, .int z3, .ref b, .ref e])), (b, .inl (cy 0, n, .inl f)), (e, .inl (cy 0, m, .inl (fun _ => 0)))]) 1 96 := by
  refine g_entryI (cc := cX5_init) (maxL := 5) (by decide) rfl rfl (Nat.le_of_ble_eq_true rfl) ?_
  intro κ hN hX hI hR
  have hX : GX κ cy Z cX5_init (Cond.code yX5_init cX5_init 5 none :: zT) RX5 { frames := 1, cells := 1, slots := 96, locals := 60 } := hX
  show GW κ 0 0 _ 0 [(0, .ref a), (1, .int z1), (2, .int z2), (3, .int z3), (4, .ref b)] []
  refine g_aload_n hX 0 rfl rfl dX5_init_0 ?_
  refine g_obj hX tMet_X5_3 (Nat.le_of_ble_eq_true rfl) (Nat.le_of_ble_eq_true rfl) (Nat.le_of_ble_eq_true rfl) dX5_init_1 ?_
  refine g_aload_n hX 0 rfl rfl dX5_init_4 ?_
  refine g_iload_n hX 1 rfl rfl dX5_init_5 ?_
  refine g_putF (ty := .int) (fs := [.int 0, .int 0, .int 0, .null, .null]) hX hI 5 w.length 0 zin_X5 tyX5 tyX5_ok nmX5 (by rw [show w.length = w.length + 0 from rfl, app_get]; rfl) rfl (by decide) tFld_X5_9 rfl rfl rfl (by decide +kernel) rfl rfl (Nat.le_of_ble_eq_true rfl) (by rw [show w.length = w.length + 0 from rfl, app_set]) dX5_init_6 ?_
  refine g_aload_n hX 0 rfl rfl dX5_init_9 ?_
  refine g_iload_n hX 2 rfl rfl dX5_init_10 ?_
  refine g_putF (ty := .int) (fs := [.int z1, .int 0, .int 0, .null, .null]) hX hI 5 w.length 1 zin_X5 tyX5 tyX5_ok nmX5 (by rw [show w.length = w.length + 0 from rfl, app_get]; rfl) rfl (by decide) tFld_X5_15 rfl rfl rfl (by decide +kernel) rfl rfl (Nat.le_of_ble_eq_true rfl) (by rw [show w.length = w.length + 0 from rfl, app_set]) dX5_init_11 ?_
  refine g_aload_n hX 0 rfl rfl dX5_init_14 ?_
  refine g_iload_n hX 3 rfl rfl dX5_init_15 ?_
  refine g_putF (ty := .int) (fs := [.int z1, .int z2, .int 0, .null, .null]) hX hI 5 w.length 2 zin_X5 tyX5 tyX5_ok nmX5 (by rw [show w.length = w.length + 0 from rfl, app_get]; rfl) rfl (by decide) tFld_X5_18 rfl rfl rfl (by decide +kernel) rfl rfl (Nat.le_of_ble_eq_true rfl) (by rw [show w.length = w.length + 0 from rfl, app_set]) dX5_init_16 ?_
  refine g_aload_n hX 0 rfl rfl dX5_init_19 ?_
  refine g_aload hX 4 rfl dX5_init_20 ?_
  refine g_putF (ty := (.array .int)) (fs := [.int z1, .int z2, .int z3, .null, .null]) hX hI 5 w.length 3 zin_X5 tyX5 tyX5_ok nmX5 (by rw [show w.length = w.length + 0 from rfl, app_get]; rfl) rfl (by decide) tFld_X5_21 rfl rfl rfl (by decide +kernel) rfl rfl (Nat.le_of_ble_eq_true rfl) (by rw [show w.length = w.length + 0 from rfl, app_set]) dX5_init_22 ?_
  refine g_aload_n hX 0 rfl rfl dX5_init_25 ?_
  refine g_iconst hX (v := nI 1) rfl dX5_init_26 ?_
  refine g_iload_n hX 3 rfl rfl dX5_init_27 ?_
  refine g_mmax hX tMet_X5_25 (Nat.le_of_ble_eq_true rfl) (Nat.le_of_ble_eq_true rfl) (Nat.le_of_ble_eq_true rfl) (Nat.le_of_ble_eq_true rfl) (Nat.le_of_ble_eq_true rfl) dX5_init_28 ?_
  rw [hm]
  refine g_newi (N := m) hX (nI_pos (by omega)) (nI_clamp (by omega)) (by omega) (Nat.le_of_ble_eq_true rfl) (by show 0 + m ≤ 96; omega) dX5_init_31 (fun e => ?_)
  rw [List.append_assoc]
  show GW κ (0 + 1) (0 + m) (w ++ [(a, .inr (5, [.int z1, .int z2, .int z3, .ref b, .null])), (b, .inl (cy 0, n, .inl f)), (e, .inl (cy 0, m, .inl (fun _ => 0)))]) _ _ _
  refine g_putF (ty := (.array .int)) (fs := [.int z1, .int z2, .int z3, .ref b, .null]) hX hI 5 w.length 4 zin_X5 tyX5 tyX5_ok nmX5 (by rw [show w.length = w.length + 0 from rfl, app_get]; rfl) rfl (by decide) tFld_X5_31 rfl rfl rfl (by decide +kernel) rfl rfl (Nat.le_of_ble_eq_true rfl) (by rw [show w.length = w.length + 0 from rfl, app_set]) dX5_init_33 ?_
  refine g_widen (k1 := 1) (k2 := 96) (by omega) (by omega) ?_
  exact g_retvP hR ⟨rfl, e, rfl⟩ dX5_init_36
theorem hdX5_init : yX5_init.cls ≠ "java/lang/invoke/MethodHandle" ∧ yX5_init.cls ≠ "java/lang/invoke/VarHandle" ∧ (parseMethodDescriptor yX5_init.desc).map (fun d => d.parameters.length) = some 4 := by decide +kernel
theorem kX1_madeText : mKV RX1 yX1_madeText cX1_madeText 2 (some (.object "LeaningStreet$Text")) 1 := ⟨tIns_X1_madeText, tSel_X1_madeText, tIni_X1, tCod_X1_madeText, by decide +kernel⟩
set_option maxHeartbeats 4000000 in
set_option maxRecDepth 100000 in
theorem ct_X1_madeText (l : Launch) (D : va_G) (cy : Nat → ClassId) (Z : (Nat → Prop) → State → Heap → Prop) (hzo : zOK Z) {aStr aByt : Nat → Nat} (hzs : zSt Z aStr aByt) {q : Nat → Nat} {C : Ev → Sg → va_W} (hC : cLens cy q C) (ε : Ev) (z1 : Int32) (σ : Sg) (n m : Nat) (hn : σ.1 64 7 = nI n) (hn2 : n ≤ 96) (hm : mxI (nI 1) (σ.1 64 8) = nI m) (hm2 : m ≤ 96) : GM l D cy Z yX1_madeText (zW yX1_madeText cX1_madeText 2 (some (.object "LeaningStreet$Text"))) { frames := 2, cells := 3, slots := 197, locals := 90 } [.ref (sAd ε 64), .int z1] (C ε σ) (fun rs w2 => ∃ (a b e : Nat) (g : Nat → Int32), rs = some (.ref a) ∧ w2 = C ε σ ++ [(a, .inr (5, [.int z1, .int (σ.1 64 5), .int (σ.1 64 8), .ref b, .ref e])), (b, .inl (cy 0, n, .inl g)), (e, .inl (cy 0, m, .inl (fun _ => 0)))] ∧ ∀ j, j < n → g j = σ.1 66 j) 3 197 := by
  refine g_entry (cc := cX1_madeText) (maxL := 2) (by decide) rfl (Nat.le_of_ble_eq_true rfl) ?_
  intro κ hN hX hR
  have hX : GX κ cy Z cX1_madeText (Cond.code yX1_madeText cX1_madeText 2 (some (.object "LeaningStreet$Text")) :: zT) RX1 { frames := 2, cells := 3, slots := 197, locals := 90 } := hX
  show GW κ 0 0 (C ε σ) 0 [(0, .ref (sAd ε 64)), (1, .int z1)] []
  have h64 : (C ε σ)[q 64]? = some (sAd ε 64, .inr (1, cF1 ε σ 64)) := by rw [hC.1 ε σ 64 (kc_X1 (cy := cy) (σ := σ) rfl).1, (kc_X1 rfl).2]
  have h66 : (C ε σ)[q 66]? = some (sAd ε 66, .inl (cy 0, 96, .inl (σ.1 66))) := by rw [hC.1 ε σ 66 (ka_X1_2 (ε := ε) rfl).1]; exact congrArg (fun x => some (sAd ε 66, x)) (ka_e (ka_X1_2 (ε := ε) rfl))
  refine g_new (N := 5) (fs := [.int 0, .int 0, .int 0, .null, .null]) hX 5 zin_X5 tyX5 tyX5_ok tCls_X1_51 tIst_X5 tIni_X5 rfl (fun j hj => by
    rcases (show j = 0 ∨ j = 1 ∨ j = 2 ∨ j = 3 ∨ j = 4 by omega) with rfl | rfl | rfl | rfl | rfl <;> rfl) (Nat.le_of_ble_eq_true rfl) (Nat.le_of_ble_eq_true rfl) dX1_madeText_0 (fun a => ?_)
  refine g_dup hX rfl dX1_madeText_3 ?_
  refine g_iload_n hX 1 rfl rfl dX1_madeText_4 ?_
  refine g_aload_n hX 0 rfl rfl dX1_madeText_5 ?_
  refine g_get hX 1 (q 64) 5 zin_X1 (get_app h64) rfl (by decide) (zu tFld_X1_28 rfl) rfl rfl dX1_madeText_6 ?_
  refine g_aload_n hX 0 rfl rfl dX1_madeText_9 ?_
  refine g_get hX 1 (q 64) 8 zin_X1 (get_app h64) rfl (by decide) (zu tFld_X1_37 rfl) rfl rfl dX1_madeText_10 ?_
  refine g_aload_n hX 0 rfl rfl dX1_madeText_13 ?_
  refine g_get hX 1 (q 64) 6 zin_X1 (get_app h64) rfl (by decide) (zu tFld_X1_31 rfl) rfl rfl dX1_madeText_14 ?_
  refine g_aload_n hX 0 rfl rfl dX1_madeText_17 ?_
  refine g_get hX 1 (q 64) 7 zin_X1 (get_app h64) rfl (by decide) (zu tFld_X1_34 rfl) rfl rfl dX1_madeText_18 ?_
  refine g_top (y := .int (nI n)) (congrArg Value.int hn) ?_
  refine g_callS (n1 := 0 + 1) (n2 := 0 + 5) (bytes := cJ7_copyOf_59c91) (maxL := 3) (ret := some (.array .int)) hX hzo [.ref (sAd ε 66), .int (nI n)] [.int (σ.1 64 8), .int (σ.1 64 5), .int z1, .ref a, .ref a] (ct_copyOf (Kl κ) (KD κ) cy Z hzo hzs (C ε σ ++ [(a, .inr (5, [.int 0, .int 0, .int 0, .null, .null]))]) (q 66) (sAd ε 66) (σ.1 66) (get_app h66) n hn2) (z_S tMet_X1_53 kJ7_copyOf_59c91.1 kJ7_copyOf_59c91.2.1 kJ7_copyOf_59c91.2.2.1) rfl rfl rfl kJ7_copyOf_59c91.2.2.2 (Nat.le_of_ble_eq_true rfl) (Nat.le_of_ble_eq_true rfl) rfl (Nat.le_of_ble_eq_true rfl) ⟨by exact Nat.le_of_ble_eq_true rfl, by exact Nat.le_of_ble_eq_true rfl⟩ dX1_madeText_21 ?_
  rintro _ _ ⟨b, g, rfl, rfl, hg⟩
  rw [List.append_assoc]
  show GW κ (0 + 1 + 1) (0 + 5 + 96) (C ε σ ++ [(a, .inr (5, [.int 0, .int 0, .int 0, .null, .null])), (b, .inl (cy 0, n, .inl g))]) 24 [(0, .ref (sAd ε 64)), (1, .int z1)] [.ref b, .int (σ.1 64 8), .int (σ.1 64 5), .int z1, .ref a, .ref a]
  refine g_callI (bytes := cX5_init) (maxL := 5) (host := "") hX hzo [.int z1, .int (σ.1 64 5), .int (σ.1 64 8), .ref b] [.ref a] (ct_X5_init (Kl κ) (KD κ) cy Z hzo hzs (C ε σ) a b n g z1 (σ.1 64 5) (σ.1 64 8) m hm hm2) tMet_X1_59 tIni_X5 tIns_X5_init tCod_X5_init rfl rfl rfl hdX5_init (Nat.le_of_ble_eq_true rfl) (Nat.le_of_ble_eq_true rfl) rfl (Nat.le_of_ble_eq_true rfl) ⟨by exact Nat.le_of_ble_eq_true rfl, by exact Nat.le_of_ble_eq_true rfl⟩ dX1_madeText_24 ?_
  rintro _ _ ⟨rfl, e, rfl⟩
  exact g_retr hR ⟨a, b, e, g, rfl, rfl, hg⟩ dX1_madeText_27
