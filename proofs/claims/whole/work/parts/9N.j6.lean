def zLaw (aStr aByt : Nat → Nat) (A : Nat → Prop) (U : State) (H : Heap) : Prop := zT1 "LEAST" 6 tabLEAST A U H ∧ zT1 "MOST" 6 tabMOST A U H ∧ zT1 "ABOVE" 6 tabABOVE A U H ∧ va_Nw (.fieldLinkNest RX0 34 "LeaningStreet" "ABOVE" "[I" "LeaningStreet") U ∧ va_Nw (.fieldLinkNest RX4 100 "LeaningStreet" "MOST" "[I" "LeaningStreet") U ∧ va_Nw (.fieldLinkNest RX4 97 "LeaningStreet" "LEAST" "[I" "LeaningStreet") U ∧ zStr aStr aByt A U H ∧ zMk U
theorem zLaw_st (aStr aByt : Nat → Nat) : zSt (zLaw aStr aByt) aStr aByt := fun _ _ _ h => h
theorem zLaw_ok (aStr aByt : Nat → Nat) : zOK (zLaw aStr aByt) := by
  refine ⟨fun A B U H hAB h => ?_, fun A u U H hv h => ?_, fun A u U H hW h => ?_, fun A U H H1 hq h => ?_⟩ <;> obtain ⟨⟨t1, p1, p2⟩, ⟨t2, p3, p4⟩, ⟨t3, p5, p6⟩, n1, n2, n3, ⟨s1, s2, s3, s4⟩, k1, k2, k3, k4, k5, k6, k7, k8, k9, k10, k11⟩ := h
  · exact ⟨⟨t1, p1.narrow hAB, p2.narrow hAB⟩, ⟨t2, p3.narrow hAB, p4.narrow hAB⟩, ⟨t3, p5.narrow hAB, p6.narrow hAB⟩, n1, n2, n3, ⟨s1.narrow hAB, s2, s3.narrow hAB, s4.narrow hAB⟩, k1, k2, k3, k4, k5, k6, k7, k8, k9, k10, k11⟩
  · have al : u.vm.Alike U.vm := by rw [hv]; exact Vm.Alike.refl _
    exact ⟨⟨t1, p1.moved al, p2.moved al⟩, ⟨t2, p3.moved al, p4.moved al⟩, ⟨t3, p5.moved al, p6.moved al⟩, va_Nw.same rfl hv n1, va_Nw.same rfl hv n2, va_Nw.same rfl hv n3, ⟨s1.moved al, fun i hi => vk_R.same hv.symm (s2 i hi), s3.moved al, s4.moved al⟩, va_Nw.same rfl hv k1, va_Nw.same rfl hv k2, va_Nw.same rfl hv k3, va_Nw.same rfl hv k4, va_Nw.same rfl hv k5, va_Nw.same rfl hv k6, va_AO.moved al k7, va_AO.moved al k8, va_AO.moved al k9, va_AO.moved al k10, va_Nw.same rfl hv k11⟩
  · have al : u.vm.Alike U.vm := hW.alike
    exact ⟨⟨t1, p1.moved al, p2.moved al⟩, ⟨t2, p3.moved al, p4.moved al⟩, ⟨t3, p5.moved al, p6.moved al⟩, va_Nw.warmF hW n1, va_Nw.warmF hW n2, va_Nw.warmF hW n3, ⟨s1.moved al, fun i hi => vk_R.warm hW (s2 i hi), s3.moved al, s4.moved al⟩, va_Nw.warmM hW k1, va_Nw.warmM hW k2, va_Nw.warmM hW k3, va_Nw.warmM hW k4, va_Nw.warmM hW k5, va_Nw.warmM hW k6, va_AO.moved al k7, va_AO.moved al k8, va_AO.moved al k9, va_AO.moved al k10, va_Nw.warmC hW k11⟩
  · exact ⟨⟨t1, p1.kept hq, p2.kept hq⟩, ⟨t2, p3.kept hq, p4.kept hq⟩, ⟨t3, p5.kept hq, p6.kept hq⟩, n1, n2, n3, ⟨s1.kept hq, s2, s3.kept hq, s4.kept hq⟩, k1, k2, k3, k4, k5, k6, k7, k8, k9, k10, k11⟩
set_option maxRecDepth 100000 in
theorem zs_LEAST {s : State} {b : Nat} (hts : ∀ w ∈ lw_tbl, w.before #[Value.ref b] s = true) (hgv : (Jvm.Cond.and given_1 narrow_1).before #[Value.ref b] s = true) : zT1 "LEAST" 6 tabLEAST (fun q => s.heap.size ≤ q) s s.heap := by
  have hs := flat_of_before _ hgv
  have hA : ∀ a : Nat, a < s.heap.size → ¬ (fun q => s.heap.size ≤ q) a := fun a h => Nat.not_le.mpr h
  have e0 : (Term.elem (.static "LeaningStreet" "LEAST" "[I") (.int (Int32.ofNat 0))).eval #[Value.ref b] s none [] s = some (.int (tabLEAST 0)) := va_eqt (hs (Cond.eq (.elem (.static "LeaningStreet" "LEAST" "[I") (.int 0)) (.int (0))) (by decide +kernel))
  have e1 : (Term.elem (.static "LeaningStreet" "LEAST" "[I") (.int (Int32.ofNat 1))).eval #[Value.ref b] s none [] s = some (.int (tabLEAST 1)) := va_eqt (hs (Cond.eq (.elem (.static "LeaningStreet" "LEAST" "[I") (.int 1)) (.int (1))) (by decide +kernel))
  have e2 : (Term.elem (.static "LeaningStreet" "LEAST" "[I") (.int (Int32.ofNat 2))).eval #[Value.ref b] s none [] s = some (.int (tabLEAST 2)) := va_eqt (hs (Cond.eq (.elem (.static "LeaningStreet" "LEAST" "[I") (.int 2)) (.int (-50))) (by decide +kernel))
  have e3 : (Term.elem (.static "LeaningStreet" "LEAST" "[I") (.int (Int32.ofNat 3))).eval #[Value.ref b] s none [] s = some (.int (tabLEAST 3)) := va_eqt (hs (Cond.eq (.elem (.static "LeaningStreet" "LEAST" "[I") (.int 3)) (.int (0))) (by decide +kernel))
  have e4 : (Term.elem (.static "LeaningStreet" "LEAST" "[I") (.int (Int32.ofNat 4))).eval #[Value.ref b] s none [] s = some (.int (tabLEAST 4)) := va_eqt (hs (Cond.eq (.elem (.static "LeaningStreet" "LEAST" "[I") (.int 4)) (.int (0))) (by decide +kernel))
  have e5 : (Term.elem (.static "LeaningStreet" "LEAST" "[I") (.int (Int32.ofNat 5))).eval #[Value.ref b] s none [] s = some (.int (tabLEAST 5)) := va_eqt (hs (Cond.eq (.elem (.static "LeaningStreet" "LEAST" "[I") (.int 5)) (.int (0))) (by decide +kernel))
  obtain ⟨t, ht, hT⟩ := va_Tof (tm := (.static "LeaningStreet" "LEAST" "[I")) (ty := .int) (N := 6) (f := fun j => .int (tabLEAST j)) (A := fun q => s.heap.size ≤ q) (by decide) (hs (Cond.arrayOf (.static "LeaningStreet" "LEAST" "[I") .int) (by decide +kernel)) (va_eqt (hs (Cond.eq (.length (.static "LeaningStreet" "LEAST" "[I")) (.int 6)) (by decide +kernel))) (fun j hj => by
    match j, hj with
    | 0, _ => exact e0
    | 1, _ => exact e1
    | 2, _ => exact e2
    | 3, _ => exact e3
    | 4, _ => exact e4
    | 5, _ => exact e5
    | n + 6, h => exact absurd h (by omega)) hA
  exact ⟨t, va_Zof (hts (Cond.laysStatic "LeaningStreet" "LEAST" "[I") (List.mem_of_getElem? (i := 313) (by decide +kernel))) (hts _ tIni_X6) ht hA, hT⟩
set_option maxRecDepth 100000 in
theorem zs_MOST {s : State} {b : Nat} (hts : ∀ w ∈ lw_tbl, w.before #[Value.ref b] s = true) (hgv : (Jvm.Cond.and given_1 narrow_1).before #[Value.ref b] s = true) : zT1 "MOST" 6 tabMOST (fun q => s.heap.size ≤ q) s s.heap := by
  have hs := flat_of_before _ hgv
  have hA : ∀ a : Nat, a < s.heap.size → ¬ (fun q => s.heap.size ≤ q) a := fun a h => Nat.not_le.mpr h
  have e0 : (Term.elem (.static "LeaningStreet" "MOST" "[I") (.int (Int32.ofNat 0))).eval #[Value.ref b] s none [] s = some (.int (tabMOST 0)) := va_eqt (hs (Cond.eq (.elem (.static "LeaningStreet" "MOST" "[I") (.int 0)) (.int (5))) (by decide +kernel))
  have e1 : (Term.elem (.static "LeaningStreet" "MOST" "[I") (.int (Int32.ofNat 1))).eval #[Value.ref b] s none [] s = some (.int (tabMOST 1)) := va_eqt (hs (Cond.eq (.elem (.static "LeaningStreet" "MOST" "[I") (.int 1)) (.int (99))) (by decide +kernel))
  have e2 : (Term.elem (.static "LeaningStreet" "MOST" "[I") (.int (Int32.ofNat 2))).eval #[Value.ref b] s none [] s = some (.int (tabMOST 2)) := va_eqt (hs (Cond.eq (.elem (.static "LeaningStreet" "MOST" "[I") (.int 2)) (.int (50))) (by decide +kernel))
  have e3 : (Term.elem (.static "LeaningStreet" "MOST" "[I") (.int (Int32.ofNat 3))).eval #[Value.ref b] s none [] s = some (.int (tabMOST 3)) := va_eqt (hs (Cond.eq (.elem (.static "LeaningStreet" "MOST" "[I") (.int 3)) (.int (99))) (by decide +kernel))
  have e4 : (Term.elem (.static "LeaningStreet" "MOST" "[I") (.int (Int32.ofNat 4))).eval #[Value.ref b] s none [] s = some (.int (tabMOST 4)) := va_eqt (hs (Cond.eq (.elem (.static "LeaningStreet" "MOST" "[I") (.int 4)) (.int (999))) (by decide +kernel))
  have e5 : (Term.elem (.static "LeaningStreet" "MOST" "[I") (.int (Int32.ofNat 5))).eval #[Value.ref b] s none [] s = some (.int (tabMOST 5)) := va_eqt (hs (Cond.eq (.elem (.static "LeaningStreet" "MOST" "[I") (.int 5)) (.int (9))) (by decide +kernel))
  obtain ⟨t, ht, hT⟩ := va_Tof (tm := (.static "LeaningStreet" "MOST" "[I")) (ty := .int) (N := 6) (f := fun j => .int (tabMOST j)) (A := fun q => s.heap.size ≤ q) (by decide) (hs (Cond.arrayOf (.static "LeaningStreet" "MOST" "[I") .int) (by decide +kernel)) (va_eqt (hs (Cond.eq (.length (.static "LeaningStreet" "MOST" "[I")) (.int 6)) (by decide +kernel))) (fun j hj => by
    match j, hj with
    | 0, _ => exact e0
    | 1, _ => exact e1
    | 2, _ => exact e2
    | 3, _ => exact e3
    | 4, _ => exact e4
    | 5, _ => exact e5
    | n + 6, h => exact absurd h (by omega)) hA
  exact ⟨t, va_Zof (hts (Cond.laysStatic "LeaningStreet" "MOST" "[I") (List.mem_of_getElem? (i := 315) (by decide +kernel))) (hts _ tIni_X6) ht hA, hT⟩
set_option maxRecDepth 100000 in
theorem zs_ABOVE {s : State} {b : Nat} (hts : ∀ w ∈ lw_tbl, w.before #[Value.ref b] s = true) (hgv : (Jvm.Cond.and given_1 narrow_1).before #[Value.ref b] s = true) : zT1 "ABOVE" 6 tabABOVE (fun q => s.heap.size ≤ q) s s.heap := by
  have hs := flat_of_before _ hgv
  have hA : ∀ a : Nat, a < s.heap.size → ¬ (fun q => s.heap.size ≤ q) a := fun a h => Nat.not_le.mpr h
  have e0 : (Term.elem (.static "LeaningStreet" "ABOVE" "[I") (.int (Int32.ofNat 0))).eval #[Value.ref b] s none [] s = some (.int (tabABOVE 0)) := va_eqt (hs (Cond.eq (.elem (.static "LeaningStreet" "ABOVE" "[I") (.int 0)) (.int (-1))) (by decide +kernel))
  have e1 : (Term.elem (.static "LeaningStreet" "ABOVE" "[I") (.int (Int32.ofNat 1))).eval #[Value.ref b] s none [] s = some (.int (tabABOVE 1)) := va_eqt (hs (Cond.eq (.elem (.static "LeaningStreet" "ABOVE" "[I") (.int 1)) (.int (0))) (by decide +kernel))
  have e2 : (Term.elem (.static "LeaningStreet" "ABOVE" "[I") (.int (Int32.ofNat 2))).eval #[Value.ref b] s none [] s = some (.int (tabABOVE 2)) := va_eqt (hs (Cond.eq (.elem (.static "LeaningStreet" "ABOVE" "[I") (.int 2)) (.int (0))) (by decide +kernel))
  have e3 : (Term.elem (.static "LeaningStreet" "ABOVE" "[I") (.int (Int32.ofNat 3))).eval #[Value.ref b] s none [] s = some (.int (tabABOVE 3)) := va_eqt (hs (Cond.eq (.elem (.static "LeaningStreet" "ABOVE" "[I") (.int 3)) (.int (1))) (by decide +kernel))
  have e4 : (Term.elem (.static "LeaningStreet" "ABOVE" "[I") (.int (Int32.ofNat 4))).eval #[Value.ref b] s none [] s = some (.int (tabABOVE 4)) := va_eqt (hs (Cond.eq (.elem (.static "LeaningStreet" "ABOVE" "[I") (.int 4)) (.int (2))) (by decide +kernel))
  have e5 : (Term.elem (.static "LeaningStreet" "ABOVE" "[I") (.int (Int32.ofNat 5))).eval #[Value.ref b] s none [] s = some (.int (tabABOVE 5)) := va_eqt (hs (Cond.eq (.elem (.static "LeaningStreet" "ABOVE" "[I") (.int 5)) (.int (0))) (by decide +kernel))
  obtain ⟨t, ht, hT⟩ := va_Tof (tm := (.static "LeaningStreet" "ABOVE" "[I")) (ty := .int) (N := 6) (f := fun j => .int (tabABOVE j)) (A := fun q => s.heap.size ≤ q) (by decide) (hs (Cond.arrayOf (.static "LeaningStreet" "ABOVE" "[I") .int) (by decide +kernel)) (va_eqt (hs (Cond.eq (.length (.static "LeaningStreet" "ABOVE" "[I")) (.int 6)) (by decide +kernel))) (fun j hj => by
    match j, hj with
    | 0, _ => exact e0
    | 1, _ => exact e1
    | 2, _ => exact e2
    | 3, _ => exact e3
    | 4, _ => exact e4
    | 5, _ => exact e5
    | n + 6, h => exact absurd h (by omega)) hA
  exact ⟨t, va_Zof (hts (Cond.laysStatic "LeaningStreet" "ABOVE" "[I") (List.mem_of_getElem? (i := 387) (by decide +kernel))) (hts _ tIni_X6) ht hA, hT⟩
set_option maxRecDepth 100000 in
theorem zs_str {s : State} {b : Nat} (hts : ∀ w ∈ lw_tbl, w.before #[Value.ref b] s = true) (hgv : (Jvm.Cond.and given_1 narrow_1).before #[Value.ref b] s = true) : ∃ aStr aByt : Nat → Nat, zStr aStr aByt (fun q => s.heap.size ≤ q) s s.heap := by
  have hs := flat_of_before _ hgv
  have hA : ∀ a : Nat, a < s.heap.size → ¬ (fun q => s.heap.size ≤ q) a := fun a h => Nat.not_le.mpr h
  have q1 : ∀ i : Nat, i < 6 → (Cond.exactly (.string RX1 (idxS i)) "java/lang/String").before #[Value.ref b] s = true := fun i hi => by
    match i, hi with
    | 0, _ => exact (hs (Cond.exactly (.string "LeaningStreet$Reader" 66) "java/lang/String") (by decide +kernel))
    | 1, _ => exact (hs (Cond.exactly (.string "LeaningStreet$Reader" 68) "java/lang/String") (by decide +kernel))
    | 2, _ => exact (hs (Cond.exactly (.string "LeaningStreet$Reader" 70) "java/lang/String") (by decide +kernel))
    | 3, _ => exact (hs (Cond.exactly (.string "LeaningStreet$Reader" 123) "java/lang/String") (by decide +kernel))
    | 4, _ => exact (hs (Cond.exactly (.string "LeaningStreet$Reader" 125) "java/lang/String") (by decide +kernel))
    | 5, _ => exact (hs (Cond.exactly (.string "LeaningStreet$Reader" 127) "java/lang/String") (by decide +kernel))
    | n + 6, h => exact absurd h (by omega)
  have q2 : ∀ i : Nat, i < 6 → (Cond.eq (.field (.string RX1 (idxS i)) "java/lang/String" "coder" "B") (.int 0)).before #[Value.ref b] s = true := fun i hi => by
    match i, hi with
    | 0, _ => exact (hs (Cond.eq (.field (.string "LeaningStreet$Reader" 66) "java/lang/String" "coder" "B") (.int 0)) (by decide +kernel))
    | 1, _ => exact (hs (Cond.eq (.field (.string "LeaningStreet$Reader" 68) "java/lang/String" "coder" "B") (.int 0)) (by decide +kernel))
    | 2, _ => exact (hs (Cond.eq (.field (.string "LeaningStreet$Reader" 70) "java/lang/String" "coder" "B") (.int 0)) (by decide +kernel))
    | 3, _ => exact (hs (Cond.eq (.field (.string "LeaningStreet$Reader" 123) "java/lang/String" "coder" "B") (.int 0)) (by decide +kernel))
    | 4, _ => exact (hs (Cond.eq (.field (.string "LeaningStreet$Reader" 125) "java/lang/String" "coder" "B") (.int 0)) (by decide +kernel))
    | 5, _ => exact (hs (Cond.eq (.field (.string "LeaningStreet$Reader" 127) "java/lang/String" "coder" "B") (.int 0)) (by decide +kernel))
    | n + 6, h => exact absurd h (by omega)
  have q3 : ∀ i : Nat, i < 6 → (Cond.arrayOf (.field (.string RX1 (idxS i)) "java/lang/String" "value" "[B") .byte).before #[Value.ref b] s = true := fun i hi => by
    match i, hi with
    | 0, _ => exact (hs (Cond.arrayOf (.field (.string "LeaningStreet$Reader" 66) "java/lang/String" "value" "[B") .byte) (by decide +kernel))
    | 1, _ => exact (hs (Cond.arrayOf (.field (.string "LeaningStreet$Reader" 68) "java/lang/String" "value" "[B") .byte) (by decide +kernel))
    | 2, _ => exact (hs (Cond.arrayOf (.field (.string "LeaningStreet$Reader" 70) "java/lang/String" "value" "[B") .byte) (by decide +kernel))
    | 3, _ => exact (hs (Cond.arrayOf (.field (.string "LeaningStreet$Reader" 123) "java/lang/String" "value" "[B") .byte) (by decide +kernel))
    | 4, _ => exact (hs (Cond.arrayOf (.field (.string "LeaningStreet$Reader" 125) "java/lang/String" "value" "[B") .byte) (by decide +kernel))
    | 5, _ => exact (hs (Cond.arrayOf (.field (.string "LeaningStreet$Reader" 127) "java/lang/String" "value" "[B") .byte) (by decide +kernel))
    | n + 6, h => exact absurd h (by omega)
  have q4 : ∀ i : Nat, i < 6 → (Cond.eq (.length (.field (.string RX1 (idxS i)) "java/lang/String" "value" "[B")) (.int (Int32.ofNat (lenS.getD i 0)))).before #[Value.ref b] s = true := fun i hi => by
    match i, hi with
    | 0, _ => exact (hs (Cond.eq (.length (.field (.string "LeaningStreet$Reader" 66) "java/lang/String" "value" "[B")) (.int 4)) (by decide +kernel))
    | 1, _ => exact (hs (Cond.eq (.length (.field (.string "LeaningStreet$Reader" 68) "java/lang/String" "value" "[B")) (.int 3)) (by decide +kernel))
    | 2, _ => exact (hs (Cond.eq (.length (.field (.string "LeaningStreet$Reader" 70) "java/lang/String" "value" "[B")) (.int 4)) (by decide +kernel))
    | 3, _ => exact (hs (Cond.eq (.length (.field (.string "LeaningStreet$Reader" 123) "java/lang/String" "value" "[B")) (.int 3)) (by decide +kernel))
    | 4, _ => exact (hs (Cond.eq (.length (.field (.string "LeaningStreet$Reader" 125) "java/lang/String" "value" "[B")) (.int 2)) (by decide +kernel))
    | 5, _ => exact (hs (Cond.eq (.length (.field (.string "LeaningStreet$Reader" 127) "java/lang/String" "value" "[B")) (.int 2)) (by decide +kernel))
    | n + 6, h => exact absurd h (by omega)
  have w0 : ∀ j : Nat, j < 4 → (Cond.eq (.elem (.field (.string "LeaningStreet$Reader" 66) "java/lang/String" "value" "[B") (.int (Int32.ofNat j))) (.int ((bytS.getD 0 []).getD j 0))).before #[Value.ref b] s = true := fun j hj => by
    match j, hj with
    | 0, _ => exact (hs (Cond.eq (.elem (.field (.string "LeaningStreet$Reader" 66) "java/lang/String" "value" "[B") (.int 0)) (.int 112)) (by decide +kernel))
    | 1, _ => exact (hs (Cond.eq (.elem (.field (.string "LeaningStreet$Reader" 66) "java/lang/String" "value" "[B") (.int 1)) (.int 117)) (by decide +kernel))
    | 2, _ => exact (hs (Cond.eq (.elem (.field (.string "LeaningStreet$Reader" 66) "java/lang/String" "value" "[B") (.int 2)) (.int 115)) (by decide +kernel))
    | 3, _ => exact (hs (Cond.eq (.elem (.field (.string "LeaningStreet$Reader" 66) "java/lang/String" "value" "[B") (.int 3)) (.int 104)) (by decide +kernel))
    | n + 4, h => exact absurd h (by omega)
  have w1 : ∀ j : Nat, j < 3 → (Cond.eq (.elem (.field (.string "LeaningStreet$Reader" 68) "java/lang/String" "value" "[B") (.int (Int32.ofNat j))) (.int ((bytS.getD 1 []).getD j 0))).before #[Value.ref b] s = true := fun j hj => by
    match j, hj with
    | 0, _ => exact (hs (Cond.eq (.elem (.field (.string "LeaningStreet$Reader" 68) "java/lang/String" "value" "[B") (.int 0)) (.int 102)) (by decide +kernel))
    | 1, _ => exact (hs (Cond.eq (.elem (.field (.string "LeaningStreet$Reader" 68) "java/lang/String" "value" "[B") (.int 1)) (.int 101)) (by decide +kernel))
    | 2, _ => exact (hs (Cond.eq (.elem (.field (.string "LeaningStreet$Reader" 68) "java/lang/String" "value" "[B") (.int 2)) (.int 101)) (by decide +kernel))
    | n + 3, h => exact absurd h (by omega)
  have w2 : ∀ j : Nat, j < 4 → (Cond.eq (.elem (.field (.string "LeaningStreet$Reader" 70) "java/lang/String" "value" "[B") (.int (Int32.ofNat j))) (.int ((bytS.getD 2 []).getD j 0))).before #[Value.ref b] s = true := fun j hj => by
    match j, hj with
    | 0, _ => exact (hs (Cond.eq (.elem (.field (.string "LeaningStreet$Reader" 70) "java/lang/String" "value" "[B") (.int 0)) (.int 102)) (by decide +kernel))
    | 1, _ => exact (hs (Cond.eq (.elem (.field (.string "LeaningStreet$Reader" 70) "java/lang/String" "value" "[B") (.int 1)) (.int 105)) (by decide +kernel))
    | 2, _ => exact (hs (Cond.eq (.elem (.field (.string "LeaningStreet$Reader" 70) "java/lang/String" "value" "[B") (.int 2)) (.int 110)) (by decide +kernel))
    | 3, _ => exact (hs (Cond.eq (.elem (.field (.string "LeaningStreet$Reader" 70) "java/lang/String" "value" "[B") (.int 3)) (.int 101)) (by decide +kernel))
    | n + 4, h => exact absurd h (by omega)
  have w3 : ∀ j : Nat, j < 3 → (Cond.eq (.elem (.field (.string "LeaningStreet$Reader" 123) "java/lang/String" "value" "[B") (.int (Int32.ofNat j))) (.int ((bytS.getD 3 []).getD j 0))).before #[Value.ref b] s = true := fun j hj => by
    match j, hj with
    | 0, _ => exact (hs (Cond.eq (.elem (.field (.string "LeaningStreet$Reader" 123) "java/lang/String" "value" "[B") (.int 0)) (.int 119)) (by decide +kernel))
    | 1, _ => exact (hs (Cond.eq (.elem (.field (.string "LeaningStreet$Reader" 123) "java/lang/String" "value" "[B") (.int 1)) (.int 108)) (by decide +kernel))
    | 2, _ => exact (hs (Cond.eq (.elem (.field (.string "LeaningStreet$Reader" 123) "java/lang/String" "value" "[B") (.int 2)) (.int 99)) (by decide +kernel))
    | n + 3, h => exact absurd h (by omega)
  have w4 : ∀ j : Nat, j < 2 → (Cond.eq (.elem (.field (.string "LeaningStreet$Reader" 125) "java/lang/String" "value" "[B") (.int (Int32.ofNat j))) (.int ((bytS.getD 4 []).getD j 0))).before #[Value.ref b] s = true := fun j hj => by
    match j, hj with
    | 0, _ => exact (hs (Cond.eq (.elem (.field (.string "LeaningStreet$Reader" 125) "java/lang/String" "value" "[B") (.int 0)) (.int 114)) (by decide +kernel))
    | 1, _ => exact (hs (Cond.eq (.elem (.field (.string "LeaningStreet$Reader" 125) "java/lang/String" "value" "[B") (.int 1)) (.int 100)) (by decide +kernel))
    | n + 2, h => exact absurd h (by omega)
  have w5 : ∀ j : Nat, j < 2 → (Cond.eq (.elem (.field (.string "LeaningStreet$Reader" 127) "java/lang/String" "value" "[B") (.int (Int32.ofNat j))) (.int ((bytS.getD 5 []).getD j 0))).before #[Value.ref b] s = true := fun j hj => by
    match j, hj with
    | 0, _ => exact (hs (Cond.eq (.elem (.field (.string "LeaningStreet$Reader" 127) "java/lang/String" "value" "[B") (.int 0)) (.int 99)) (by decide +kernel))
    | 1, _ => exact (hs (Cond.eq (.elem (.field (.string "LeaningStreet$Reader" 127) "java/lang/String" "value" "[B") (.int 1)) (.int 112)) (by decide +kernel))
    | n + 2, h => exact absurd h (by omega)
  have q5 : ∀ i : Nat, i < 6 → ∀ j : Nat, j < lenS.getD i 0 → (Cond.eq (.elem (.field (.string RX1 (idxS i)) "java/lang/String" "value" "[B") (.int (Int32.ofNat j))) (.int ((bytS.getD i []).getD j 0))).before #[Value.ref b] s = true := fun i hi => by
    match i, hi with
    | 0, _ => exact w0
    | 1, _ => exact w1
    | 2, _ => exact w2
    | 3, _ => exact w3
    | 4, _ => exact w4
    | 5, _ => exact w5
    | n + 6, h => exact absurd h (by omega)
  have d01 : (Cond.not (Cond.eq (.string "LeaningStreet$Reader" 66) (.string "LeaningStreet$Reader" 68))).before #[Value.ref b] s = true := (hs (Cond.not (Cond.eq (.string "LeaningStreet$Reader" 66) (.string "LeaningStreet$Reader" 68))) (by decide +kernel))
  have d02 : (Cond.not (Cond.eq (.string "LeaningStreet$Reader" 66) (.string "LeaningStreet$Reader" 70))).before #[Value.ref b] s = true := (hs (Cond.not (Cond.eq (.string "LeaningStreet$Reader" 66) (.string "LeaningStreet$Reader" 70))) (by decide +kernel))
  have d03 : (Cond.not (Cond.eq (.string "LeaningStreet$Reader" 66) (.string "LeaningStreet$Reader" 123))).before #[Value.ref b] s = true := (hs (Cond.not (Cond.eq (.string "LeaningStreet$Reader" 66) (.string "LeaningStreet$Reader" 123))) (by decide +kernel))
  have d04 : (Cond.not (Cond.eq (.string "LeaningStreet$Reader" 66) (.string "LeaningStreet$Reader" 125))).before #[Value.ref b] s = true := (hs (Cond.not (Cond.eq (.string "LeaningStreet$Reader" 66) (.string "LeaningStreet$Reader" 125))) (by decide +kernel))
  have d05 : (Cond.not (Cond.eq (.string "LeaningStreet$Reader" 66) (.string "LeaningStreet$Reader" 127))).before #[Value.ref b] s = true := (hs (Cond.not (Cond.eq (.string "LeaningStreet$Reader" 66) (.string "LeaningStreet$Reader" 127))) (by decide +kernel))
  have d12 : (Cond.not (Cond.eq (.string "LeaningStreet$Reader" 68) (.string "LeaningStreet$Reader" 70))).before #[Value.ref b] s = true := (hs (Cond.not (Cond.eq (.string "LeaningStreet$Reader" 68) (.string "LeaningStreet$Reader" 70))) (by decide +kernel))
  have d13 : (Cond.not (Cond.eq (.string "LeaningStreet$Reader" 68) (.string "LeaningStreet$Reader" 123))).before #[Value.ref b] s = true := (hs (Cond.not (Cond.eq (.string "LeaningStreet$Reader" 68) (.string "LeaningStreet$Reader" 123))) (by decide +kernel))
  have d14 : (Cond.not (Cond.eq (.string "LeaningStreet$Reader" 68) (.string "LeaningStreet$Reader" 125))).before #[Value.ref b] s = true := (hs (Cond.not (Cond.eq (.string "LeaningStreet$Reader" 68) (.string "LeaningStreet$Reader" 125))) (by decide +kernel))
  have d15 : (Cond.not (Cond.eq (.string "LeaningStreet$Reader" 68) (.string "LeaningStreet$Reader" 127))).before #[Value.ref b] s = true := (hs (Cond.not (Cond.eq (.string "LeaningStreet$Reader" 68) (.string "LeaningStreet$Reader" 127))) (by decide +kernel))
  have d23 : (Cond.not (Cond.eq (.string "LeaningStreet$Reader" 70) (.string "LeaningStreet$Reader" 123))).before #[Value.ref b] s = true := (hs (Cond.not (Cond.eq (.string "LeaningStreet$Reader" 70) (.string "LeaningStreet$Reader" 123))) (by decide +kernel))
  have d24 : (Cond.not (Cond.eq (.string "LeaningStreet$Reader" 70) (.string "LeaningStreet$Reader" 125))).before #[Value.ref b] s = true := (hs (Cond.not (Cond.eq (.string "LeaningStreet$Reader" 70) (.string "LeaningStreet$Reader" 125))) (by decide +kernel))
  have d25 : (Cond.not (Cond.eq (.string "LeaningStreet$Reader" 70) (.string "LeaningStreet$Reader" 127))).before #[Value.ref b] s = true := (hs (Cond.not (Cond.eq (.string "LeaningStreet$Reader" 70) (.string "LeaningStreet$Reader" 127))) (by decide +kernel))
  have d34 : (Cond.not (Cond.eq (.string "LeaningStreet$Reader" 123) (.string "LeaningStreet$Reader" 125))).before #[Value.ref b] s = true := (hs (Cond.not (Cond.eq (.string "LeaningStreet$Reader" 123) (.string "LeaningStreet$Reader" 125))) (by decide +kernel))
  have d35 : (Cond.not (Cond.eq (.string "LeaningStreet$Reader" 123) (.string "LeaningStreet$Reader" 127))).before #[Value.ref b] s = true := (hs (Cond.not (Cond.eq (.string "LeaningStreet$Reader" 123) (.string "LeaningStreet$Reader" 127))) (by decide +kernel))
  have d45 : (Cond.not (Cond.eq (.string "LeaningStreet$Reader" 125) (.string "LeaningStreet$Reader" 127))).before #[Value.ref b] s = true := (hs (Cond.not (Cond.eq (.string "LeaningStreet$Reader" 125) (.string "LeaningStreet$Reader" 127))) (by decide +kernel))
  have q6 : ∀ i j : Nat, i < 6 → j < 6 → i ≠ j → (Cond.not (Cond.eq (.string RX1 (idxS i)) (.string RX1 (idxS j)))).before #[Value.ref b] s = true ∨ (Cond.not (Cond.eq (.string RX1 (idxS j)) (.string RX1 (idxS i)))).before #[Value.ref b] s = true := fun i j hi hj hn => by
    match i, hi with
    | 0, _ =>
      match j, hj with
      | 0, _ => exact absurd rfl hn
      | 1, _ => exact Or.inl d01
      | 2, _ => exact Or.inl d02
      | 3, _ => exact Or.inl d03
      | 4, _ => exact Or.inl d04
      | 5, _ => exact Or.inl d05
      | n + 6, h => exact absurd h (by omega)
    | 1, _ =>
      match j, hj with
      | 0, _ => exact Or.inr d01
      | 1, _ => exact absurd rfl hn
      | 2, _ => exact Or.inl d12
      | 3, _ => exact Or.inl d13
      | 4, _ => exact Or.inl d14
      | 5, _ => exact Or.inl d15
      | n + 6, h => exact absurd h (by omega)
    | 2, _ =>
      match j, hj with
      | 0, _ => exact Or.inr d02
      | 1, _ => exact Or.inr d12
      | 2, _ => exact absurd rfl hn
      | 3, _ => exact Or.inl d23
      | 4, _ => exact Or.inl d24
      | 5, _ => exact Or.inl d25
      | n + 6, h => exact absurd h (by omega)
    | 3, _ =>
      match j, hj with
      | 0, _ => exact Or.inr d03
      | 1, _ => exact Or.inr d13
      | 2, _ => exact Or.inr d23
      | 3, _ => exact absurd rfl hn
      | 4, _ => exact Or.inl d34
      | 5, _ => exact Or.inl d35
      | n + 6, h => exact absurd h (by omega)
    | 4, _ =>
      match j, hj with
      | 0, _ => exact Or.inr d04
      | 1, _ => exact Or.inr d14
      | 2, _ => exact Or.inr d24
      | 3, _ => exact Or.inr d34
      | 4, _ => exact absurd rfl hn
      | 5, _ => exact Or.inl d45
      | n + 6, h => exact absurd h (by omega)
    | 5, _ =>
      match j, hj with
      | 0, _ => exact Or.inr d05
      | 1, _ => exact Or.inr d15
      | 2, _ => exact Or.inr d25
      | 3, _ => exact Or.inr d35
      | 4, _ => exact Or.inr d45
      | 5, _ => exact absurd rfl hn
      | n + 6, h => exact absurd h (by omega)
    | n + 6, h => exact absurd h (by omega)
  obtain ⟨aK, aV, hS, hE⟩ := vk_Sof (tm := fun i => .string RX1 (idxS i)) (len := lenS) (byt := bytS) (N := 6) (A := fun q => s.heap.size ≤ q) (by decide) q1 q2 q3 q4 q5 q6 hA
  refine ⟨aK, aV, hS, fun i hi => ?_, ?_, ?_⟩
  · match i, hi with
    | 0, hi => exact vk_R.of (hts (Cond.stringRef "LeaningStreet$Reader" 66 "push") (List.mem_of_getElem? (i := 620) (by decide +kernel))) (hE 0 hi)
    | 1, hi => exact vk_R.of (hts (Cond.stringRef "LeaningStreet$Reader" 68 "fee") (List.mem_of_getElem? (i := 621) (by decide +kernel))) (hE 1 hi)
    | 2, hi => exact vk_R.of (hts (Cond.stringRef "LeaningStreet$Reader" 70 "fine") (List.mem_of_getElem? (i := 622) (by decide +kernel))) (hE 2 hi)
    | 3, hi => exact vk_R.of (hts (Cond.stringRef "LeaningStreet$Reader" 123 "wlc") (List.mem_of_getElem? (i := 715) (by decide +kernel))) (hE 3 hi)
    | 4, hi => exact vk_R.of (hts (Cond.stringRef "LeaningStreet$Reader" 125 "rd") (List.mem_of_getElem? (i := 716) (by decide +kernel))) (hE 4 hi)
    | 5, hi => exact vk_R.of (hts (Cond.stringRef "LeaningStreet$Reader" 127 "cp") (List.mem_of_getElem? (i := 717) (by decide +kernel))) (hE 5 hi)
    | n + 6, h => exact absurd h (by omega)
  · exact va_Zof (hts (Cond.laysStatic "java/lang/String" "COMPACT_STRINGS" "Z") (List.mem_of_getElem? (i := 636) (by decide +kernel))) (hts _ tIni_J0) (va_eqi (hs (Cond.eq (.static "java/lang/String" "COMPACT_STRINGS" "Z") (.int 1)) (by decide +kernel))) hA
  · exact va_Zqof (hts (Cond.laysStatic "jdk/internal/util/Preconditions" "SIOOBE_FORMATTER" "Ljava/util/function/BiFunction;") (List.mem_of_getElem? (i := 652) (by decide +kernel))) (hts _ tIni_J3) (hs (Cond.isRef (.static "jdk/internal/util/Preconditions" "SIOOBE_FORMATTER" "Ljava/util/function/BiFunction;")) (by decide +kernel)) hA
set_option maxRecDepth 100000 in
theorem z_start {s : State} {b : Nat} (hts : ∀ w ∈ lw_tbl, w.before #[Value.ref b] s = true) (hgv : (Jvm.Cond.and given_1 narrow_1).before #[Value.ref b] s = true) : ∃ aStr aByt : Nat → Nat, zLaw aStr aByt (fun q => s.heap.size ≤ q) s s.heap := by
  obtain ⟨aStr, aByt, h⟩ := zs_str hts hgv
  refine ⟨aStr, aByt, zs_LEAST hts hgv, zs_MOST hts hgv, zs_ABOVE hts hgv, va_Nw.of rfl (hts (Cond.fieldLinkNest RX0 34 "LeaningStreet" "ABOVE" "[I" "LeaningStreet") (List.mem_of_getElem? (i := 386) (by decide +kernel))), va_Nw.of rfl (hts (Cond.fieldLinkNest RX4 100 "LeaningStreet" "MOST" "[I" "LeaningStreet") (List.mem_of_getElem? (i := 474) (by decide +kernel))), va_Nw.of rfl (hts (Cond.fieldLinkNest RX4 97 "LeaningStreet" "LEAST" "[I" "LeaningStreet") (List.mem_of_getElem? (i := 476) (by decide +kernel))), h, va_Nw.of rfl (hts (Cond.methodLinkNest RX4 55 yX0_init "LeaningStreet") (List.mem_of_getElem? (i := 104) (by decide +kernel))), va_Nw.of rfl (hts (Cond.methodLinkNest RX6 24 yX1_init "LeaningStreet") (List.mem_of_getElem? (i := 193) (by decide +kernel))), va_Nw.of rfl (hts (Cond.methodLinkNest RX6 53 yX2_init "LeaningStreet") (List.mem_of_getElem? (i := 232) (by decide +kernel))), va_Nw.of rfl (hts (Cond.methodLinkNest RX6 54 yX3_init "LeaningStreet") (List.mem_of_getElem? (i := 252) (by decide +kernel))), va_Nw.of rfl (hts (Cond.methodLinkNest RX3 20 yX0_init "LeaningStreet") (List.mem_of_getElem? (i := 257) (by decide +kernel))), va_Nw.of rfl (hts (Cond.methodLinkNest RX3 27 yX2_init "LeaningStreet") (List.mem_of_getElem? (i := 259) (by decide +kernel))), va_AO.of (hts (Cond.arrayOver (.object RX0)) (List.mem_of_getElem? (i := 100) (by decide +kernel))), va_AO.of (hts (Cond.arrayOver (.object RX5)) (List.mem_of_getElem? (i := 102) (by decide +kernel))), va_AO.of (hts (Cond.arrayOver (.object RX2)) (List.mem_of_getElem? (i := 228) (by decide +kernel))), va_AO.of (hts (Cond.arrayOver (.object RX3)) (List.mem_of_getElem? (i := 230) (by decide +kernel))), va_Nw.of rfl (hts (Cond.castable "[I" "java/lang/Cloneable") (List.mem_of_getElem? (i := 795) (by decide +kernel)))⟩
theorem arr_obj {s : State} {C : String} {A : Array Value} (h : (Cond.arrayOver (.object C)).before A s = true) : ∃ cA : ClassId, ArrOfT s cA (.object C) ∧ va_RA s cA (.object C) := by
  obtain ⟨comp, c, k, f4, -, f2, f3, f1⟩ := Cond.arrayOver_spec h
  exact ⟨c, fun N z => ⟨(fun k h => by cases h), k, f2, comp, f3⟩, k, comp, f2, f3, f4, f1⟩
theorem arr_int {s : State} {A : Array Value} (h : (Cond.arrayClass .int).before A s = true) : ∃ cA : ClassId, ArrOfT s cA .int ∧ va_RA s cA .int := by
  obtain ⟨c, k, comp, f1, f2, f3⟩ := Cond.arrayClass_spec h
  exact ⟨c, fun N z => ⟨(fun k h => by cases h), k, f2, comp, f3⟩, f1⟩
set_option maxRecDepth 100000 in
theorem k_start {s : State} {b : Nat} (hts : ∀ w ∈ lw_tbl, w.before #[Value.ref b] s = true) : ∃ (D : va_G) (cy : Nat → ClassId), va_K D vwCl (zTy cy) s := by
  have hz : ∀ w ∈ Cond.initialized RX6 :: zT, w.before #[Value.ref b] s = true := fun w hw => by
    rcases List.mem_cons.mp hw with rfl | h
    · exact hts _ tIni_X6
    · exact hts w (List.mem_filter.mp h).1
  obtain ⟨c0, i0, hk0⟩ := u_known (C := RX0) (T := TX0) (N := 7) (n := 7) hz zin_X0 (hts _ tIst_X0)
  obtain ⟨c1, i1, hk1⟩ := u_known (C := RX1) (T := TX1) (N := 9) (n := 9) hz zin_X1 (hts _ tIst_X1)
  obtain ⟨c2, i2, hk2⟩ := u_known (C := RX2) (T := TX2) (N := 3) (n := 3) hz zin_X2 (hts _ tIst_X2)
  obtain ⟨c3, i3, hk3⟩ := u_known (C := RX3) (T := TX3) (N := 4) (n := 4) hz zin_X3 (hts _ tIst_X3)
  obtain ⟨c4, i4, hk4⟩ := u_known (C := RX4) (T := TX4) (N := 12) (n := 12) hz zin_X4 (hts _ tIst_X4)
  obtain ⟨c5, i5, hk5⟩ := u_known (C := RX5) (T := TX5) (N := 5) (n := 5) hz zin_X5 (hts _ tIst_X5)
  obtain ⟨c6, i6, hk6⟩ := u_known (C := RX6) (T := TX6) (N := 9) (n := 9) hz zin_X6 (hts _ tIst_X6)
  obtain ⟨c7, i7, hk7⟩ := u_known (C := RX7) (T := TX7) (N := 33) (n := 33) hz zin_X7 (hts _ tIst_X7)
  obtain ⟨y0, g0⟩ := arr_int (hts (Cond.arrayClass .int) (List.mem_of_getElem? (i := 143) (by decide +kernel)))
  obtain ⟨y1, g1⟩ := arr_obj (hts (Cond.arrayOver (.object RX0)) (List.mem_of_getElem? (i := 100) (by decide +kernel)))
  obtain ⟨y2, g2⟩ := arr_obj (hts (Cond.arrayOver (.object RX2)) (List.mem_of_getElem? (i := 228) (by decide +kernel)))
  obtain ⟨y3, g3⟩ := arr_obj (hts (Cond.arrayOver (.object RX3)) (List.mem_of_getElem? (i := 230) (by decide +kernel)))
  obtain ⟨y4, g4⟩ := arr_obj (hts (Cond.arrayOver (.object RX5)) (List.mem_of_getElem? (i := 102) (by decide +kernel)))
  refine ⟨(fun k => ([c0, c1, c2, c3, c4, c5, c6, c7] : List ClassId).getD k c0, fun k => ([i0, i1, i2, i3, i4, i5, i6, i7] : List (Nat → Nat)).getD k i0), fun k => ([y0, y1, y2, y3, y4] : List ClassId).getD k y0, fun k q hq => ?_, fun k q hq => ?_⟩
  · match k, hq with
    | 0, hq => cases hq; exact hk0
    | 1, hq => cases hq; exact hk1
    | 2, hq => cases hq; exact hk2
    | 3, hq => cases hq; exact hk3
    | 4, hq => cases hq; exact hk4
    | 5, hq => cases hq; exact hk5
    | 6, hq => cases hq; exact hk6
    | 7, hq => cases hq; exact hk7
    | n + 8, hq => cases hq
  · match k, hq with
    | 0, hq => cases hq; exact g0
    | 1, hq => cases hq; exact g1
    | 2, hq => cases hq; exact g2
    | 3, hq => cases hq; exact g3
    | 4, hq => cases hq; exact g4
    | n + 5, hq => cases hq
