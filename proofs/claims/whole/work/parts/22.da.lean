theorem tNat_ac : Cond.native arraycopyName ∈ lw_tbl := List.mem_of_getElem? (i := 800) (by decide +kernel)
theorem pA_s (σ : Sg) (c : Nat) (f : Nat → Int32) : (pA σ c f).1 c = f := mU_s _ _ _
section DA
variable {κ : GC} {cy : Nat → ClassId} {Z : (Nat → Prop) → State → Heap → Prop} {cc : ByteArray} {w0 : Cond} {own : String} {rm : Room} {n1 n2 : Nat} {w : va_W} {pc : Nat} {lv : List (Nat × Value)} {st : List Value} {q : Nat → Nat} {C : Ev → Sg → va_W} {ε : Ev} {σ : Sg}
theorem g_copy (hX : GX κ cy Z cc (w0 :: zT) own rm) {index : Nat} (hl : Cond.methodLink own index arraycopyName ∈ lw_tbl) (q0 q1 : Nat) {a a0 m0 m1 : Nat} {f g : Nat → Int32} {w2 : va_W} (h0 : w[q0]? = some (a0, .inl (cy 0, m0, .inl f))) (h1 : w[q1]? = some (a, .inl (cy 0, m1, .inl g))) {sp dp n : Int32} (g1 : ¬ sp < 0) (g2 : ¬ dp < 0) (g3 : ¬ n < 0) (g4 : sp.toNatClampNeg + n.toNatClampNeg ≤ m0) (g5 : dp.toNatClampNeg + n.toNatClampNeg ≤ m1) (hf : 1 ≤ rm.frames) (hlo : 60 ≤ rm.locals) (hr : (st.map fun v => v.category).sum ≤ 8) (hw2 : w.set q1 (a, .inl (cy 0, m1, .inl (va_cpy f g sp.toNatClampNeg dp.toNatClampNeg n.toNatClampNeg))) = w2) (d : decode cc pc = .ok (.invokestatic index, 3)) (k : GW κ n1 n2 w2 (pc + 3) lv st) : GW κ n1 n2 w pc lv (.int n :: .int dp :: .ref a :: .int sp :: .ref a0 :: st) := by
  obtain ⟨p, l, e, R, s, m, args, below, meth, c, Q, A, D, cy', nL, Z'⟩ := κ
  obtain ⟨hx, hb, hts, hown, hK, hml, hA, hlk, hR, hcy, hZe, hZ⟩ := hX
  subst hR
  subst hcy
  subst hw2
  intro H locs ls hP hD hS hl'
  have hnw : nativeFrameWords "java/lang/System" "arraycopy" 5 + 11 ≤ 52 := by decide
  exact va_copyi hx hb (hml.trans hl'.1.symm) hown (hts _ (zu hl rfl)) (hts _ (zu tNat_ac rfl)) (hts _ (zu tSta_java_lang_System_arraycopy__Ljava_lang_Object_ILjava_lang_Object_II_V rfl)) (hts _ (zu tIni_J10 rfl)) hK hP hD hS q0 q1 0 0 h0 h1 rfl rfl rfl g1 g2 g3 g4 g5 (fun _ _ => rfl) hf (by omega) d (fun H1 locs1 hP hD hS => k H1 locs1 ls hP hD hS hl')
theorem c_copy (hX : GX κ cy Z cc (w0 :: zT) own rm) (hC : cLens cy q C) {index : Nat} (hl : Cond.methodLink own index arraycopyName ∈ lw_tbl) {c0 c1 m0 m1 : Nat} (h0 : isA ε c0 m0) (h1 : isA ε c1 m1) {sp dp n : Int32} (hg : ¬ sp < 0 ∧ ¬ dp < 0 ∧ ¬ n < 0 ∧ sp.toNatClampNeg + n.toNatClampNeg ≤ m0 ∧ dp.toNatClampNeg + n.toNatClampNeg ≤ m1) (hf : 1 ≤ rm.frames) (hlo : 60 ≤ rm.locals) (hr : (st.map fun v => v.category).sum ≤ 8) (d : decode cc pc = .ok (.invokestatic index, 3)) (k : GW κ n1 n2 (C ε (pA σ c1 (va_cpy (σ.1 c0) (σ.1 c1) sp.toNatClampNeg dp.toNatClampNeg n.toNatClampNeg))) (pc + 3) lv st) : GW κ n1 n2 (C ε σ) pc lv (.int n :: .int dp :: .ref (sAd ε c1) :: .int sp :: .ref (sAd ε c0) :: st) :=
  g_copy hX hl (q c0) (q c1) (by rw [hC.1 ε σ c0 h0.1, ka_e h0]) (by rw [hC.1 ε σ c1 h1.1, ka_e h1]) hg.1 hg.2.1 hg.2.2.1 hg.2.2.2.1 hg.2.2.2.2 hf hlo hr (by
    have e := ka_e (cy := cy) (σ := pA σ c1 (va_cpy (σ.1 c0) (σ.1 c1) sp.toNatClampNeg dp.toNatClampNeg n.toNatClampNeg)) h1
    rw [pA_s] at e
    rw [← e]
    exact hC.2 ε σ _ c1 h1.1 pA_cell) d k
theorem s_callM (hX : GX κ cy Z cc (w0 :: zT) own rm) (hzo : zOK Z) {y : MethodName} {cb : ByteArray} {nl : Nat} {rt : Option FieldType} {rm2 : Room} {index : Nat} {res : Option Value} {w2 : va_W} (As rest : List Value) (hM : GD (Kl κ) (KD κ) cy Z y (zW y cb nl rt) rm2 As w res w2 0 0) (hk : mKS y cb nl rt As.length) (h1 : Cond.methodLink own index y ∈ lw_tbl) (hrc : rm2.cells = 0) (hrs : rm2.slots = 0) (hR1 : rm2.frames + 1 ≤ rm.frames) (hR2 : 8 + (nl + 11) + rm2.locals ≤ rm.locals) (hf : n1 + 0 ≤ rm.cells ∧ n2 + 0 ≤ rm.slots) {st0 st1 : List Value} (hst : st0 = As.reverse ++ rest) (hst1 : res.toList ++ rest = st1) (hrest : (rest.map fun v => v.category).sum ≤ 8) (d : decode cc pc = .ok (.invokestatic index, 3)) (k : GW κ n1 n2 w2 (pc + 3) lv st1) : GW κ n1 n2 w pc lv st0 := by
  refine g_callS hX hzo As rest hM (z_S h1 hk.1 hk.2.1 hk.2.2.1) rfl hrc hrs hk.2.2.2 hR1 hR2 hst hrest hf d ?_
  rintro res' w' ⟨rfl, rfl⟩
  rw [hst1]
  exact k
theorem g_astq (hX : GX κ cy Z cc (w0 :: zT) own rm) {a n : Nat} {f : Nat → Option Nat} {i : Int32} {w2 : va_W} {v : Nat} {r : vw_C} {vs : List Value} (q0 t0 qk ci : Nat) (he : w[q0]? = some (a, .inl (cy t0, n, .inr (.inr (.inr (.inr f)))))) (ht : (zTy cy)[t0]? = some (cy t0, .object r.1)) (hv : w[qk]? = some (v, .inr (ci, vs))) (hc : vwCl[ci]? = some r) (hi : ¬ (i < 0 ∨ n ≤ i.toNatClampNeg)) (hw2 : w.set q0 (a, .inl (cy t0, n, .inr (.inr (.inr (.inr (va_up f i.toNatClampNeg (some v))))))) = w2) (d : decode cc pc = .ok (.aastore, 1)) (k : GW κ n1 n2 w2 (pc + 1) lv st) : GW κ n1 n2 w pc lv (.ref v :: .int i :: .ref a :: st) := by
  obtain ⟨p, l, e, R, s, m, args, below, meth, c, Q, A, D, cy', nL, Z'⟩ := κ
  obtain ⟨hx, hb, hts, hown, hK, hml, hA, hlk, hR, hcy, hZe, hZ⟩ := hX
  subst hcy
  subst hw2
  intro H locs ls hP hD hS hl'
  exact va_astq hx hb hK hP hD hS q0 t0 qk ci he ht hv hc hi d (fun H1 locs1 hP hD hS => k H1 locs1 ls hP hD hS hl')
theorem g_astqN (hX : GX κ cy Z cc (w0 :: zT) own rm) {a n : Nat} {f : Nat → Option Nat} {i : Int32} {w2 : va_W} {Cn : String} (q0 t0 : Nat) (he : w[q0]? = some (a, .inl (cy t0, n, .inr (.inr (.inr (.inr f)))))) (ht : (zTy cy)[t0]? = some (cy t0, .object Cn)) (hi : ¬ (i < 0 ∨ n ≤ i.toNatClampNeg)) (hw2 : w.set q0 (a, .inl (cy t0, n, .inr (.inr (.inr (.inr (va_up f i.toNatClampNeg none)))))) = w2) (d : decode cc pc = .ok (.aastore, 1)) (k : GW κ n1 n2 w2 (pc + 1) lv st) : GW κ n1 n2 w pc lv (.null :: .int i :: .ref a :: st) := by
  obtain ⟨p, l, e, R, s, m, args, below, meth, c, Q, A, D, cy', nL, Z'⟩ := κ
  obtain ⟨hx, hb, hts, hown, hK, hml, hA, hlk, hR, hcy, hZe, hZ⟩ := hX
  subst hcy
  subst hw2
  intro H locs ls hP hD hS hl'
  exact va_astqN hx hb hK hP hD hS q0 t0 he ht hi d (fun H1 locs1 hP hD hS => k H1 locs1 ls hP hD hS hl')
theorem c_aastQ (hX : GX κ cy Z cc (w0 :: zT) own rm) (hC : cLens cy q C) {c n : Nat} {f : Nat → Option Nat} {o : Option Nat} (hc : isQ cy ε σ c n 4 f) {i : Int32} (hp : cellE cy ε (pT σ c i.toNatClampNeg o) c = .inl (cy 4, n, .inr (.inr (.inr (.inr (va_up f i.toNatClampNeg (o.map (sAd ε)))))))) (hi : ¬ (i < 0 ∨ n ≤ i.toNatClampNeg)) (ho : ∀ x ∈ o, isX5 ε x) (d : decode cc pc = .ok (.aastore, 1)) (k : GW κ n1 n2 (C ε (pT σ c i.toNatClampNeg o)) (pc + 1) lv st) : GW κ n1 n2 (C ε σ) pc lv (va_rf (o.map (sAd ε)) :: .int i :: .ref (sAd ε c) :: st) := by
  have hs := hC.2 ε σ (pT σ c i.toNatClampNeg o) c hc.1 pT_cell
  rw [hp] at hs
  cases o with
  | none => exact g_astqN hX (q c) 4 (by rw [hC.1 ε σ c hc.1, hc.2]) rfl hi hs d k
  | some x =>
    have hx := ho x rfl
    exact g_astq hX (q c) 4 (q x) 5 (by rw [hC.1 ε σ c hc.1, hc.2]) rfl (by rw [hC.1 ε σ x (kc_X5 (cy := cy) (σ := σ) hx).1, (kc_X5 hx).2]) rfl hi hs d k
end DA
theorem kp_X4_2 {cy : Nat → ClassId} {ε : Ev} {σ : Sg} {c j : Nat} {o : Option Nat} (h : isX4 c) : cellE cy ε (pT σ (c + 2) j o) (c + 2) = .inl (cy 4, 14, .inr (.inr (.inr (.inr (va_up (fun k => (σ.2 (c + 2) k).map (sAd ε)) j (o.map (sAd ε))))))) := by
  have e : (fun k => ((pT σ (c + 2) j o).2 (c + 2) k).map (sAd ε)) = va_up (fun k => (σ.2 (c + 2) k).map (sAd ε)) j (o.map (sAd ε)) := by
    funext x
    by_cases hx : x = j <;> simp [pT, va_up, hx]
  rw [← e]
  simp only [isX4, List.mem_cons, List.not_mem_nil, or_false] at h
  rcases h with rfl | rfl | rfl <;> rfl
theorem kp_X4_3 {cy : Nat → ClassId} {ε : Ev} {σ : Sg} {c j : Nat} {o : Option Nat} (h : isX4 c) : cellE cy ε (pT σ (c + 3) j o) (c + 3) = .inl (cy 4, 3, .inr (.inr (.inr (.inr (va_up (fun k => (σ.2 (c + 3) k).map (sAd ε)) j (o.map (sAd ε))))))) := by
  have e : (fun k => ((pT σ (c + 3) j o).2 (c + 3) k).map (sAd ε)) = va_up (fun k => (σ.2 (c + 3) k).map (sAd ε)) j (o.map (sAd ε)) := by
    funext x
    by_cases hx : x = j <;> simp [pT, va_up, hx]
  rw [← e]
  simp only [isX4, List.mem_cons, List.not_mem_nil, or_false] at h
  rcases h with rfl | rfl | rfl <;> rfl
