abbrev Mg : Type := (Nat → Int32) × (Nat → Int32) × (Nat → Nat → Int32)
theorem gm_mono {l : Launch} {D : va_G} {cy : Nat → ClassId} {Z : (Nat → Prop) → State → Heap → Prop} {y : MethodName} {ws : List Cond} {rm : Room} {av : List Value} {w : va_W} {Po Po' : Option Value → va_W → Prop} {mc ms : Nat} (h : GM l D cy Z y ws rm av w Po mc ms) (hi : ∀ r w2, Po r w2 → Po' r w2) : GM l D cy Z y ws rm av w Po' mc ms := by
  intro sz p e ha hc hk s m args below hf happ hP hK
  obtain ⟨n, o, h1, h2, h3, ⟨⟨⟨res, w2, hPo, ho, hp2, hd2⟩, hF⟩, hL⟩⟩ := h sz p e ha hc hk s m args below hf happ hP hK
  exact ⟨n, o, h1, h2, h3, ⟨⟨⟨res, w2, hi _ _ hPo, ho, hp2, hd2⟩, hF⟩, hL⟩⟩
noncomputable def cif {γ : Type} (p : Prop) (a : Option γ) : Option γ := @ite _ p (Classical.propDecidable p) a none
theorem cif_pos {γ : Type} {p : Prop} {a : Option γ} (h : p) : cif p a = a := by unfold cif; exact @if_pos _ (Classical.propDecidable p) h _ _ _
theorem cif_some {γ : Type} {p : Prop} {a : Option γ} {c : γ} (h : cif p a = some c) : p ∧ a = some c := by
  by_cases hp : p
  · rw [cif_pos hp] at h; exact ⟨hp, h⟩
  · unfold cif at h; rw [@if_neg _ (Classical.propDecidable p) hp] at h; cases h
theorem lk_ne {x : Int32} {k : Nat} (h : ¬ x = nI k) (hk : k < 2 ^ 31) : ¬ ((k : Int) = x.toInt) := fun e => h (Int32.toInt_inj.mp (by rw [nI_toInt hk]; exact e.symm))
abbrev nOf (s : Nat → Int32) : Nat := (s 0).toNatClampNeg
abbrev tOf (s : Nat → Int32) : Nat := (s 1).toNatClampNeg
abbrev hN (s : Nat → Int32) : Prop := s 0 = nI (nOf s) ∧ nOf s ≤ 9
abbrev hT (s : Nat → Int32) : Prop := s 1 = nI (tOf s) ∧ tOf s ≤ 14
theorem vin_nI {z : Int32} {n : Nat} (hn : n < 2 ^ 31) (h : ¬ (z < 0 ∨ n ≤ z.toNatClampNeg)) : z = nI z.toNatClampNeg := by
  obtain ⟨j, hj, rfl⟩ := vp_in_of h hn
  rw [nI_clamp (Nat.lt_trans hj hn)]
def fn_X7_manyIn (z : Int32) : Option Int32 := if ¬ (z < 0 ∨ 512 ≤ z.toNatClampNeg) then some (nI (pcN z.toNatClampNeg)) else none
theorem ct_X7_manyIn (l : Launch) (D : va_G) (cy : Nat → ClassId) (Z : (Nat → Prop) → State → Heap → Prop) (hzo : zOK Z) (w : va_W) (z : Int32) (res : Int32) (h : fn_X7_manyIn z = some res) : GD l D cy Z yX7_manyIn (zW yX7_manyIn cX7_manyIn 3 (some .int)) { frames := 0, cells := 0, slots := 0, locals := 0 } [.int z] w (some (.int res)) w 0 0 := by
  obtain ⟨g, e⟩ := gd_some h
  cases e
  have K := c_manyIn l D cy Z w z.toNatClampNeg (vin_lt g)
  rw [← vin_nI (by decide) g] at K
  exact K
def fn_X7_orNone (z : Int32) : Option Int32 := some (if z < 0 then -1000000005 else z)
theorem ct_X7_orNone (l : Launch) (D : va_G) (cy : Nat → ClassId) (Z : (Nat → Prop) → State → Heap → Prop) (hzo : zOK Z) (w : va_W) (z : Int32) (res : Int32) (h : fn_X7_orNone z = some res) : GD l D cy Z yX7_orNone (zW yX7_orNone cX7_orNone 1 (some .int)) { frames := 0, cells := 0, slots := 0, locals := 0 } [.int z] w (some (.int res)) w 0 0 := by cases h; exact c_orNone l D cy Z w z
def fn_X7_held (z lo hi : Int32) : Option Int32 := some (heldI z lo hi)
theorem ct_X7_held (l : Launch) (D : va_G) (cy : Nat → ClassId) (Z : (Nat → Prop) → State → Heap → Prop) (hzo : zOK Z) (w : va_W) (z lo hi : Int32) (res : Int32) (h : fn_X7_held z lo hi = some res) : GD l D cy Z yX7_held (zW yX7_held cX7_held 3 (some .int)) { frames := 0, cells := 0, slots := 0, locals := 0 } [.int z, .int lo, .int hi] w (some (.int res)) w 0 0 := by cases h; exact c_held l D cy Z w z lo hi
def fn_X7_off (z y : Int32) : Option Int32 := some (offI z y)
theorem ct_X7_off (l : Launch) (D : va_G) (cy : Nat → ClassId) (Z : (Nat → Prop) → State → Heap → Prop) (hzo : zOK Z) (w : va_W) (z y : Int32) (res : Int32) (h : fn_X7_off z y = some res) : GD l D cy Z yX7_off (zW yX7_off cX7_off 2 (some .int)) { frames := 0, cells := 0, slots := 0, locals := 0 } [.int z, .int y] w (some (.int res)) w 0 0 := by cases h; exact c_off l D cy Z w z y
noncomputable def fn_X7_allStanding (μ : Mg) : Option (Int32 × Mg) := cif (hN μ.2.1) (some (maskI (sd μ.2.1) (nOf μ.2.1), μ))
theorem ct_X7_allStanding (l : Launch) (D : va_G) (cy : Nat → ClassId) (Z : (Nat → Prop) → State → Heap → Prop) (hzo : zOK Z) {h0 : Nat} {a q : Nat → Nat} {C : (Nat → Int32) → (Nat → Int32) → (Nat → Nat → Int32) → (Nat → Nat → Int32) → va_W} (hC : mLens (cy 0) h0 a q C) (μ μ2 : Mg) (x : Nat → Nat → Int32) (res : Int32) (h : fn_X7_allStanding  μ = some (res, μ2)) : GM l D cy Z yX7_allStanding (zW yX7_allStanding cX7_allStanding 3 (some .int)) { frames := 2, cells := 0, slots := 0, locals := 43 } [.ref h0] (C μ.1 μ.2.1 μ.2.2 x) (fun rs w2 => rs = some (.int res) ∧ ∃ x2, w2 = C μ2.1 μ2.2.1 μ2.2.2 x2) 0 0 := by
  obtain ⟨hp, e⟩ := cif_some h
  cases e
  exact gm_mono (c_allStanding l D cy Z hzo hC μ.1 μ.2.1 μ.2.2 x _ hp.1 hp.2) (by rintro _ _ ⟨rfl, rfl⟩; exact ⟨rfl, x, rfl⟩)
noncomputable def fn_X7_allOf (z : Int32) (μ : Mg) : Option (Int32 × Mg) := cif (hN μ.2.1 ∧ ¬ (z < 0 ∨ 7 ≤ z.toNatClampNeg)) (some (smS μ.2.1 z.toNatClampNeg (nOf μ.2.1), μ))
theorem ct_X7_allOf (l : Launch) (D : va_G) (cy : Nat → ClassId) (Z : (Nat → Prop) → State → Heap → Prop) (hzo : zOK Z) {h0 : Nat} {a q : Nat → Nat} {C : (Nat → Int32) → (Nat → Int32) → (Nat → Nat → Int32) → (Nat → Nat → Int32) → va_W} (hC : mLens (cy 0) h0 a q C) (z : Int32) (μ μ2 : Mg) (x : Nat → Nat → Int32) (res : Int32) (h : fn_X7_allOf z μ = some (res, μ2)) : GM l D cy Z yX7_allOf (zW yX7_allOf cX7_allOf 4 (some .int)) { frames := 1, cells := 0, slots := 0, locals := 22 } [.ref h0, .int z] (C μ.1 μ.2.1 μ.2.2 x) (fun rs w2 => rs = some (.int res) ∧ ∃ x2, w2 = C μ2.1 μ2.2.1 μ2.2.2 x2) 0 0 := by
  obtain ⟨hp, e⟩ := cif_some h
  cases e
  have K := c_allOf l D cy Z hzo hC μ.1 μ.2.1 μ.2.2 x _ hp.1.1 hp.1.2 z.toNatClampNeg (vin_lt hp.2)
  rw [← vin_nI (by decide) hp.2] at K
  exact gm_mono (K) (by rintro _ _ ⟨rfl, rfl⟩; exact ⟨rfl, x, rfl⟩)
noncomputable def fn_X7_counts (z : Int32) (μ : Mg) : Option (Int32 × Mg) := cif (hT μ.2.1) (some (optI (lastO μ.2.1 z (tOf μ.2.1)), μ))
theorem ct_X7_counts (l : Launch) (D : va_G) (cy : Nat → ClassId) (Z : (Nat → Prop) → State → Heap → Prop) (hzo : zOK Z) {h0 : Nat} {a q : Nat → Nat} {C : (Nat → Int32) → (Nat → Int32) → (Nat → Nat → Int32) → (Nat → Nat → Int32) → va_W} (hC : mLens (cy 0) h0 a q C) (z : Int32) (μ μ2 : Mg) (x : Nat → Nat → Int32) (res : Int32) (h : fn_X7_counts z μ = some (res, μ2)) : GM l D cy Z yX7_counts (zW yX7_counts cX7_counts 4 (some .int)) { frames := 1, cells := 0, slots := 0, locals := 21 } [.ref h0, .int z] (C μ.1 μ.2.1 μ.2.2 x) (fun rs w2 => rs = some (.int res) ∧ ∃ x2, w2 = C μ2.1 μ2.2.1 μ2.2.2 x2) 0 0 := by
  obtain ⟨hp, e⟩ := cif_some h
  cases e
  exact gm_mono (c_counts l D cy Z hzo hC μ.1 μ.2.1 μ.2.2 x _ hp.1 hp.2 z) (by rintro _ _ ⟨rfl, rfl⟩; exact ⟨rfl, x, rfl⟩)
noncomputable def fn_X7_laysBy (μ : Mg) : Option (Unit × Mg) := cif (True) (some ((), (μ.1, μ.2.1, mU μ.2.2 14 (cpN 69 μ.2.1 (μ.2.2 14)))))
theorem ct_X7_laysBy (l : Launch) (D : va_G) (cy : Nat → ClassId) (Z : (Nat → Prop) → State → Heap → Prop) (hzo : zOK Z) {h0 : Nat} {a q : Nat → Nat} {C : (Nat → Int32) → (Nat → Int32) → (Nat → Nat → Int32) → (Nat → Nat → Int32) → va_W} (hC : mLens (cy 0) h0 a q C) (μ μ2 : Mg) (x : Nat → Nat → Int32) (res : Unit) (h : fn_X7_laysBy  μ = some (res, μ2)) : GM l D cy Z yX7_laysBy (zW yX7_laysBy cX7_laysBy 2 none) { frames := 0, cells := 0, slots := 0, locals := 0 } [.ref h0] (C μ.1 μ.2.1 μ.2.2 x) (fun rs w2 => rs = none ∧ ∃ x2, w2 = C μ2.1 μ2.2.1 μ2.2.2 x2) 0 0 := by
  obtain ⟨hp, e⟩ := cif_some h
  cases e
  exact gm_mono (c_laysBy l D cy Z hzo hC μ.1 μ.2.1 μ.2.2 x) (by rintro _ _ ⟨rfl, rfl⟩; exact ⟨rfl, x, rfl⟩)
noncomputable def fn_X7_laysBack (μ : Mg) : Option (Unit × Mg) := cif (True) (some ((), (μ.1, cpN 69 (μ.2.2 14) μ.2.1, μ.2.2)))
theorem ct_X7_laysBack (l : Launch) (D : va_G) (cy : Nat → ClassId) (Z : (Nat → Prop) → State → Heap → Prop) (hzo : zOK Z) {h0 : Nat} {a q : Nat → Nat} {C : (Nat → Int32) → (Nat → Int32) → (Nat → Nat → Int32) → (Nat → Nat → Int32) → va_W} (hC : mLens (cy 0) h0 a q C) (μ μ2 : Mg) (x : Nat → Nat → Int32) (res : Unit) (h : fn_X7_laysBack  μ = some (res, μ2)) : GM l D cy Z yX7_laysBack (zW yX7_laysBack cX7_laysBack 2 none) { frames := 0, cells := 0, slots := 0, locals := 0 } [.ref h0] (C μ.1 μ.2.1 μ.2.2 x) (fun rs w2 => rs = none ∧ ∃ x2, w2 = C μ2.1 μ2.2.1 μ2.2.2 x2) 0 0 := by
  obtain ⟨hp, e⟩ := cif_some h
  cases e
  exact gm_mono (c_laysBack l D cy Z hzo hC μ.1 μ.2.1 μ.2.2 x) (by rintro _ _ ⟨rfl, rfl⟩; exact ⟨rfl, x, rfl⟩)
noncomputable def fn_X7_goesOn (μ : Mg) : Option (Unit × Mg) := cif (stOK μ.2.1 (tOf μ.2.1) (nOf μ.2.1)) (some ((), (μ.1, dayS μ.2.1 (tOf μ.2.1) (nOf μ.2.1), μ.2.2)))
theorem ct_X7_goesOn (l : Launch) (D : va_G) (cy : Nat → ClassId) (Z : (Nat → Prop) → State → Heap → Prop) (hzo : zOK Z) {h0 : Nat} {a q : Nat → Nat} {C : (Nat → Int32) → (Nat → Int32) → (Nat → Nat → Int32) → (Nat → Nat → Int32) → va_W} (hC : mLens (cy 0) h0 a q C) (μ μ2 : Mg) (x : Nat → Nat → Int32) (res : Unit) (h : fn_X7_goesOn  μ = some (res, μ2)) : GM l D cy Z yX7_goesOn (zW yX7_goesOn cX7_goesOn 5 none) { frames := 4, cells := 0, slots := 0, locals := 96 } [.ref h0] (C μ.1 μ.2.1 μ.2.2 x) (fun rs w2 => rs = none ∧ ∃ x2, w2 = C μ2.1 μ2.2.1 μ2.2.2 x2) 0 0 := by
  obtain ⟨hp, e⟩ := cif_some h
  cases e
  exact c_goesOnK l D cy Z hzo hC μ.1 μ.2.1 μ.2.2 x _ _ hp
noncomputable def fn_X7_goesOnMany (z : Int32) (μ : Mg) : Option (Unit × Mg) := cif (stOK μ.2.1 (tOf μ.2.1) (nOf μ.2.1) ∧ ¬ (z < 0 ∨ 1001 ≤ z.toNatClampNeg)) (some ((), (μ.1, itS μ.2.1 (tOf μ.2.1) (nOf μ.2.1) z.toNatClampNeg, μ.2.2)))
theorem ct_X7_goesOnMany (l : Launch) (D : va_G) (cy : Nat → ClassId) (Z : (Nat → Prop) → State → Heap → Prop) (hzo : zOK Z) {h0 : Nat} {a q : Nat → Nat} {C : (Nat → Int32) → (Nat → Int32) → (Nat → Nat → Int32) → (Nat → Nat → Int32) → va_W} (hC : mLens (cy 0) h0 a q C) (z : Int32) (μ μ2 : Mg) (x : Nat → Nat → Int32) (res : Unit) (h : fn_X7_goesOnMany z μ = some (res, μ2)) : GM l D cy Z yX7_goesOnMany (zW yX7_goesOnMany cX7_goesOnMany 3 none) { frames := 5, cells := 0, slots := 0, locals := 120 } [.ref h0, .int z] (C μ.1 μ.2.1 μ.2.2 x) (fun rs w2 => rs = none ∧ ∃ x2, w2 = C μ2.1 μ2.2.1 μ2.2.2 x2) 0 0 := by
  obtain ⟨hp, e⟩ := cif_some h
  cases e
  have K := c_goesOnMany l D cy Z hzo hC μ.1 μ.2.1 μ.2.2 x _ _ hp.1 z.toNatClampNeg (Nat.le_of_lt_succ (vin_lt hp.2))
  rw [← vin_nI (by decide) hp.2] at K
  exact K
noncomputable def fn_X7_house (z1 : Int32) (z2 : Int32) (z3 : Int32) (z4 : Int32) (μ : Mg) : Option (Int32 × Mg) := cif (hN μ.2.1) (some ((houseP μ.2.1 (nOf μ.2.1) z1 z2 z3 z4).1, (μ.1, (houseP μ.2.1 (nOf μ.2.1) z1 z2 z3 z4).2, μ.2.2)))
theorem ct_X7_house (l : Launch) (D : va_G) (cy : Nat → ClassId) (Z : (Nat → Prop) → State → Heap → Prop) (hzo : zOK Z) {h0 : Nat} {a q : Nat → Nat} {C : (Nat → Int32) → (Nat → Int32) → (Nat → Nat → Int32) → (Nat → Nat → Int32) → va_W} (hC : mLens (cy 0) h0 a q C) (z1 : Int32) (z2 : Int32) (z3 : Int32) (z4 : Int32) (μ μ2 : Mg) (x : Nat → Nat → Int32) (res : Int32) (h : fn_X7_house z1 z2 z3 z4 μ = some (res, μ2)) : GM l D cy Z yX7_house (zW yX7_house cX7_house 5 (some .int)) { frames := 2, cells := 0, slots := 0, locals := 48 } [.ref h0, .int z1, .int z2, .int z3, .int z4] (C μ.1 μ.2.1 μ.2.2 x) (fun rs w2 => rs = some (.int res) ∧ ∃ x2, w2 = C μ2.1 μ2.2.1 μ2.2.2 x2) 0 0 := by
  obtain ⟨hp, e⟩ := cif_some h
  cases e
  exact c_house l D cy Z hzo hC μ.1 μ.2.1 μ.2.2 x _ hp.1 hp.2 z1 z2 z3 z4
noncomputable def fn_X7_told (z1 : Int32) (z2 : Int32) (μ : Mg) : Option (Int32 × Mg) := cif (stOK μ.2.1 (tOf μ.2.1) (nOf μ.2.1)) (some (toldP μ.2.1 (tOf μ.2.1) (nOf μ.2.1) z1 z2, μ))
theorem ct_X7_told (l : Launch) (D : va_G) (cy : Nat → ClassId) (Z : (Nat → Prop) → State → Heap → Prop) (hzo : zOK Z) {h0 : Nat} {a q : Nat → Nat} {C : (Nat → Int32) → (Nat → Int32) → (Nat → Nat → Int32) → (Nat → Nat → Int32) → va_W} (hC : mLens (cy 0) h0 a q C) (z1 : Int32) (z2 : Int32) (μ μ2 : Mg) (x : Nat → Nat → Int32) (res : Int32) (h : fn_X7_told z1 z2 μ = some (res, μ2)) : GM l D cy Z yX7_told (zW yX7_told cX7_told 3 (some .int)) { frames := 4, cells := 0, slots := 0, locals := 96 } [.ref h0, .int z1, .int z2] (C μ.1 μ.2.1 μ.2.2 x) (fun rs w2 => rs = some (.int res) ∧ ∃ x2, w2 = C μ2.1 μ2.2.1 μ2.2.2 x2) 0 0 := by
  obtain ⟨hp, e⟩ := cif_some h
  cases e
  exact c_told l D cy Z hzo hC μ.1 μ.2.1 μ.2.2 x _ hp.1 hp.2.1 hp.2.2.1 _ hp.2.2.2.1 hp.2.2.2.2 z1 z2
noncomputable def fn_X7_as (z1 : Int32) (z2 : Int32) (μ : Mg) : Option (Int32 × Mg) := cif (hN μ.2.1) (some (asP μ.2.1 (nOf μ.2.1) z1 z2, μ))
theorem ct_X7_as (l : Launch) (D : va_G) (cy : Nat → ClassId) (Z : (Nat → Prop) → State → Heap → Prop) (hzo : zOK Z) {h0 : Nat} {a q : Nat → Nat} {C : (Nat → Int32) → (Nat → Int32) → (Nat → Nat → Int32) → (Nat → Nat → Int32) → va_W} (hC : mLens (cy 0) h0 a q C) (z1 : Int32) (z2 : Int32) (μ μ2 : Mg) (x : Nat → Nat → Int32) (res : Int32) (h : fn_X7_as z1 z2 μ = some (res, μ2)) : GM l D cy Z yX7_as (zW yX7_as cX7_as 3 (some .int)) { frames := 2, cells := 0, slots := 0, locals := 46 } [.ref h0, .int z1, .int z2] (C μ.1 μ.2.1 μ.2.2 x) (fun rs w2 => rs = some (.int res) ∧ ∃ x2, w2 = C μ2.1 μ2.2.1 μ2.2.2 x2) 0 0 := by
  obtain ⟨hp, e⟩ := cif_some h
  cases e
  exact c_as l D cy Z hzo hC μ.1 μ.2.1 μ.2.2 x _ hp.1 hp.2 z1 z2
noncomputable def fn_X7_turns (z1 : Int32) (z2 : Int32) (μ : Mg) : Option (Int32 × Mg) := cif (hN μ.2.1) (some ((turnsP μ.2.1 (nOf μ.2.1) z1 z2).1, (μ.1, (turnsP μ.2.1 (nOf μ.2.1) z1 z2).2, μ.2.2)))
theorem ct_X7_turns (l : Launch) (D : va_G) (cy : Nat → ClassId) (Z : (Nat → Prop) → State → Heap → Prop) (hzo : zOK Z) {h0 : Nat} {a q : Nat → Nat} {C : (Nat → Int32) → (Nat → Int32) → (Nat → Nat → Int32) → (Nat → Nat → Int32) → va_W} (hC : mLens (cy 0) h0 a q C) (z1 : Int32) (z2 : Int32) (μ μ2 : Mg) (x : Nat → Nat → Int32) (res : Int32) (h : fn_X7_turns z1 z2 μ = some (res, μ2)) : GM l D cy Z yX7_turns (zW yX7_turns cX7_turns 3 (some .int)) { frames := 2, cells := 0, slots := 0, locals := 46 } [.ref h0, .int z1, .int z2] (C μ.1 μ.2.1 μ.2.2 x) (fun rs w2 => rs = some (.int res) ∧ ∃ x2, w2 = C μ2.1 μ2.2.1 μ2.2.2 x2) 0 0 := by
  obtain ⟨hp, e⟩ := cif_some h
  cases e
  exact c_turns l D cy Z hzo hC μ.1 μ.2.1 μ.2.2 x _ hp.1 hp.2 z1 z2
noncomputable def fn_X7_set (z1 : Int32) (z2 : Int32) (z3 : Int32) (μ : Mg) : Option (Int32 × Mg) := cif (hN μ.2.1) (some ((setP μ.2.1 (nOf μ.2.1) z1 z2 z3).1, (μ.1, (setP μ.2.1 (nOf μ.2.1) z1 z2 z3).2, μ.2.2)))
theorem ct_X7_set (l : Launch) (D : va_G) (cy : Nat → ClassId) (Z : (Nat → Prop) → State → Heap → Prop) (hzo : zOK Z) {h0 : Nat} {a q : Nat → Nat} {C : (Nat → Int32) → (Nat → Int32) → (Nat → Nat → Int32) → (Nat → Nat → Int32) → va_W} (hC : mLens (cy 0) h0 a q C) (z1 : Int32) (z2 : Int32) (z3 : Int32) (μ μ2 : Mg) (x : Nat → Nat → Int32) (res : Int32) (h : fn_X7_set z1 z2 z3 μ = some (res, μ2)) : GM l D cy Z yX7_set (zW yX7_set cX7_set 4 (some .int)) { frames := 2, cells := 0, slots := 0, locals := 46 } [.ref h0, .int z1, .int z2, .int z3] (C μ.1 μ.2.1 μ.2.2 x) (fun rs w2 => rs = some (.int res) ∧ ∃ x2, w2 = C μ2.1 μ2.2.1 μ2.2.2 x2) 0 0 := by
  obtain ⟨hp, e⟩ := cif_some h
  cases e
  exact c_set l D cy Z hzo hC μ.1 μ.2.1 μ.2.2 x _ hp.1 hp.2 z1 z2 z3
noncomputable def fn_X7_fells (z1 : Int32) (μ : Mg) : Option (Int32 × Mg) := cif (hN μ.2.1) (some ((fellsP μ.2.1 (nOf μ.2.1) z1).1, (μ.1, (fellsP μ.2.1 (nOf μ.2.1) z1).2, μ.2.2)))
theorem ct_X7_fells (l : Launch) (D : va_G) (cy : Nat → ClassId) (Z : (Nat → Prop) → State → Heap → Prop) (hzo : zOK Z) {h0 : Nat} {a q : Nat → Nat} {C : (Nat → Int32) → (Nat → Int32) → (Nat → Nat → Int32) → (Nat → Nat → Int32) → va_W} (hC : mLens (cy 0) h0 a q C) (z1 : Int32) (μ μ2 : Mg) (x : Nat → Nat → Int32) (res : Int32) (h : fn_X7_fells z1 μ = some (res, μ2)) : GM l D cy Z yX7_fells (zW yX7_fells cX7_fells 2 (some .int)) { frames := 3, cells := 0, slots := 0, locals := 65 } [.ref h0, .int z1] (C μ.1 μ.2.1 μ.2.2 x) (fun rs w2 => rs = some (.int res) ∧ ∃ x2, w2 = C μ2.1 μ2.2.1 μ2.2.2 x2) 0 0 := by
  obtain ⟨hp, e⟩ := cif_some h
  cases e
  exact c_fells l D cy Z hzo hC μ.1 μ.2.1 μ.2.2 x _ hp.1 hp.2 z1
noncomputable def fn_X7_raises (z1 : Int32) (μ : Mg) : Option (Int32 × Mg) := cif (hN μ.2.1) (some ((raisesP μ.2.1 (nOf μ.2.1) z1).1, (μ.1, (raisesP μ.2.1 (nOf μ.2.1) z1).2, μ.2.2)))
theorem ct_X7_raises (l : Launch) (D : va_G) (cy : Nat → ClassId) (Z : (Nat → Prop) → State → Heap → Prop) (hzo : zOK Z) {h0 : Nat} {a q : Nat → Nat} {C : (Nat → Int32) → (Nat → Int32) → (Nat → Nat → Int32) → (Nat → Nat → Int32) → va_W} (hC : mLens (cy 0) h0 a q C) (z1 : Int32) (μ μ2 : Mg) (x : Nat → Nat → Int32) (res : Int32) (h : fn_X7_raises z1 μ = some (res, μ2)) : GM l D cy Z yX7_raises (zW yX7_raises cX7_raises 2 (some .int)) { frames := 3, cells := 0, slots := 0, locals := 65 } [.ref h0, .int z1] (C μ.1 μ.2.1 μ.2.2 x) (fun rs w2 => rs = some (.int res) ∧ ∃ x2, w2 = C μ2.1 μ2.2.1 μ2.2.2 x2) 0 0 := by
  obtain ⟨hp, e⟩ := cif_some h
  cases e
  exact c_raises l D cy Z hzo hC μ.1 μ.2.1 μ.2.2 x _ hp.1 hp.2 z1
noncomputable def fn_X7_snow (z1 : Int32) (μ : Mg) : Option (Int32 × Mg) := cif (True) (some ((snowP μ.2.1 z1).1, (μ.1, (snowP μ.2.1 z1).2, μ.2.2)))
theorem ct_X7_snow (l : Launch) (D : va_G) (cy : Nat → ClassId) (Z : (Nat → Prop) → State → Heap → Prop) (hzo : zOK Z) {h0 : Nat} {a q : Nat → Nat} {C : (Nat → Int32) → (Nat → Int32) → (Nat → Nat → Int32) → (Nat → Nat → Int32) → va_W} (hC : mLens (cy 0) h0 a q C) (z1 : Int32) (μ μ2 : Mg) (x : Nat → Nat → Int32) (res : Int32) (h : fn_X7_snow z1 μ = some (res, μ2)) : GM l D cy Z yX7_snow (zW yX7_snow cX7_snow 2 (some .int)) { frames := 1, cells := 0, slots := 0, locals := 25 } [.ref h0, .int z1] (C μ.1 μ.2.1 μ.2.2 x) (fun rs w2 => rs = some (.int res) ∧ ∃ x2, w2 = C μ2.1 μ2.2.1 μ2.2.2 x2) 0 0 := by
  obtain ⟨hp, e⟩ := cif_some h
  cases e
  exact c_snow l D cy Z hzo hC μ.1 μ.2.1 μ.2.2 x  z1
noncomputable def fn_X7_seed (z1 : Int32) (μ : Mg) : Option (Int32 × Mg) := cif (True) (some ((((μ.2.1 5, upd μ.2.1 5 z1) : Int32 × (Nat → Int32))).1, (μ.1, (((μ.2.1 5, upd μ.2.1 5 z1) : Int32 × (Nat → Int32))).2, μ.2.2)))
theorem ct_X7_seed (l : Launch) (D : va_G) (cy : Nat → ClassId) (Z : (Nat → Prop) → State → Heap → Prop) (hzo : zOK Z) {h0 : Nat} {a q : Nat → Nat} {C : (Nat → Int32) → (Nat → Int32) → (Nat → Nat → Int32) → (Nat → Nat → Int32) → va_W} (hC : mLens (cy 0) h0 a q C) (z1 : Int32) (μ μ2 : Mg) (x : Nat → Nat → Int32) (res : Int32) (h : fn_X7_seed z1 μ = some (res, μ2)) : GM l D cy Z yX7_seed (zW yX7_seed cX7_seed 2 (some .int)) { frames := 1, cells := 0, slots := 0, locals := 23 } [.ref h0, .int z1] (C μ.1 μ.2.1 μ.2.2 x) (fun rs w2 => rs = some (.int res) ∧ ∃ x2, w2 = C μ2.1 μ2.2.1 μ2.2.2 x2) 0 0 := by
  obtain ⟨hp, e⟩ := cif_some h
  cases e
  exact c_seed l D cy Z hzo hC μ.1 μ.2.1 μ.2.2 x  z1
noncomputable def fn_X7_deal (z1 : Int32) (μ : Mg) : Option (Int32 × Mg) := cif (hN μ.2.1) (some ((dealP μ.2.1 (nOf μ.2.1) z1).1, (μ.1, (dealP μ.2.1 (nOf μ.2.1) z1).2, μ.2.2)))
theorem ct_X7_deal (l : Launch) (D : va_G) (cy : Nat → ClassId) (Z : (Nat → Prop) → State → Heap → Prop) (hzo : zOK Z) {h0 : Nat} {a q : Nat → Nat} {C : (Nat → Int32) → (Nat → Int32) → (Nat → Nat → Int32) → (Nat → Nat → Int32) → va_W} (hC : mLens (cy 0) h0 a q C) (z1 : Int32) (μ μ2 : Mg) (x : Nat → Nat → Int32) (res : Int32) (h : fn_X7_deal z1 μ = some (res, μ2)) : GM l D cy Z yX7_deal (zW yX7_deal cX7_deal 6 (some .int)) { frames := 2, cells := 0, slots := 0, locals := 48 } [.ref h0, .int z1] (C μ.1 μ.2.1 μ.2.2 x) (fun rs w2 => rs = some (.int res) ∧ ∃ x2, w2 = C μ2.1 μ2.2.1 μ2.2.2 x2) 0 0 := by
  obtain ⟨hp, e⟩ := cif_some h
  cases e
  exact c_deal l D cy Z hzo hC μ.1 μ.2.1 μ.2.2 x _ hp.1 hp.2 z1
noncomputable def fn_X7_days (z1 : Int32) (μ : Mg) : Option (Int32 × Mg) := cif (stOK μ.2.1 (tOf μ.2.1) (nOf μ.2.1) ∧ μ.2.1 2 = nI (μ.2.1 2).toNatClampNeg ∧ (μ.2.1 2).toNatClampNeg ≤ 9999) (some ((daysP μ.2.1 (tOf μ.2.1) (nOf μ.2.1) (μ.2.1 2).toNatClampNeg z1).1, (μ.1, (daysP μ.2.1 (tOf μ.2.1) (nOf μ.2.1) (μ.2.1 2).toNatClampNeg z1).2, μ.2.2)))
theorem ct_X7_days (l : Launch) (D : va_G) (cy : Nat → ClassId) (Z : (Nat → Prop) → State → Heap → Prop) (hzo : zOK Z) {h0 : Nat} {a q : Nat → Nat} {C : (Nat → Int32) → (Nat → Int32) → (Nat → Nat → Int32) → (Nat → Nat → Int32) → va_W} (hC : mLens (cy 0) h0 a q C) (z1 : Int32) (μ μ2 : Mg) (x : Nat → Nat → Int32) (res : Int32) (h : fn_X7_days z1 μ = some (res, μ2)) : GM l D cy Z yX7_days (zW yX7_days cX7_days 4 (some .int)) { frames := 5, cells := 0, slots := 0, locals := 120 } [.ref h0, .int z1] (C μ.1 μ.2.1 μ.2.2 x) (fun rs w2 => rs = some (.int res) ∧ ∃ x2, w2 = C μ2.1 μ2.2.1 μ2.2.2 x2) 0 0 := by
  obtain ⟨hp, e⟩ := cif_some h
  cases e
  exact c_days l D cy Z hzo hC μ.1 μ.2.1 μ.2.2 x _ _ hp.1 _ hp.2.1 hp.2.2 z1
noncomputable def fn_X7_street (z1 : Int32) (μ : Mg) : Option (Int32 × Mg) := cif (stOK μ.2.1 (tOf μ.2.1) (nOf μ.2.1)) (some (streetP μ.2.1 (tOf μ.2.1) (nOf μ.2.1) z1, μ))
theorem ct_X7_street (l : Launch) (D : va_G) (cy : Nat → ClassId) (Z : (Nat → Prop) → State → Heap → Prop) (hzo : zOK Z) {h0 : Nat} {a q : Nat → Nat} {C : (Nat → Int32) → (Nat → Int32) → (Nat → Nat → Int32) → (Nat → Nat → Int32) → va_W} (hC : mLens (cy 0) h0 a q C) (z1 : Int32) (μ μ2 : Mg) (x : Nat → Nat → Int32) (res : Int32) (h : fn_X7_street z1 μ = some (res, μ2)) : GM l D cy Z yX7_street (zW yX7_street cX7_street 2 (some .int)) { frames := 5, cells := 0, slots := 0, locals := 118 } [.ref h0, .int z1] (C μ.1 μ.2.1 μ.2.2 x) (fun rs w2 => rs = some (.int res) ∧ ∃ x2, w2 = C μ2.1 μ2.2.1 μ2.2.2 x2) 0 0 := by
  obtain ⟨hp, e⟩ := cif_some h
  cases e
  exact c_street l D cy Z hzo hC μ.1 μ.2.1 μ.2.2 x _ _ hp z1
