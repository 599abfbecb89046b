theorem kX6_text : mKV RX6 yX6_text cX6_text 2 (some .int) 0 := ⟨tIns_X6_text, tSel_X6_text, tIni_X6, tCod_X6_text, by decide +kernel⟩
/-- the cell that the next text gets -/
abbrev tNew (ε : Ev) : Nat := 1000 + 3 * ε.2.1
def eG (ε : Ev) (a b e n m : Nat) : Ev := (fun c => if c = tNew ε + 1 then n else if c = tNew ε + 2 then m else ε.1 c, ε.2.1 + 1, fun c => if c = tNew ε then a else if c = tNew ε + 1 then b else if c = tNew ε + 2 then e else ε.2.2 c)
def sG (ε : Ev) (σ : Sg) (z1 z2 z3 : Int32) (g : Nat → Int32) : Sg := (fun c => if c = tNew ε then (fun k => if k = 0 then z1 else if k = 1 then z2 else z3) else if c = tNew ε + 1 then g else if c = tNew ε + 2 then (fun _ => 0) else σ.1 c, σ.2)
/-- what holds the world w holds the world w' too -/
def wLe (w w' : va_W) : Prop := (∀ D H, va_P D vwCl w H → va_P D vwCl w' H) ∧ ∀ A, va_D A w → va_D A w'
theorem g_wle {κ : GC} {n1 n2 : Nat} {w w' : va_W} {pc : Nat} {lv : List (Nat × Value)} {st : List Value} (h : wLe w w') (k : GW κ n1 n2 w' pc lv st) : GW κ n1 n2 w pc lv st := by
  obtain ⟨p, l, e, R, s, m, args, below, meth, c, Q, A, D, cy', nL, Z'⟩ := κ
  intro H locs ls hP hD hS hl
  exact k H locs ls (h.1 _ _ hP) (h.2 _ hD) hS hl
/-- a text more: three cells behind the others -/
def cGrow (cy : Nat → ClassId) (C : Ev → Sg → va_W) : Prop := ∀ (ε : Ev) (σ : Sg) (a b e n m : Nat) (g : Nat → Int32) (z1 z2 z3 : Int32), (∀ c k x, σ.2 c k = some x → x < tNew ε) → wLe (C ε σ ++ [(a, .inr (5, [.int z1, .int z2, .int z3, .ref b, .ref e])), (b, .inl (cy 0, n, .inl g)), (e, .inl (cy 0, m, .inl (fun _ => 0)))]) (C (eG ε a b e n m) (sG ε σ z1 z2 z3 g))
set_option maxHeartbeats 4000000 in
set_option maxRecDepth 100000 in
theorem ct_X6_textA (l : Launch) (D : va_G) (cy : Nat → ClassId) (Z : (Nat → Prop) → State → Heap → Prop) (hzo : zOK Z) {aStr aByt : Nat → Nat} (hzs : zSt Z aStr aByt) {q : Nat → Nat} {C : Ev → Sg → va_W} (hC : cLens cy q C) (ε : Ev) (σ τ : Sg) (y : Int32) (h1 : fn_X1_isText ε σ = some (y, τ)) (hy : y = 0) : GM l D cy Z yX6_text (zW yX6_text cX6_text 2 (some .int)) { frames := 135, cells := 3, slots := 197, locals := 4094 } [.ref (sAd ε 0)] (C ε σ) (fun rs w2 => rs = some (.int ((-100) - (pI τ 64 1 (nI 0)).1 64 2)) ∧ w2 = C ε (pI τ 64 1 (nI 0))) 3 197 := by
  refine g_entry (cc := cX6_text) (maxL := 2) (by decide) rfl (Nat.le_of_ble_eq_true rfl) ?_
  intro κ hN hX hR
  have hX : GX κ cy Z cX6_text (Cond.code yX6_text cX6_text 2 (some .int) :: zT) RX6 { frames := 135, cells := 3, slots := 197, locals := 4094 } := hX
  show GW κ 0 0 (C ε σ) 0 [(0, .ref (sAd ε 0))] []
  refine g_aload_n hX 0 rfl rfl dX6_text_0 ?_
  refine c_get6 hX hC rfl 3 (by decide) rfl tFld_X6_25 rfl dX6_text_1 ?_
  refine c_call1 hX hC hzo rfl [] [] (ct_X1_isText _ _ _ _ hzo hzs hC ε σ _ _ h1) kX1_isText tMet_X6_222 rfl rfl (Nat.le_of_ble_eq_true rfl) (Nat.le_of_ble_eq_true rfl) ⟨Nat.le_of_ble_eq_true rfl, Nat.le_of_ble_eq_true rfl⟩ rfl rfl (Nat.le_of_ble_eq_true rfl) dX6_text_4 ?_
  refine g_istore_n (lv2 := [(1, .int y), (0, .ref (sAd ε 0))]) hX 1 2 hN rfl (by decide) rfl dX6_text_7 ?_
  refine g_aload_n hX 1 rfl rfl dX6_text_8 ?_
  refine c_get6 hX hC rfl 3 (by decide) rfl tFld_X6_25 rfl dX6_text_9 ?_
  refine g_iconst hX (v := nI 0) rfl dX6_text_12 ?_
  refine c_put1 (ty := .int) hX hC rfl 1 (by decide) (cs_X1 ε _ _ _).1 rfl (by decide +kernel) rfl rfl tFld_X6_218 rfl dX6_text_13 ?_
  refine g_iload_n hX 0 rfl rfl dX6_text_16 ?_
  refine g_if_ne hX 31 (by decide) dX6_text_17 (fun b => absurd hy b) (fun b => ?_)
  refine g_bipush hX (v := -100) (by decide) dX6_text_20 ?_
  refine g_aload_n hX 1 rfl rfl dX6_text_22 ?_
  refine c_get6 hX hC rfl 3 (by decide) rfl tFld_X6_25 rfl dX6_text_23 ?_
  refine c_get1 hX hC rfl 2 (by decide) rfl tFld_X6_226 rfl dX6_text_26 ?_
  refine g_isub hX dX6_text_29 ?_
  refine g_widen (k1 := 3) (k2 := 197) (by decide) (by decide) ?_
  exact g_retiP hR ⟨rfl, rfl⟩ dX6_text_30
set_option maxHeartbeats 4000000 in
set_option maxRecDepth 100000 in
theorem ct_X6_textF (l : Launch) (D : va_G) (cy : Nat → ClassId) (Z : (Nat → Prop) → State → Heap → Prop) (hzo : zOK Z) {aStr aByt : Nat → Nat} (hzs : zSt Z aStr aByt) {q : Nat → Nat} {C : Ev → Sg → va_W} (hC : cLens cy q C) (ε : Ev) (σ τ : Sg) (y : Int32) (h1 : fn_X1_isText ε σ = some (y, τ)) (hy : ¬ y = 0) (hf : ¬ (pI τ 64 1 (nI 0)).1 16 7 < nI 14) : GM l D cy Z yX6_text (zW yX6_text cX6_text 2 (some .int)) { frames := 135, cells := 3, slots := 197, locals := 4094 } [.ref (sAd ε 0)] (C ε σ) (fun rs w2 => rs = some (.int (-1000000003)) ∧ w2 = C ε (pI τ 64 1 (nI 0))) 3 197 := by
  refine g_entry (cc := cX6_text) (maxL := 2) (by decide) rfl (Nat.le_of_ble_eq_true rfl) ?_
  intro κ hN hX hR
  have hX : GX κ cy Z cX6_text (Cond.code yX6_text cX6_text 2 (some .int) :: zT) RX6 { frames := 135, cells := 3, slots := 197, locals := 4094 } := hX
  show GW κ 0 0 (C ε σ) 0 [(0, .ref (sAd ε 0))] []
  refine g_aload_n hX 0 rfl rfl dX6_text_0 ?_
  refine c_get6 hX hC rfl 3 (by decide) rfl tFld_X6_25 rfl dX6_text_1 ?_
  refine c_call1 hX hC hzo rfl [] [] (ct_X1_isText _ _ _ _ hzo hzs hC ε σ _ _ h1) kX1_isText tMet_X6_222 rfl rfl (Nat.le_of_ble_eq_true rfl) (Nat.le_of_ble_eq_true rfl) ⟨Nat.le_of_ble_eq_true rfl, Nat.le_of_ble_eq_true rfl⟩ rfl rfl (Nat.le_of_ble_eq_true rfl) dX6_text_4 ?_
  refine g_istore_n (lv2 := [(1, .int y), (0, .ref (sAd ε 0))]) hX 1 2 hN rfl (by decide) rfl dX6_text_7 ?_
  refine g_aload_n hX 1 rfl rfl dX6_text_8 ?_
  refine c_get6 hX hC rfl 3 (by decide) rfl tFld_X6_25 rfl dX6_text_9 ?_
  refine g_iconst hX (v := nI 0) rfl dX6_text_12 ?_
  refine c_put1 (ty := .int) hX hC rfl 1 (by decide) (cs_X1 ε _ _ _).1 rfl (by decide +kernel) rfl rfl tFld_X6_218 rfl dX6_text_13 ?_
  refine g_iload_n hX 0 rfl rfl dX6_text_16 ?_
  refine g_if_ne hX 31 (by decide) dX6_text_17 (fun b => ?_) (fun b => absurd b hy)
  refine g_aload_n hX 1 rfl rfl dX6_text_31 ?_
  refine c_get6 hX hC rfl 0 (by decide) rfl tFld_X6_10 rfl dX6_text_32 ?_
  refine c_get4 hX hC (kst_now rfl) 7 (by decide) rfl tFld_X6_229 rfl dX6_text_35 ?_
  refine g_bipush hX (v := nI 14) (by decide) dX6_text_38 ?_
  refine g_icmp_lt hX 46 (by decide) dX6_text_40 (fun b => absurd b hf) (fun b => ?_)
  refine g_ldc hX (v := -1000000003) (zu tCon_X6_63 rfl) dX6_text_43 ?_
  refine g_widen (k1 := 3) (k2 := 197) (by decide) (by decide) ?_
  exact g_retiP hR ⟨rfl, rfl⟩ dX6_text_45
set_option maxHeartbeats 4000000 in
set_option maxRecDepth 100000 in
theorem ct_X6_textB (l : Launch) (D : va_G) (cy : Nat → ClassId) (Z : (Nat → Prop) → State → Heap → Prop) (hzo : zOK Z) {aStr aByt : Nat → Nat} (hzs : zSt Z aStr aByt) {q : Nat → Nat} {C : Ev → Sg → va_W} (hC : cLens cy q C) (ε : Ev) (σ τ : Sg) (y : Int32) (h1 : fn_X1_isText ε σ = some (y, τ)) (hG : cGrow cy C) (hy : ¬ y = 0) (hf : (pI τ 64 1 (nI 0)).1 16 7 < nI 14) (htx : ∀ c k x, (pI τ 64 1 (nI 0)).2 c k = some x → x < tNew ε) (h0 : ∀ c, c < 1000 → ∀ (a b e n m : Nat), sAd (eG ε a b e n m) c = sAd ε c) (n m : Nat) (hn : (pI τ 64 1 (nI 0)).1 64 7 = nI n) (hn2 : n ≤ 96) (hm : mxI (nI 1) ((pI τ 64 1 (nI 0)).1 64 8) = nI m) (hm2 : m ≤ 96) (σ3 : (Nat → Int32) → Sg) (hadd : ∀ (a b e : Nat) (g : Nat → Int32), (∀ j, j < n → g j = (pI τ 64 1 (nI 0)).1 66 j) → fn_X4_addText (eG ε a b e n m) 16 (tNew ε) (sG ε (pI τ 64 1 (nI 0)) ((pI τ 64 1 (nI 0)).1 16 7) ((pI τ 64 1 (nI 0)).1 64 5) ((pI τ 64 1 (nI 0)).1 64 8) g) = some ((), σ3 g)) : GM l D cy Z yX6_text (zW yX6_text cX6_text 2 (some .int)) { frames := 135, cells := 3, slots := 197, locals := 4094 } [.ref (sAd ε 0)] (C ε σ) (fun rs w2 => ∃ (a b e : Nat) (g : Nat → Int32), (∀ j, j < n → g j = (pI τ 64 1 (nI 0)).1 66 j) ∧ rs = some (.int ((σ3 g).1 16 7 - nI 1)) ∧ w2 = C (eG ε a b e n m) (σ3 g)) 3 197 := by
  refine g_entry (cc := cX6_text) (maxL := 2) (by decide) rfl (Nat.le_of_ble_eq_true rfl) ?_
  intro κ hN hX hR
  have hX : GX κ cy Z cX6_text (Cond.code yX6_text cX6_text 2 (some .int) :: zT) RX6 { frames := 135, cells := 3, slots := 197, locals := 4094 } := hX
  show GW κ 0 0 (C ε σ) 0 [(0, .ref (sAd ε 0))] []
  refine g_aload_n hX 0 rfl rfl dX6_text_0 ?_
  refine c_get6 hX hC rfl 3 (by decide) rfl tFld_X6_25 rfl dX6_text_1 ?_
  refine c_call1 hX hC hzo rfl [] [] (ct_X1_isText _ _ _ _ hzo hzs hC ε σ _ _ h1) kX1_isText tMet_X6_222 rfl rfl (Nat.le_of_ble_eq_true rfl) (Nat.le_of_ble_eq_true rfl) ⟨Nat.le_of_ble_eq_true rfl, Nat.le_of_ble_eq_true rfl⟩ rfl rfl (Nat.le_of_ble_eq_true rfl) dX6_text_4 ?_
  refine g_istore_n (lv2 := [(1, .int y), (0, .ref (sAd ε 0))]) hX 1 2 hN rfl (by decide) rfl dX6_text_7 ?_
  refine g_aload_n hX 1 rfl rfl dX6_text_8 ?_
  refine c_get6 hX hC rfl 3 (by decide) rfl tFld_X6_25 rfl dX6_text_9 ?_
  refine g_iconst hX (v := nI 0) rfl dX6_text_12 ?_
  refine c_put1 (ty := .int) hX hC rfl 1 (by decide) (cs_X1 ε _ _ _).1 rfl (by decide +kernel) rfl rfl tFld_X6_218 rfl dX6_text_13 ?_
  refine g_iload_n hX 0 rfl rfl dX6_text_16 ?_
  refine g_if_ne hX 31 (by decide) dX6_text_17 (fun b => ?_) (fun b => absurd b hy)
  refine g_aload_n hX 1 rfl rfl dX6_text_31 ?_
  refine c_get6 hX hC rfl 0 (by decide) rfl tFld_X6_10 rfl dX6_text_32 ?_
  refine c_get4 hX hC (kst_now rfl) 7 (by decide) rfl tFld_X6_229 rfl dX6_text_35 ?_
  refine g_bipush hX (v := nI 14) (by decide) dX6_text_38 ?_
  refine g_icmp_lt hX 46 (by decide) dX6_text_40 (fun b => ?_) (fun b => absurd hf b)
  refine g_aload_n hX 1 rfl rfl dX6_text_46 ?_
  refine c_get6 hX hC rfl 0 (by decide) rfl tFld_X6_10 rfl dX6_text_47 ?_
  refine g_aload_n hX 1 rfl rfl dX6_text_50 ?_
  refine c_get6 hX hC rfl 3 (by decide) rfl tFld_X6_25 rfl dX6_text_51 ?_
  refine g_aload_n hX 1 rfl rfl dX6_text_54 ?_
  refine c_get6 hX hC rfl 0 (by decide) rfl tFld_X6_10 rfl dX6_text_55 ?_
  refine c_get4 hX hC (kst_now rfl) 7 (by decide) rfl tFld_X6_229 rfl dX6_text_58 ?_
  refine g_callV (n1 := 0) (n2 := 0) (C := RX1) (b := sAd ε 64) (bytes := cX1_madeText) (maxL := 2) (ret := some (.object "LeaningStreet$Text")) hX hzo [.int ((pI τ 64 1 (nI 0)).1 16 7)] [.ref (sAd ε 16)] 1 (q 64) (qc := (RX1, TX1, 9)) rfl rfl (by rw [hC.1 ε (pI τ 64 1 (nI 0)) 64 (kc_X1 (cy := cy) (σ := (pI τ 64 1 (nI 0))) rfl).1, (kc_X1 rfl).2]) (ct_X1_madeText (Kl κ) (KD κ) cy Z hzo hzs hC ε ((pI τ 64 1 (nI 0)).1 16 7) (pI τ 64 1 (nI 0)) n m hn hn2 hm hm2) (z_V tMet_X6_232 kX1_madeText.1 kX1_madeText.2.1 kX1_madeText.2.2.1 kX1_madeText.2.2.2.1) rfl rfl rfl kX1_madeText.2.2.2.2 (Nat.le_of_ble_eq_true rfl) (Nat.le_of_ble_eq_true rfl) rfl (Nat.le_of_ble_eq_true rfl) ⟨by exact Nat.le_of_ble_eq_true rfl, by exact Nat.le_of_ble_eq_true rfl⟩ dX6_text_61 ?_
  rintro _ _ ⟨a, b1, e, g, rfl, rfl, hg⟩
  refine g_wle (hG ε (pI τ 64 1 (nI 0)) a b1 e n m g _ _ _ htx) ?_
  have hx5 : isX5 (eG ε a b1 e n m) (tNew ε) := ⟨by show 1000 ≤ 1000 + 3 * ε.2.1; omega, by show 1000 + 3 * ε.2.1 < 1000 + 3 * (ε.2.1 + 1); omega, by show (1000 + 3 * ε.2.1) % 3 = 1; omega⟩
  have ha : a = sAd (eG ε a b1 e n m) (tNew ε) := by show a = if tNew ε = tNew ε then a else _; rw [if_pos rfl]
  have h16 := h0 16 (by decide) a b1 e n m
  have h00 := h0 0 (by decide) a b1 e n m
  refine g_re (lv2 := [(1, .int y), (0, .ref (sAd (eG ε a b1 e n m) 0))]) (st2 := [.ref (sAd (eG ε a b1 e n m) (tNew ε)), .ref (sAd (eG ε a b1 e n m) 16)]) (by rw [h00]) (by rw [← ha, h16]; rfl) ?_
  refine c_call4 hX hC hzo (kst_now rfl) [.ref (sAd (eG ε a b1 e n m) (tNew ε))] [] (ct_X4_addText _ _ _ _ hzo hzs hC (eG ε a b1 e n m) 16 (kst_now rfl) (tNew ε) hx5 (sG ε (pI τ 64 1 (nI 0)) ((pI τ 64 1 (nI 0)).1 16 7) ((pI τ 64 1 (nI 0)).1 64 5) ((pI τ 64 1 (nI 0)).1 64 8) g) _ _ (hadd a b1 e g hg)) kX4_addText tMet_X6_236 rfl rfl (Nat.le_of_ble_eq_true rfl) (Nat.le_of_ble_eq_true rfl) ⟨Nat.le_of_ble_eq_true rfl, Nat.le_of_ble_eq_true rfl⟩ rfl rfl (Nat.le_of_ble_eq_true rfl) dX6_text_64 ?_
  refine g_aload_n hX 1 rfl rfl dX6_text_67 ?_
  refine c_get6 hX hC rfl 0 (by decide) rfl tFld_X6_10 rfl dX6_text_68 ?_
  refine c_get4 hX hC (kst_now rfl) 7 (by decide) rfl tFld_X6_229 rfl dX6_text_71 ?_
  refine g_iconst hX (v := nI 1) rfl dX6_text_74 ?_
  refine g_isub hX dX6_text_75 ?_
  exact g_retiP hR ⟨a, b1, e, g, hg, rfl, rfl⟩ dX6_text_76
