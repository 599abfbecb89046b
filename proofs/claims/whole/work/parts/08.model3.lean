/-- the next one upwards: o, o + 1 .., f of them -/
def nxR (p : Nat → Bool) : Nat → Nat → Option Nat
  | 0, _ => none
  | f + 1, o => if p o then some o else nxR p f (o + 1)
/-- the next one downwards: k - 1, k - 2 .. -/
def nxL (p : Nat → Bool) : Nat → Option Nat
  | 0 => none
  | k + 1 => if p k then some k else nxL p k
def optI : Option Nat → Int32
  | none => -1
  | some k => nI k
theorem kX7_nextOf : mKV RX7 yX7_nextOf cX7_nextOf 5 (some .int) 3 := ⟨tIns_X7_nextOf, tSel_X7_nextOf, tIni_X7, tCod_X7_nextOf, by decide +kernel⟩
set_option maxHeartbeats 4000000 in
set_option maxRecDepth 100000 in
theorem c_nextR (l : Launch) (D : va_G) (cy : Nat → ClassId) (Z : (Nat → Prop) → State → Heap → Prop) (hzo : zOK Z) {h0 : Nat} {a q : Nat → Nat} {C : (Nat → Int32) → (Nat → Int32) → (Nat → Nat → Int32) → (Nat → Nat → Int32) → va_W} (hC : mLens (cy 0) h0 a q C) (v s : Nat → Int32) (r x : Nat → Nat → Int32) (n : Nat) (hn : s 0 = nI n) (hn9 : n ≤ 9) (k : Nat) (hk : k < n) (z : Int32) (p : Nat → Bool) (hz : ∀ o, o < n → ((z >>> (nI o &&& 31)) &&& nI 1) = bI (p o)) : GD l D cy Z yX7_nextOf (zW yX7_nextOf cX7_nextOf 5 (some .int)) { frames := 0, cells := 0, slots := 0, locals := 0 } [.ref (h0), .int (nI (k)), .int (nI (1)), .int (z)] (C v s r x) (some (.int (optI (nxR p (n - (k + 1)) (k + 1))))) (C v s r x) 0 0 := by
  refine g_entry (cc := cX7_nextOf) (maxL := 5) (by decide) rfl (Nat.le_of_ble_eq_true rfl) ?_
  intro κ hN hX hR
  have hX : GX κ cy Z cX7_nextOf (Cond.code yX7_nextOf cX7_nextOf 5 (some .int) :: zT) RX7 { frames := 0, cells := 0, slots := 0, locals := 0 } := hX
  show GW κ 0 0 _ 0 [(0, .ref (h0)), (1, .int (nI (k))), (2, .int (nI (1))), (3, .int (z))] []
  have L : ∀ (f o : Nat), o + f = n → nxR p f o = nxR p (n - (k + 1)) (k + 1) → GW κ 0 0 (C v s r x) 5 [(4, .int (nI (o))), (0, .ref (h0)), (1, .int (nI (k))), (2, .int (nI (1))), (3, .int (z))] [] := by
    intro f
    induction f with
    | zero =>
      intro o h1 hE
      refine g_iload hX 0 rfl dX7_nextOf_5 ?_
      refine g_ifN_lt hX (by omega) 39 (by decide) dX7_nextOf_7 ?_
      refine g_iload hX 0 rfl dX7_nextOf_10 ?_
      refine g_aload_n hX 1 rfl rfl dX7_nextOf_12 ?_
      refine m_getA hX hC 0 (by decide) rfl tFld_X7_7 dX7_nextOf_13 ?_
      refine g_iconst hX (v := nI 0) rfl dX7_nextOf_16 ?_
      refine m0_aldN hX hC (by omega) dX7_nextOf_17 ?_
      refine g_top (y := .int (nI (n))) (congrArg Value.int hn) ?_
      refine g_icmpN_ge hX (by omega) (by omega) 39 (by decide) dX7_nextOf_18 (fun c18 => ?_) (fun c18 => absurd c18 (by omega))
      refine g_iload hX 0 rfl dX7_nextOf_39 ?_
      refine g_ifN_lt hX (by omega) 60 (by decide) dX7_nextOf_41 ?_
      refine g_iload hX 0 rfl dX7_nextOf_44 ?_
      refine g_aload_n hX 1 rfl rfl dX7_nextOf_46 ?_
      refine m_getA hX hC 0 (by decide) rfl tFld_X7_7 dX7_nextOf_47 ?_
      refine g_iconst hX (v := nI 0) rfl dX7_nextOf_50 ?_
      refine m0_aldN hX hC (by omega) dX7_nextOf_51 ?_
      refine g_top (y := .int (nI (n))) (congrArg Value.int hn) ?_
      refine g_icmpN_ge hX (by omega) (by omega) 60 (by decide) dX7_nextOf_52 (fun c52 => ?_) (fun c52 => absurd c52 (by omega))
      refine g_iconst hX (v := -1) (by decide) dX7_nextOf_60 ?_
      exact g_reti hR (by rw [← hE]; rfl) rfl dX7_nextOf_61
    | succ f ih =>
      intro o h1 hE
      refine g_iload hX 0 rfl dX7_nextOf_5 ?_
      refine g_ifN_lt hX (by omega) 39 (by decide) dX7_nextOf_7 ?_
      refine g_iload hX 0 rfl dX7_nextOf_10 ?_
      refine g_aload_n hX 1 rfl rfl dX7_nextOf_12 ?_
      refine m_getA hX hC 0 (by decide) rfl tFld_X7_7 dX7_nextOf_13 ?_
      refine g_iconst hX (v := nI 0) rfl dX7_nextOf_16 ?_
      refine m0_aldN hX hC (by omega) dX7_nextOf_17 ?_
      refine g_top (y := .int (nI (n))) (congrArg Value.int hn) ?_
      refine g_icmpN_ge hX (by omega) (by omega) 39 (by decide) dX7_nextOf_18 (fun c18 => absurd c18 (by omega)) (fun c18 => ?_)
      refine g_iload_n hX 4 rfl rfl dX7_nextOf_21 ?_
      refine g_iload hX 0 rfl dX7_nextOf_22 ?_
      refine g_ishr hX dX7_nextOf_24 ?_
      refine g_iconst hX (v := nI 1) rfl dX7_nextOf_25 ?_
      refine g_iand hX dX7_nextOf_26 ?_
      refine g_top (y := .int (bI (p o))) (congrArg Value.int (hz o (by omega))) ?_
      refine g_ifb_ne hX 39 (by decide) dX7_nextOf_27 (fun c27 => ?_) (fun c27 => ?_)
      · refine g_iload hX 0 rfl dX7_nextOf_39 ?_
        refine g_ifN_lt hX (by omega) 60 (by decide) dX7_nextOf_41 ?_
        refine g_iload hX 0 rfl dX7_nextOf_44 ?_
        refine g_aload_n hX 1 rfl rfl dX7_nextOf_46 ?_
        refine m_getA hX hC 0 (by decide) rfl tFld_X7_7 dX7_nextOf_47 ?_
        refine g_iconst hX (v := nI 0) rfl dX7_nextOf_50 ?_
        refine m0_aldN hX hC (by omega) dX7_nextOf_51 ?_
        refine g_top (y := .int (nI (n))) (congrArg Value.int hn) ?_
        refine g_icmpN_ge hX (by omega) (by omega) 60 (by decide) dX7_nextOf_52 (fun c52 => absurd c52 (by omega)) (fun c52 => ?_)
        refine g_iload hX 0 rfl dX7_nextOf_55 ?_
        refine g_goto hX 61 (by decide) dX7_nextOf_57 ?_
        exact g_reti hR (by rw [← hE, nxR, if_pos c27]; rfl) rfl dX7_nextOf_61
      · refine g_iload hX 0 rfl dX7_nextOf_30 ?_
        refine g_iload_n hX 3 rfl rfl dX7_nextOf_32 ?_
        refine g_iaddN hX dX7_nextOf_33 ?_
        refine g_istore (lv2 := [(4, .int (nI ((o + 1)))), (0, .ref (h0)), (1, .int (nI (k))), (2, .int (nI (1))), (3, .int (z))]) hX 4 5 hN (by decide) rfl dX7_nextOf_34 ?_
        refine g_goto hX 5 (by decide) dX7_nextOf_36 ?_
        exact ih (o + 1) (by omega) (by rw [← hE, nxR, if_neg (by rw [c27]; decide)])
  refine g_iload_n hX 1 rfl rfl dX7_nextOf_0 ?_
  refine g_iload_n hX 2 rfl rfl dX7_nextOf_1 ?_
  refine g_iaddN hX dX7_nextOf_2 ?_
  refine g_istore (lv2 := [(4, .int (nI ((k + 1)))), (0, .ref (h0)), (1, .int (nI (k))), (2, .int (nI (1))), (3, .int (z))]) hX 4 5 hN (by decide) rfl dX7_nextOf_3 ?_
  exact L (n - (k + 1)) (k + 1) (by omega) rfl
/- the same method with the other side -/
set_option maxHeartbeats 4000000 in
set_option maxRecDepth 100000 in
theorem c_nextL (l : Launch) (D : va_G) (cy : Nat → ClassId) (Z : (Nat → Prop) → State → Heap → Prop) (hzo : zOK Z) {h0 : Nat} {a q : Nat → Nat} {C : (Nat → Int32) → (Nat → Int32) → (Nat → Nat → Int32) → (Nat → Nat → Int32) → va_W} (hC : mLens (cy 0) h0 a q C) (v s : Nat → Int32) (r x : Nat → Nat → Int32) (n : Nat) (hn : s 0 = nI n) (hn9 : n ≤ 9) (k : Nat) (hk : k < n) (z : Int32) (p : Nat → Bool) (hz : ∀ o, o < n → ((z >>> (nI o &&& 31)) &&& nI 1) = bI (p o)) : GD l D cy Z yX7_nextOf (zW yX7_nextOf cX7_nextOf 5 (some .int)) { frames := 0, cells := 0, slots := 0, locals := 0 } [.ref (h0), .int (nI (k)), .int ((-1)), .int (z)] (C v s r x) (some (.int (optI (nxL p k)))) (C v s r x) 0 0 := by
  refine g_entry (cc := cX7_nextOf) (maxL := 5) (by decide) rfl (Nat.le_of_ble_eq_true rfl) ?_
  intro κ hN hX hR
  have hX : GX κ cy Z cX7_nextOf (Cond.code yX7_nextOf cX7_nextOf 5 (some .int) :: zT) RX7 { frames := 0, cells := 0, slots := 0, locals := 0 } := hX
  show GW κ 0 0 _ 0 [(0, .ref (h0)), (1, .int (nI (k))), (2, .int ((-1))), (3, .int (z))] []
  have L : ∀ (o : Nat), o ≤ k → nxL p o = nxL p k → GW κ 0 0 (C v s r x) 5 [(4, .int ((nI (o) + (-1)))), (0, .ref (h0)), (1, .int (nI (k))), (2, .int ((-1))), (3, .int (z))] [] := by
    intro o
    induction o with
    | zero =>
      intro h1 hE
      rw [show nI 0 + (-1) = (-1 : Int32) from by decide]
      refine g_iload hX 0 rfl dX7_nextOf_5 ?_
      refine g_if_lt hX 39 (by decide) dX7_nextOf_7 (fun c7 => ?_) (fun c7 => absurd c7 (fun h => h (by decide)))
      refine g_iload hX 0 rfl dX7_nextOf_39 ?_
      refine g_if_lt hX 60 (by decide) dX7_nextOf_41 (fun c41 => ?_) (fun c41 => absurd c41 (fun h => h (by decide)))
      refine g_iconst hX (v := -1) (by decide) dX7_nextOf_60 ?_
      exact g_reti hR (by rw [← hE]; rfl) rfl dX7_nextOf_61
    | succ o ih =>
      intro h1 hE
      rw [pk_m1 o]
      refine g_iload hX 0 rfl dX7_nextOf_5 ?_
      refine g_ifN_lt hX (by omega) 39 (by decide) dX7_nextOf_7 ?_
      refine g_iload hX 0 rfl dX7_nextOf_10 ?_
      refine g_aload_n hX 1 rfl rfl dX7_nextOf_12 ?_
      refine m_getA hX hC 0 (by decide) rfl tFld_X7_7 dX7_nextOf_13 ?_
      refine g_iconst hX (v := nI 0) rfl dX7_nextOf_16 ?_
      refine m0_aldN hX hC (by omega) dX7_nextOf_17 ?_
      refine g_top (y := .int (nI (n))) (congrArg Value.int hn) ?_
      refine g_icmpN_ge hX (by omega) (by omega) 39 (by decide) dX7_nextOf_18 (fun c18 => absurd c18 (by omega)) (fun c18 => ?_)
      refine g_iload_n hX 4 rfl rfl dX7_nextOf_21 ?_
      refine g_iload hX 0 rfl dX7_nextOf_22 ?_
      refine g_ishr hX dX7_nextOf_24 ?_
      refine g_iconst hX (v := nI 1) rfl dX7_nextOf_25 ?_
      refine g_iand hX dX7_nextOf_26 ?_
      refine g_top (y := .int (bI (p o))) (congrArg Value.int (hz o (by omega))) ?_
      refine g_ifb_ne hX 39 (by decide) dX7_nextOf_27 (fun c27 => ?_) (fun c27 => ?_)
      · refine g_iload hX 0 rfl dX7_nextOf_39 ?_
        refine g_ifN_lt hX (by omega) 60 (by decide) dX7_nextOf_41 ?_
        refine g_iload hX 0 rfl dX7_nextOf_44 ?_
        refine g_aload_n hX 1 rfl rfl dX7_nextOf_46 ?_
        refine m_getA hX hC 0 (by decide) rfl tFld_X7_7 dX7_nextOf_47 ?_
        refine g_iconst hX (v := nI 0) rfl dX7_nextOf_50 ?_
        refine m0_aldN hX hC (by omega) dX7_nextOf_51 ?_
        refine g_top (y := .int (nI (n))) (congrArg Value.int hn) ?_
        refine g_icmpN_ge hX (by omega) (by omega) 60 (by decide) dX7_nextOf_52 (fun c52 => absurd c52 (by omega)) (fun c52 => ?_)
        refine g_iload hX 0 rfl dX7_nextOf_55 ?_
        refine g_goto hX 61 (by decide) dX7_nextOf_57 ?_
        exact g_reti hR (by rw [← hE, nxL, if_pos c27]; rfl) rfl dX7_nextOf_61
      · refine g_iload hX 0 rfl dX7_nextOf_30 ?_
        refine g_iload_n hX 3 rfl rfl dX7_nextOf_32 ?_
        refine g_iadd hX dX7_nextOf_33 ?_
        refine g_istore (lv2 := [(4, .int ((nI (o) + (-1)))), (0, .ref (h0)), (1, .int (nI (k))), (2, .int ((-1))), (3, .int (z))]) hX 4 5 hN (by decide) rfl dX7_nextOf_34 ?_
        refine g_goto hX 5 (by decide) dX7_nextOf_36 ?_
        exact ih (by omega) (by rw [← hE, nxL, if_neg (by rw [c27]; decide)])
  refine g_iload_n hX 1 rfl rfl dX7_nextOf_0 ?_
  refine g_iload_n hX 2 rfl rfl dX7_nextOf_1 ?_
  refine g_iadd hX dX7_nextOf_2 ?_
  refine g_istore (lv2 := [(4, .int ((nI (k) + (-1)))), (0, .ref (h0)), (1, .int (nI (k))), (2, .int ((-1))), (3, .int (z))]) hX 4 5 hN (by decide) rfl dX7_nextOf_3 ?_
  exact L k (by omega) rfl
/-- the last text under t whose key is this one -/
def lastO (s : Nat → Int32) (key : Int32) : Nat → Option Nat
  | 0 => none
  | t + 1 => if s (69 + 200 * t) = key then some t else lastO s key t
theorem kX7_counts : mKV RX7 yX7_counts cX7_counts 4 (some .int) 1 := ⟨tIns_X7_counts, tSel_X7_counts, tIni_X7, tCod_X7_counts, by decide +kernel⟩
set_option maxHeartbeats 4000000 in
set_option maxRecDepth 100000 in
theorem c_counts (l : Launch) (D : va_G) (cy : Nat → ClassId) (Z : (Nat → Prop) → State → Heap → Prop) (hzo : zOK Z) {h0 : Nat} {a q : Nat → Nat} {C : (Nat → Int32) → (Nat → Int32) → (Nat → Nat → Int32) → (Nat → Nat → Int32) → va_W} (hC : mLens (cy 0) h0 a q C) (v s : Nat → Int32) (r x : Nat → Nat → Int32) (t : Nat) (ht : s 1 = nI t) (ht14 : t ≤ 14) (key : Int32) : GD l D cy Z yX7_counts (zW yX7_counts cX7_counts 4 (some .int)) { frames := 1, cells := 0, slots := 0, locals := 21 } [.ref (h0), .int (key)] (C v s r x) (some (.int (optI (lastO s key t)))) (C v s r x) 0 0 := by
  refine g_entry (cc := cX7_counts) (maxL := 4) (by decide) rfl (Nat.le_of_ble_eq_true rfl) ?_
  intro κ hN hX hR
  have hX : GX κ cy Z cX7_counts (Cond.code yX7_counts cX7_counts 4 (some .int) :: zT) RX7 { frames := 1, cells := 0, slots := 0, locals := 21 } := hX
  show GW κ 0 0 _ 0 [(0, .ref (h0)), (1, .int (key))] []
  have L : ∀ (f i : Nat), i ≤ t → t + 1 ≤ i + f → GW κ 0 0 (C v s r x) 4 [(3, .int (nI (i))), (2, .int (optI (lastO s key i))), (0, .ref (h0)), (1, .int (key))] [] := by
    intro f
    induction f with
    | zero => intro i h1 h2; exact absurd h2 (by omega)
    | succ f ih =>
      intro i h1 h2
      refine g_iload_n hX 0 rfl rfl dX7_counts_4 ?_
      refine g_aload_n hX 2 rfl rfl dX7_counts_5 ?_
      refine m_getA hX hC 0 (by decide) rfl tFld_X7_7 dX7_counts_6 ?_
      refine g_iconst hX (v := nI 1) rfl dX7_counts_9 ?_
      refine m0_aldN hX hC (by omega) dX7_counts_10 ?_
      refine g_top (y := .int (nI (t))) (congrArg Value.int ht) ?_
      refine g_icmpN_ge hX (by omega) (by omega) 40 (by decide) dX7_counts_11 (fun c11 => ?_) (fun c11 => ?_)
      · refine g_iload_n hX 1 rfl rfl dX7_counts_40 ?_
        exact g_reti hR (by rw [show i = t from by omega]) rfl dX7_counts_41
      · refine g_aload_n hX 2 rfl rfl dX7_counts_14 ?_
        refine m_getA hX hC 0 (by decide) rfl tFld_X7_7 dX7_counts_15 ?_
        refine g_aload_n hX 2 rfl rfl dX7_counts_18 ?_
        refine g_iload_n hX 0 rfl rfl dX7_counts_19 ?_
        refine m_callD hX hzo hC [.int (nI (i))] [.ref (a 0)] (c_textAt _ _ _ _ hzo hC v s r x (i)) kX7_textAt tMet_X7_283 rfl rfl (Nat.le_of_ble_eq_true rfl) (Nat.le_of_ble_eq_true rfl) ⟨Nat.le_of_ble_eq_true rfl, Nat.le_of_ble_eq_true rfl⟩ rfl rfl (Nat.le_of_ble_eq_true rfl) dX7_counts_20 ?_
        refine m0_aldN hX hC (by omega) dX7_counts_23 ?_
        refine g_iload_n hX 3 rfl rfl dX7_counts_24 ?_
        refine g_icmp_ne hX 32 (by decide) dX7_counts_25 (fun c25 => ?_) (fun c25 => ?_)
        · refine g_iload_n hX 1 rfl rfl dX7_counts_32 ?_
          refine g_istore_n (lv2 := [(2, .int (optI (lastO s key i))), (3, .int (nI (i))), (0, .ref (h0)), (1, .int (key))]) hX 2 4 hN rfl (by decide) rfl dX7_counts_33 ?_
          refine g_iincN (n := 1) (lv2 := [(3, .int (nI (i + 1))), (2, .int (optI (lastO s key i))), (0, .ref (h0)), (1, .int (key))]) hX 1 3 4 hN rfl (by decide) rfl dX7_counts_34 ?_
          refine g_goto hX 4 (by decide) dX7_counts_37 ?_
          have e : optI (lastO s key (i + 1)) = optI (lastO s key i) := (by rw [lastO, if_neg c25])
          have K := ih (i + 1) (by omega) (by omega)
          rw [e] at K
          exact K
        · refine g_iload_n hX 0 rfl rfl dX7_counts_28 ?_
          refine g_goto hX 33 (by decide) dX7_counts_29 ?_
          refine g_istore_n (lv2 := [(2, .int (nI (i))), (3, .int (nI (i))), (0, .ref (h0)), (1, .int (key))]) hX 2 4 hN rfl (by decide) rfl dX7_counts_33 ?_
          refine g_iincN (n := 1) (lv2 := [(3, .int (nI (i + 1))), (2, .int (nI (i))), (0, .ref (h0)), (1, .int (key))]) hX 1 3 4 hN rfl (by decide) rfl dX7_counts_34 ?_
          refine g_goto hX 4 (by decide) dX7_counts_37 ?_
          have e : optI (lastO s key (i + 1)) = nI (i) := (by rw [lastO, if_pos c25]; rfl)
          have K := ih (i + 1) (by omega) (by omega)
          rw [e] at K
          exact K
  refine g_iconst hX (v := -1) (by decide) dX7_counts_0 ?_
  refine g_istore_n (lv2 := [(2, .int ((-1))), (0, .ref (h0)), (1, .int (key))]) hX 2 4 hN rfl (by decide) rfl dX7_counts_1 ?_
  refine g_iconst hX (v := nI 0) rfl dX7_counts_2 ?_
  refine g_istore_n (lv2 := [(3, .int (nI (0))), (2, .int ((-1))), (0, .ref (h0)), (1, .int (key))]) hX 3 4 hN rfl (by decide) rfl dX7_counts_3 ?_
  exact L (t + 1) 0 (by omega) (by omega)
/-- two numbers joined by a sign -/
def joinI (m z y : Int32) : Int32 := if m = nI 43 then z + y else if m = nI 45 then z - y else if m = nI 42 then z * y else if m = nI 47 then (if y = 0 then 0 else z / y) else if m = nI 60 then bI (decide (z < y)) else if m = nI 62 then bI (decide (y < z)) else if m = nI 61 then bI (decide (z = y)) else if m = nI 38 then bI (decide (z ≠ 0) && decide (y ≠ 0)) else bI (decide (z ≠ 0) || decide (y ≠ 0))
theorem div_m1 (z : Int32) : z / (-1) = -z := by
  apply Int32.toInt_inj.mp
  rw [Int32.toInt_div, show (-1 : Int32).toInt = -1 from by decide, Int.tdiv_neg, Int.tdiv_one, Int32.toInt_neg]
theorem kX7_joined : mKS yX7_joined cX7_joined 3 (some .int) 3 := ⟨tSta_X7_joined, tIni_X7, tCod_X7_joined, by decide +kernel⟩
set_option maxHeartbeats 4000000 in
set_option maxRecDepth 100000 in
theorem c_joined (l : Launch) (D : va_G) (cy : Nat → ClassId) (Z : (Nat → Prop) → State → Heap → Prop) (w : va_W) (m z y : Int32) : GD l D cy Z yX7_joined (zW yX7_joined cX7_joined 3 (some .int)) { frames := 0, cells := 0, slots := 0, locals := 0 } [.int (m), .int (z), .int (y)] w (some (.int (joinI m z y))) w 0 0 := by
  refine g_entry (cc := cX7_joined) (maxL := 3) (by decide) rfl (Nat.le_of_ble_eq_true rfl) ?_
  intro κ hN hX hR
  have hX : GX κ cy Z cX7_joined (Cond.code yX7_joined cX7_joined 3 (some .int) :: zT) RX7 { frames := 0, cells := 0, slots := 0, locals := 0 } := hX
  show GW κ 0 0 _ 0 [(0, .int (m)), (1, .int (z)), (2, .int (y))] []
  have J : joinI m z y = bI (decide (z ≠ 0) || decide (y ≠ 0)) → GW κ 0 0 w 197 [(0, .int (m)), (1, .int (z)), (2, .int (y))] [] := by
    intro hJ
    refine g_iload_n hX 1 rfl rfl dX7_joined_197 ?_
    refine g_if_ne hX 205 (by decide) dX7_joined_198 (fun c198 => ?_) (fun c198 => ?_)
    · refine g_iconst hX (v := nI 1) rfl dX7_joined_205 ?_
      refine g_goto hX 210 (by decide) dX7_joined_206 ?_
      exact g_reti hR (by rw [hJ]; simp [bI, c198]; rfl) rfl dX7_joined_210
    · refine g_iload_n hX 2 rfl rfl dX7_joined_201 ?_
      refine g_if_eq hX 209 (by decide) dX7_joined_202 (fun c202 => ?_) (fun c202 => ?_)
      · refine g_iconst hX (v := nI 0) rfl dX7_joined_209 ?_
        exact g_reti hR (by rw [hJ]; simp [bI, c198, c202]; rfl) rfl dX7_joined_210
      · refine g_iconst hX (v := nI 1) rfl dX7_joined_205 ?_
        refine g_goto hX 210 (by decide) dX7_joined_206 ?_
        exact g_reti hR (by rw [hJ]; simp [bI, c198, c202]; rfl) rfl dX7_joined_210
  refine g_iload_n hX 0 rfl rfl dX7_joined_0 ?_
  rcases sw_in (m) 38 62 (by decide) with w1 | ⟨j1, w1a, w1b, w1⟩
  · refine g_tableOut hX 197 w1 (by decide) dX7_joined_1 ?_
    exact J (by rw [joinI]; simp [sw_out w1 43 (by decide) (by decide) (by decide), sw_out w1 45 (by decide) (by decide) (by decide), sw_out w1 42 (by decide) (by decide) (by decide), sw_out w1 47 (by decide) (by decide) (by decide), sw_out w1 60 (by decide) (by decide) (by decide), sw_out w1 62 (by decide) (by decide) (by decide), sw_out w1 61 (by decide) (by decide) (by decide), sw_out w1 38 (by decide) (by decide) (by decide)])
  · have hj : j1 = 38 ∨ j1 = 39 ∨ j1 = 40 ∨ j1 = 41 ∨ j1 = 42 ∨ j1 = 43 ∨ j1 = 44 ∨ j1 = 45 ∨ j1 = 46 ∨ j1 = 47 ∨ j1 = 48 ∨ j1 = 49 ∨ j1 = 50 ∨ j1 = 51 ∨ j1 = 52 ∨ j1 = 53 ∨ j1 = 54 ∨ j1 = 55 ∨ j1 = 56 ∨ j1 = 57 ∨ j1 = 58 ∨ j1 = 59 ∨ j1 = 60 ∨ j1 = 61 ∨ j1 = 62 := by omega
    rcases hj with rfl | rfl | rfl | rfl | rfl | rfl | rfl | rfl | rfl | rfl | rfl | rfl | rfl | rfl | rfl | rfl | rfl | rfl | rfl | rfl | rfl | rfl | rfl | rfl | rfl
    · refine g_top (y := .int (nI 38)) (congrArg Value.int w1) ?_
      refine g_tableIn hX 183 (by decide) (by decide) rfl (by decide) dX7_joined_1 ?_
      refine g_iload_n hX 1 rfl rfl dX7_joined_183 ?_
      refine g_if_eq hX 195 (by decide) dX7_joined_184 (fun c184 => ?_) (fun c184 => ?_)
      · refine g_iconst hX (v := nI 0) rfl dX7_joined_195 ?_
        exact g_reti hR (by rw [joinI, w1]; show _ = bI (decide (z ≠ 0) && decide (y ≠ 0)); simp [bI, c184]; rfl) rfl dX7_joined_196
      · refine g_iload_n hX 2 rfl rfl dX7_joined_187 ?_
        refine g_if_eq hX 195 (by decide) dX7_joined_188 (fun c188 => ?_) (fun c188 => ?_)
        · refine g_iconst hX (v := nI 0) rfl dX7_joined_195 ?_
          exact g_reti hR (by rw [joinI, w1]; show _ = bI (decide (z ≠ 0) && decide (y ≠ 0)); simp [bI, c184, c188]; rfl) rfl dX7_joined_196
        · refine g_iconst hX (v := nI 1) rfl dX7_joined_191 ?_
          refine g_goto hX 196 (by decide) dX7_joined_192 ?_
          exact g_reti hR (by rw [joinI, w1]; show _ = bI (decide (z ≠ 0) && decide (y ≠ 0)); simp [bI, c184, c188]; rfl) rfl dX7_joined_196
    · refine g_top (y := .int (nI 39)) (congrArg Value.int w1) ?_
      refine g_tableIn hX 197 (by decide) (by decide) rfl (by decide) dX7_joined_1 ?_
      exact J (by rw [joinI, w1]; rfl)
    · refine g_top (y := .int (nI 40)) (congrArg Value.int w1) ?_
      refine g_tableIn hX 197 (by decide) (by decide) rfl (by decide) dX7_joined_1 ?_
      exact J (by rw [joinI, w1]; rfl)
    · refine g_top (y := .int (nI 41)) (congrArg Value.int w1) ?_
      refine g_tableIn hX 197 (by decide) (by decide) rfl (by decide) dX7_joined_1 ?_
      exact J (by rw [joinI, w1]; rfl)
    · refine g_top (y := .int (nI 42)) (congrArg Value.int w1) ?_
      refine g_tableIn hX 124 (by decide) (by decide) rfl (by decide) dX7_joined_1 ?_
      refine g_iload_n hX 1 rfl rfl dX7_joined_124 ?_
      refine g_iload_n hX 2 rfl rfl dX7_joined_125 ?_
      refine g_imul hX dX7_joined_126 ?_
      exact g_reti hR (by rw [joinI, w1]; rfl) rfl dX7_joined_127
    · refine g_top (y := .int (nI 43)) (congrArg Value.int w1) ?_
      refine g_tableIn hX 116 (by decide) (by decide) rfl (by decide) dX7_joined_1 ?_
      refine g_iload_n hX 1 rfl rfl dX7_joined_116 ?_
      refine g_iload_n hX 2 rfl rfl dX7_joined_117 ?_
      refine g_iadd hX dX7_joined_118 ?_
      exact g_reti hR (by rw [joinI, w1]; rfl) rfl dX7_joined_119
    · refine g_top (y := .int (nI 44)) (congrArg Value.int w1) ?_
      refine g_tableIn hX 197 (by decide) (by decide) rfl (by decide) dX7_joined_1 ?_
      exact J (by rw [joinI, w1]; rfl)
    · refine g_top (y := .int (nI 45)) (congrArg Value.int w1) ?_
      refine g_tableIn hX 120 (by decide) (by decide) rfl (by decide) dX7_joined_1 ?_
      refine g_iload_n hX 1 rfl rfl dX7_joined_120 ?_
      refine g_iload_n hX 2 rfl rfl dX7_joined_121 ?_
      refine g_isub hX dX7_joined_122 ?_
      exact g_reti hR (by rw [joinI, w1]; rfl) rfl dX7_joined_123
    · refine g_top (y := .int (nI 46)) (congrArg Value.int w1) ?_
      refine g_tableIn hX 197 (by decide) (by decide) rfl (by decide) dX7_joined_1 ?_
      exact J (by rw [joinI, w1]; rfl)
    · refine g_top (y := .int (nI 47)) (congrArg Value.int w1) ?_
      refine g_tableIn hX 128 (by decide) (by decide) rfl (by decide) dX7_joined_1 ?_
      refine g_iload_n hX 2 rfl rfl dX7_joined_128 ?_
      refine g_if_ne hX 136 (by decide) dX7_joined_129 (fun c129 => ?_) (fun c129 => ?_)
      · refine g_iload_n hX 2 rfl rfl dX7_joined_136 ?_
        refine g_iconst hX (v := -1) (by decide) dX7_joined_137 ?_
        refine g_icmp_ne hX 146 (by decide) dX7_joined_138 (fun c138 => ?_) (fun c138 => ?_)
        · refine g_iload_n hX 1 rfl rfl dX7_joined_146 ?_
          refine g_iload_n hX 2 rfl rfl dX7_joined_147 ?_
          refine g_idiv hX c129 dX7_joined_148 ?_
          exact g_reti hR (by rw [joinI, w1]; show _ = (if y = 0 then 0 else z / y); rw [if_neg c129]) rfl dX7_joined_149
        · refine g_iload_n hX 1 rfl rfl dX7_joined_141 ?_
          refine g_ineg hX dX7_joined_142 ?_
          refine g_goto hX 149 (by decide) dX7_joined_143 ?_
          exact g_reti hR (by rw [joinI, w1]; show _ = (if y = 0 then 0 else z / y); rw [if_neg c129, c138, div_m1]) rfl dX7_joined_149
      · refine g_iconst hX (v := nI 0) rfl dX7_joined_132 ?_
        refine g_goto hX 149 (by decide) dX7_joined_133 ?_
        exact g_reti hR (by rw [joinI, w1]; show _ = (if y = 0 then 0 else z / y); rw [if_pos c129]; rfl) rfl dX7_joined_149
    · refine g_top (y := .int (nI 48)) (congrArg Value.int w1) ?_
      refine g_tableIn hX 197 (by decide) (by decide) rfl (by decide) dX7_joined_1 ?_
      exact J (by rw [joinI, w1]; rfl)
    · refine g_top (y := .int (nI 49)) (congrArg Value.int w1) ?_
      refine g_tableIn hX 197 (by decide) (by decide) rfl (by decide) dX7_joined_1 ?_
      exact J (by rw [joinI, w1]; rfl)
    · refine g_top (y := .int (nI 50)) (congrArg Value.int w1) ?_
      refine g_tableIn hX 197 (by decide) (by decide) rfl (by decide) dX7_joined_1 ?_
      exact J (by rw [joinI, w1]; rfl)
    · refine g_top (y := .int (nI 51)) (congrArg Value.int w1) ?_
      refine g_tableIn hX 197 (by decide) (by decide) rfl (by decide) dX7_joined_1 ?_
      exact J (by rw [joinI, w1]; rfl)
    · refine g_top (y := .int (nI 52)) (congrArg Value.int w1) ?_
      refine g_tableIn hX 197 (by decide) (by decide) rfl (by decide) dX7_joined_1 ?_
      exact J (by rw [joinI, w1]; rfl)
    · refine g_top (y := .int (nI 53)) (congrArg Value.int w1) ?_
      refine g_tableIn hX 197 (by decide) (by decide) rfl (by decide) dX7_joined_1 ?_
      exact J (by rw [joinI, w1]; rfl)
    · refine g_top (y := .int (nI 54)) (congrArg Value.int w1) ?_
      refine g_tableIn hX 197 (by decide) (by decide) rfl (by decide) dX7_joined_1 ?_
      exact J (by rw [joinI, w1]; rfl)
    · refine g_top (y := .int (nI 55)) (congrArg Value.int w1) ?_
      refine g_tableIn hX 197 (by decide) (by decide) rfl (by decide) dX7_joined_1 ?_
      exact J (by rw [joinI, w1]; rfl)
    · refine g_top (y := .int (nI 56)) (congrArg Value.int w1) ?_
      refine g_tableIn hX 197 (by decide) (by decide) rfl (by decide) dX7_joined_1 ?_
      exact J (by rw [joinI, w1]; rfl)
    · refine g_top (y := .int (nI 57)) (congrArg Value.int w1) ?_
      refine g_tableIn hX 197 (by decide) (by decide) rfl (by decide) dX7_joined_1 ?_
      exact J (by rw [joinI, w1]; rfl)
    · refine g_top (y := .int (nI 58)) (congrArg Value.int w1) ?_
      refine g_tableIn hX 197 (by decide) (by decide) rfl (by decide) dX7_joined_1 ?_
      exact J (by rw [joinI, w1]; rfl)
    · refine g_top (y := .int (nI 59)) (congrArg Value.int w1) ?_
      refine g_tableIn hX 197 (by decide) (by decide) rfl (by decide) dX7_joined_1 ?_
      exact J (by rw [joinI, w1]; rfl)
    · refine g_top (y := .int (nI 60)) (congrArg Value.int w1) ?_
      refine g_tableIn hX 150 (by decide) (by decide) rfl (by decide) dX7_joined_1 ?_
      refine g_iload_n hX 1 rfl rfl dX7_joined_150 ?_
      refine g_iload_n hX 2 rfl rfl dX7_joined_151 ?_
      refine g_icmp_ge hX 159 (by decide) dX7_joined_152 (fun c152 => ?_) (fun c152 => ?_)
      · refine g_iconst hX (v := nI 0) rfl dX7_joined_159 ?_
        exact g_reti hR (by rw [joinI, w1]; show _ = bI (decide (z < y)); simp [bI, Int32.not_lt.mpr c152]; rfl) rfl dX7_joined_160
      · refine g_iconst hX (v := nI 1) rfl dX7_joined_155 ?_
        refine g_goto hX 160 (by decide) dX7_joined_156 ?_
        exact g_reti hR (by rw [joinI, w1]; show _ = bI (decide (z < y)); simp [bI, Int32.not_le.mp c152]; rfl) rfl dX7_joined_160
    · refine g_top (y := .int (nI 61)) (congrArg Value.int w1) ?_
      refine g_tableIn hX 172 (by decide) (by decide) rfl (by decide) dX7_joined_1 ?_
      refine g_iload_n hX 1 rfl rfl dX7_joined_172 ?_
      refine g_iload_n hX 2 rfl rfl dX7_joined_173 ?_
      refine g_icmp_ne hX 181 (by decide) dX7_joined_174 (fun c174 => ?_) (fun c174 => ?_)
      · refine g_iconst hX (v := nI 0) rfl dX7_joined_181 ?_
        exact g_reti hR (by rw [joinI, w1]; show _ = bI (decide (z = y)); simp [bI, c174]; rfl) rfl dX7_joined_182
      · refine g_iconst hX (v := nI 1) rfl dX7_joined_177 ?_
        refine g_goto hX 182 (by decide) dX7_joined_178 ?_
        exact g_reti hR (by rw [joinI, w1]; show _ = bI (decide (z = y)); simp [bI, c174]; rfl) rfl dX7_joined_182
    · refine g_top (y := .int (nI 62)) (congrArg Value.int w1) ?_
      refine g_tableIn hX 161 (by decide) (by decide) rfl (by decide) dX7_joined_1 ?_
      refine g_iload_n hX 1 rfl rfl dX7_joined_161 ?_
      refine g_iload_n hX 2 rfl rfl dX7_joined_162 ?_
      refine g_icmp_le hX 170 (by decide) dX7_joined_163 (fun c163 => ?_) (fun c163 => ?_)
      · refine g_iconst hX (v := nI 0) rfl dX7_joined_170 ?_
        exact g_reti hR (by rw [joinI, w1]; show _ = bI (decide (y < z)); simp [bI, Int32.not_lt.mpr c163]; rfl) rfl dX7_joined_171
      · refine g_iconst hX (v := nI 1) rfl dX7_joined_166 ?_
        refine g_goto hX 171 (by decide) dX7_joined_167 ?_
        exact g_reti hR (by rw [joinI, w1]; show _ = bI (decide (y < z)); simp [bI, Int32.not_le.mp c163]; rfl) rfl dX7_joined_171
