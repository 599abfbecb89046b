/-! ===== reading a text, on both sides: states and first steps ===== -/
def Fm (b : Nat) (σ0 σ : Sg) (v0 v s0 s : Nat → Int32) : Prop := (∀ x, x ≠ 64 → x ≠ 66 → σ.1 x = σ0.1 x) ∧ σ.2 = σ0.2 ∧ (∀ x, (x < 17 ∨ 27 ≤ x) → v x = v0 x) ∧ (∀ j, (j < b + 4 ∨ b + 196 ≤ j) → s j = s0 j) ∧ v 25 = nI (b + 4) ∧ b ≤ 2865
def FS (tp : Nat) (B : Nat → Nat) (b key : Nat) (σ0 : Sg) (v0 s0 : Nat → Int32) (r : Nat → Nat → Int32) (σ : Sg) (v s : Nat → Int32) (st en L P Q h dp tn K : Nat) : Prop := Tp tp B σ v r ∧ Fm b σ0 σ v0 v s0 s ∧ TK tp B σ v st en ∧ (σ.1 64 5 = nI key ∧ key ≤ 2 ∧ v 22 = nI dp ∧ v 23 = nI tn ∧ σ.1 64 7 = nI L ∧ v 24 = nI L ∧ σ.1 64 8 = nI P ∧ v 26 = nI P ∧ L + 1 ≤ K ∧ K ≤ 96 ∧ P ≤ L) ∧ (∀ k, k < L → stR key (σ.1 66 k) (s (b + 4 + 2 * k)) (s (b + 4 + 2 * k + 1))) ∧ (∀ k, k ≤ L → ∃ g, wkH s b k = some g ∧ g ≤ Q) ∧ wkH s b L = some h
def FW (b : Nat) (σ0 : Sg) (v0 s0 : Nat → Int32) (σ : Sg) (v s : Nat → Int32) : Prop := Fm b σ0 σ v0 v s0 s ∧ (∃ st, st ≤ 96 ∧ σ.1 64 2 = nI st ∧ v 17 = nI st) ∧ ∃ L, L ≤ 96 ∧ σ.1 64 7 = nI L
section RD
variable {ε : Ev} {tp : Nat} {B : Nat → Nat} {b key : Nat} {σ0 σ : Sg} {v0 s0 v s : Nat → Int32} {r : Nat → Nat → Int32} {st en L P Q h dp tn K : Nat}
theorem FS.w (hF : FS tp B b key σ0 v0 s0 r σ v s st en L P Q h dp tn K) : FW b σ0 v0 s0 σ v s := by
  obtain ⟨hT, hm, hK, ⟨k5, k2, d22, t23, l7, l24, p8, p26, hl, hk6, hp⟩, -⟩ := hF
  have := hT.1
  have := hK.2.2.2.2.1
  have := hK.2.2.2.2.2.1
  exact ⟨hm, ⟨st, by omega, hK.1, hK.2.1⟩, L, by omega, l7⟩
/-- a sign is looked at -/
def sgB (σ : Sg) (B : Nat → Nat) (st c : Nat) : Bool := decide (σ.1 64 4 = nI 3) && decide (B st = c)
theorem sgB_t {c : Nat} (h : sgB σ B st c = true) : σ.1 64 4 = nI 3 ∧ B st = c := by
  rw [sgB, Bool.and_eq_true, decide_eq_true_eq, decide_eq_true_eq] at h; exact h
theorem at_eq (hF : FS tp B b key σ0 v0 s0 r σ v s st en L P Q h dp tn K) {c : Nat} (hc : c < 256) : fn_X1_isAt ε (nI c) σ = some (bI (sgB σ B st c), σ) ∧ fn_X7_isSign (nI c) (v, s, r) = some (bI (sgB σ B st c), (v, s, r)) := by
  obtain ⟨⟨t1, t2, t3, t4, t5, t6⟩, -, ⟨q2, q17, q3, q18, l1, l2, hTT⟩, -⟩ := hF
  have b0 : bI false = nI 0 := rfl
  have b1 : bI true = nI 1 := rfl
  simp only [fn_X1_isAt, fn_X1_isAt_L36, fn_X1_isAt_L37, fn_X7_isSign, fn_X7_isSign_L20, fn_X7_isSign_L21, t3, q2, if_pos (show nI 0 = 0 ∨ nI 0 = 1 from by decide), if_pos (show nI 1 = 0 ∨ nI 1 = 1 from by decide)]
  have no : ∀ x y : Nat, x ≤ 4 → y ≤ 4 → x ≠ 3 → y ≠ 3 → σ.1 64 4 = nI x → v 19 = nI y → (if σ.1 64 4 = nI 3 then (if nI tp ≤ nI st then some (nI 0, σ) else (if ¬ (nI st < 0 ∨ 96 ≤ (nI st).toNatClampNeg) then (if σ.1 65 (nI st).toNatClampNeg = nI c then some (nI 1, σ) else some (nI 0, σ)) else none)) else some (nI 0, σ)) = some (bI (sgB σ B st c), σ) ∧ (if v 19 = nI 3 then (if v 21 = nI c then some (nI 1, ((v, s, r) : Mg)) else some (nI 0, (v, s, r))) else some (nI 0, (v, s, r))) = some (bI (sgB σ B st c), (v, s, r)) := by
    intro x y hx hy x3 y3 e1 e2
    have n1 : ¬ σ.1 64 4 = nI 3 := fun w => x3 (nI_j (by omega) (by omega) (e1.symm.trans w))
    have n2 : ¬ v 19 = nI 3 := fun w => y3 (nI_j (by omega) (by omega) (e2.symm.trans w))
    rw [if_neg n1, if_neg n2, sgB, decide_eq_false n1]
    exact ⟨rfl, rfl⟩
  rcases hTT with ⟨e1, e2, -⟩ | ⟨e1, e2, -⟩ | ⟨e1, e2, -⟩ | ⟨e1, e2, l3, e21⟩ | ⟨e1, e2, -⟩ | ⟨e1, e2⟩
  · exact no 0 0 (by decide) (by decide) (by decide) (by decide) e1 e2
  · exact no 1 1 (by decide) (by decide) (by decide) (by decide) e1 e2
  · exact no 2 2 (by decide) (by decide) (by decide) (by decide) e1 e2
  · have hlt : st < tp := by omega
    rw [if_pos e1, if_pos e2, if_neg (nI_ge hlt (by omega)), nI_clamp (by omega), if_pos (g_in (show st < 96 by omega) (by decide)), t5 st hlt, sgB, decide_eq_true e1]
    have := t2 st hlt
    by_cases q : B st = c
    · rw [if_pos (show nI (B st) = nI c from by rw [q]), if_pos (show v 21 = nI c from by rw [e21, q]), decide_eq_true q]; exact ⟨rfl, rfl⟩
    · rw [if_neg (show ¬ nI (B st) = nI c from fun w => q (nI_j (by omega) (by omega) w)), if_neg (show ¬ v 21 = nI c from fun w => q (nI_j (by omega) (by omega) (e21.symm.trans w))), decide_eq_false q]; exact ⟨rfl, rfl⟩
  · exact no 2 4 (by decide) (by decide) (by decide) (by decide) e1 e2
  · exact no 4 4 (by decide) (by decide) (by decide) (by decide) e1 e2
/-- going on behind a word, a number or a sign -/
theorem adv (hF : FS tp B b key σ0 v0 s0 r σ v s st en L P Q h dp tn K) (hg : (σ.1 64 4 = nI 1 ∧ v 19 = nI 1) ∨ (σ.1 64 4 = nI 2 ∧ v 19 = nI 2) ∨ σ.1 64 4 = nI 3) : ∃ σ' v' st' en', fn_X1_goNext ε σ = some ((), σ') ∧ fn_X7_nextToken (v, s, r) = some ((), (v', s, r)) ∧ FS tp B b key σ0 v0 s0 r σ' v' s st' en' L P Q h dp tn K ∧ st + 1 ≤ st' := by
  obtain ⟨hT, ⟨m1, m2, m3, m4, m5, m6⟩, ⟨q2, q17, q3, q18, l1, l2, hTT⟩, ⟨k5, k2, d22, t23, l7, l24, p8, p26, hl, hk6, hp⟩, hst, hH, hh⟩ := hF
  have hT' := hT
  obtain ⟨t1, t2, t3, t4, t5, t6⟩ := hT
  have fin : ∀ bb : Bool, st + 1 ≤ en → (if bb then (σ.1 64 4 = nI 1 ∨ σ.1 64 4 = nI 2) ∧ (v 19 = nI 1 ∨ v 19 = nI 2) ∧ 0 < en else (¬ σ.1 64 4 = nI 1 ∧ ¬ σ.1 64 4 = nI 2) ∧ (en = 0 ∨ (¬ v 19 = nI 1 ∧ ¬ v 19 = nI 2))) → ∃ σ' v' st' en', fn_X1_goNext ε σ = some ((), σ') ∧ fn_X7_nextToken (v, s, r) = some ((), (v', s, r)) ∧ FS tp B b key σ0 v0 s0 r σ' v' s st' en' L P Q h dp tn K ∧ st + 1 ≤ st' := by
    intro bb hse hb
    obtain ⟨σ', v', st', en', e1, e2, g1, g2, g3, g4, g5, g6⟩ := next_ok (ε := ε) (s := s) hT' bb q3 q18 l2 hb
    refine ⟨σ', v', st', en', e1, e2, ⟨⟨t1, t2, by rw [g4 1 (by decide) (by decide) (by decide)]; exact t3, by rw [g6 16 (by decide)]; exact t4, fun j hj => by rw [g3 65 (by decide)]; exact t5 j hj, t6⟩, ⟨fun x a c => by rw [g3 x a]; exact m1 x a c, g5.trans m2, fun x hx => by rw [g6 x (by omega)]; exact m3 x hx, m4, by rw [g6 25 (by decide)]; exact m5, m6⟩, g2, ⟨by rw [g4 5 (by decide) (by decide) (by decide)]; exact k5, k2, by rw [g6 22 (by decide)]; exact d22, by rw [g6 23 (by decide)]; exact t23, by rw [g4 7 (by decide) (by decide) (by decide)]; exact l7, by rw [g6 24 (by decide)]; exact l24, by rw [g4 8 (by decide) (by decide) (by decide)]; exact p8, by rw [g6 26 (by decide)]; exact p26, hl, hk6, hp⟩, fun k hk => by rw [g3 66 (by decide)]; exact hst k hk, hH, hh⟩, by omega⟩
  have ne : ∀ x y : Nat, x ≤ 4 → y ≤ 4 → x ≠ y → ¬ nI x = nI y := fun x y hx hy hxy w => hxy (nI_j (by omega) (by omega) w)
  rcases hTT with ⟨e1, e2, -⟩ | ⟨e1, e2, e3, -⟩ | ⟨e1, e2, e3, -⟩ | ⟨e1, e2, e3, -⟩ | ⟨e1, e2, -⟩ | ⟨e1, e2⟩
  · rw [e1, e2] at hg
    rcases hg with ⟨w, -⟩ | ⟨w, -⟩ | w
    · exact absurd w (by decide)
    · exact absurd w (by decide)
    · exact absurd w (by decide)
  · exact fin true (by omega) ⟨Or.inl e1, Or.inl e2, by omega⟩
  · exact fin true (by omega) ⟨Or.inr e1, Or.inr e2, by omega⟩
  · exact fin false (by omega) ⟨⟨by rw [e1]; decide, by rw [e1]; decide⟩, Or.inr ⟨by rw [e2]; decide, by rw [e2]; decide⟩⟩
  · rw [e1, e2] at hg
    rcases hg with ⟨w, -⟩ | ⟨-, w⟩ | w
    · exact absurd w (by decide)
    · exact absurd w (by decide)
    · exact absurd w (by decide)
  · rw [e1, e2] at hg
    rcases hg with ⟨w, -⟩ | ⟨w, -⟩ | w
    · exact absurd w (by decide)
    · exact absurd w (by decide)
    · exact absurd w (by decide)
theorem adv_sg (hF : FS tp B b key σ0 v0 s0 r σ v s st en L P Q h dp tn K) {c : Nat} (hs : sgB σ B st c = true) : ∃ σ' v' st' en', fn_X1_goNext ε σ = some ((), σ') ∧ fn_X7_nextToken (v, s, r) = some ((), (v', s, r)) ∧ FS tp B b key σ0 v0 s0 r σ' v' s st' en' L P Q h dp tn K ∧ st + 1 ≤ st' := adv hF (Or.inr (Or.inr (sgB_t hs).1))
theorem FS.lt (hF : FS tp B b key σ0 v0 s0 r σ v s st en L P Q h dp tn K) {c : Nat} (hs : sgB σ B st c = true) : v 21 = nI c := by
  obtain ⟨-, -, ⟨q2, q17, q3, q18, l1, l2, hTT⟩, -⟩ := hF
  obtain ⟨w1, w2⟩ := sgB_t hs
  unfold TT at hTT
  rw [w1] at hTT
  rcases hTT with ⟨e1, -⟩ | ⟨e1, -⟩ | ⟨e1, -⟩ | ⟨e1, e2, l3, e21⟩ | ⟨e1, -⟩ | ⟨e1, -⟩
  · exact absurd e1 (by decide)
  · exact absurd e1 (by decide)
  · exact absurd e1 (by decide)
  · rw [e21, w2]
  · exact absurd e1 (by decide)
  · exact absurd e1 (by decide)
/-- the height behind one step more -/
def hN1 (wh vv : Int32) (h h' : Nat) : Prop := (wh = nI 2 ∧ vv = nI 33 ∧ 1 ≤ h ∧ h' = h) ∨ (wh = nI 2 ∧ ¬ vv = nI 33 ∧ 2 ≤ h ∧ h' = h - 1) ∨ (¬ wh = nI 2 ∧ h' = h + 1)
theorem wr_ok (hF : FS tp B b key σ0 v0 s0 r σ v s st en L P Q h dp tn K) (hsl : L + 2 ≤ K) {cd wh vv : Int32} (hR : stR key cd wh vv) {h' : Nat} (hh' : hN1 wh vv h h') {Q' : Nat} (hQ : Q ≤ Q') (hQ2 : h' ≤ Q') : ∃ σ' s' v', fn_X1_write ε cd σ = some ((), σ') ∧ fn_X7_step wh vv (v, s, r) = some ((), (v', s', r)) ∧ FS tp B b key σ0 v0 s0 r σ' v' s' st en (L + 1) P Q' h' dp tn K ∧ σ'.1 64 4 = σ.1 64 4 ∧ v' 19 = v 19 := by
  obtain ⟨⟨t1, t2, t3, t4, t5, t6⟩, ⟨m1, m2, m3, m4, m5, m6⟩, ⟨q2, q17, q3, q18, l1, l2, hTT⟩, ⟨k5, k2, d22, t23, l7, l24, p8, p26, hl, hk6, hp⟩, hst, hH, hh⟩ := hF
  have L96 : L < 96 := by omega
  have e7 : (pI σ 66 L cd).1 64 7 = nI L := by rw [pI_nc (by decide)]; exact l7
  refine ⟨pI (pI σ 66 L cd) 64 7 (nI (L + 1)), upd (upd s (b + 4 + 2 * L) wh) (b + 4 + 2 * L + 1) vv, upd v 24 (nI (L + 1)), ?_, ?_, ?_⟩
  · rw [fn_X1_write, l7, if_neg (nI_ge L96 (by decide)), nI_clamp (by omega), if_pos (g_in L96 (by decide)), e7, nI_add, fn_X1_write_L29]
  · rw [fn_X7_step]
    dsimp only
    simp only [m5, l24, pk_mul, nI_add, nI_clamp (show b + 4 + 2 * L < 2 ^ 31 by omega), nI_clamp (show b + 4 + 2 * L + 1 < 2 ^ 31 by omega), if_pos (g_in (show b + 4 + 2 * L < 3069 by omega) (show 3069 < 2 ^ 31 by decide)), if_pos (g_in (show b + 4 + 2 * L + 1 < 3069 by omega) (show 3069 < 2 ^ 31 by decide))]
  · have c64 : ∀ w, w ≠ 7 → (pI (pI σ 66 L cd) 64 7 (nI (L + 1))).1 64 w = σ.1 64 w := fun w hw => by rw [pI_n (Or.inr hw), pI_nc (by decide)]
    have cx : ∀ x, x ≠ 64 → x ≠ 66 → (pI (pI σ 66 L cd) 64 7 (nI (L + 1))).1 x = σ.1 x := fun x a c => by rw [pI_nc a, pI_nc c]
    have c66 : ∀ k, (pI (pI σ 66 L cd) 64 7 (nI (L + 1))).1 66 k = if k = L then cd else σ.1 66 k := fun k => by
      rw [pI_nc (by decide)]
      by_cases e : k = L
      · rw [if_pos e, e, pI_e]
      · rw [if_neg e, pI_n (Or.inr e)]
    have vs : ∀ x, x ≠ 24 → upd v 24 (nI (L + 1)) x = v x := fun x hx => pk_un hx
    have slo : ∀ j, j < b + 4 + 2 * L → upd (upd s (b + 4 + 2 * L) wh) (b + 4 + 2 * L + 1) vv j = s j := fun j hj => by rw [pk_un (by omega), pk_un (by omega)]
    have sw : upd (upd s (b + 4 + 2 * L) wh) (b + 4 + 2 * L + 1) vv (b + 4 + 2 * L) = wh := by rw [pk_un (by omega), pk_us]
    have sv : upd (upd s (b + 4 + 2 * L) wh) (b + 4 + 2 * L + 1) vv (b + 4 + 2 * L + 1) = vv := pk_us
    have hw := wkH_lo (s := s) (s2 := upd (upd s (b + 4 + 2 * L) wh) (b + 4 + 2 * L + 1) vv) (b := b) (M := L) (fun j a c => slo j (by omega))
    have hnew : wkH (upd (upd s (b + 4 + 2 * L) wh) (b + 4 + 2 * L + 1) vv) b (L + 1) = some h' := by
      rw [wkH, hw L (Nat.le_refl L), hh, sw, sv]
      show (if wh = nI 2 then (if vv = nI 33 then (if 1 ≤ h then some h else none) else (if 2 ≤ h then some (h - 1) else none)) else some (h + 1)) = some h'
      rcases hh' with ⟨a, c, d, e⟩ | ⟨a, c, d, e⟩ | ⟨a, e⟩
      · rw [if_pos a, if_pos c, if_pos d, e]
      · rw [if_pos a, if_neg c, if_pos d, e]
      · rw [if_neg a, e]
    refine ⟨?_, c64 4 (by decide), vs 19 (by decide)⟩
    refine ⟨⟨t1, t2, by rw [c64 1 (by decide)]; exact t3, by rw [vs 16 (by decide)]; exact t4, fun j hj => by rw [cx 65 (by decide) (by decide)]; exact t5 j hj, t6⟩, ⟨fun x a c => by rw [cx x a c]; exact m1 x a c, m2, fun x hx => by rw [vs x (by omega)]; exact m3 x hx, fun j hj => by rw [pk_un (by omega), pk_un (by omega)]; exact m4 j hj, by rw [vs 25 (by decide)]; exact m5, m6⟩, ⟨by rw [c64 2 (by decide)]; exact q2, by rw [vs 17 (by decide)]; exact q17, by rw [c64 3 (by decide)]; exact q3, by rw [vs 18 (by decide)]; exact q18, l1, l2, ?_⟩, ⟨by rw [c64 5 (by decide)]; exact k5, k2, by rw [vs 22 (by decide)]; exact d22, by rw [vs 23 (by decide)]; exact t23, pI_e _ _ _ _, pk_us, by rw [c64 8 (by decide)]; exact p8, by rw [vs 26 (by decide)]; exact p26, by omega, hk6, by omega⟩, fun k hk => ?_, fun k hk => ?_, hnew⟩
    · unfold TT
      rw [c64 4 (by decide), vs 19 (by decide), vs 20 (by decide), vs 21 (by decide)]
      exact hTT
    · rw [c66 k]
      by_cases e : k = L
      · rw [if_pos e, e, sw, sv]; exact hR
      · rw [if_neg e, slo _ (by omega), slo _ (by omega)]; exact hst k (by omega)
    · by_cases e : k = L + 1
      · rw [e]; exact ⟨h', hnew, hQ2⟩
      · obtain ⟨g, g1, g2⟩ := hH k (by omega)
        exact ⟨g, by rw [hw k (by omega)]; exact g1, by omega⟩
/-- one piece more -/
theorem FS.pc (hF : FS tp B b key σ0 v0 s0 r σ v s st en L P Q h dp tn K) (hp : P + 1 ≤ L) : FS tp B b key σ0 v0 s0 r (pI σ 64 8 (nI (P + 1))) (upd v 26 (nI (P + 1))) s st en L (P + 1) Q h dp tn K := by
  obtain ⟨⟨t1, t2, t3, t4, t5, t6⟩, ⟨m1, m2, m3, m4, m5, m6⟩, ⟨q2, q17, q3, q18, l1, l2, hTT⟩, ⟨k5, k2, d22, t23, l7, l24, p8, p26, hl, hk6, -⟩, hst, hH, hh⟩ := hF
  have c64 : ∀ w, w ≠ 8 → (pI σ 64 8 (nI (P + 1))).1 64 w = σ.1 64 w := fun w hw => pI_n (Or.inr hw)
  have cx : ∀ x, x ≠ 64 → (pI σ 64 8 (nI (P + 1))).1 x = σ.1 x := fun x a => pI_nc a
  have vs : ∀ x, x ≠ 26 → upd v 26 (nI (P + 1)) x = v x := fun x hx => pk_un hx
  refine ⟨⟨t1, t2, by rw [c64 1 (by decide)]; exact t3, by rw [vs 16 (by decide)]; exact t4, fun j hj => by rw [cx 65 (by decide)]; exact t5 j hj, t6⟩, ⟨fun x a c => by rw [cx x a]; exact m1 x a c, m2, fun x hx => by rw [vs x (by omega)]; exact m3 x hx, m4, by rw [vs 25 (by decide)]; exact m5, m6⟩, ⟨by rw [c64 2 (by decide)]; exact q2, by rw [vs 17 (by decide)]; exact q17, by rw [c64 3 (by decide)]; exact q3, by rw [vs 18 (by decide)]; exact q18, l1, l2, ?_⟩, ⟨by rw [c64 5 (by decide)]; exact k5, k2, by rw [vs 22 (by decide)]; exact d22, by rw [vs 23 (by decide)]; exact t23, by rw [c64 7 (by decide)]; exact l7, by rw [vs 24 (by decide)]; exact l24, pI_e _ _ _ _, pk_us, hl, hk6, hp⟩, fun k hk => by rw [cx 66 (by decide)]; exact hst k hk, hH, hh⟩
  unfold TT
  rw [c64 4 (by decide), vs 19 (by decide), vs 20 (by decide), vs 21 (by decide)]
  exact hTT
theorem FS.dpt (hF : FS tp B b key σ0 v0 s0 r σ v s st en L P Q h dp tn K) {w n : Nat} (hw : w = 22 ∨ w = 23) : FS tp B b key σ0 v0 s0 r σ (upd v w (nI n)) s st en L P Q h (if w = 22 then n else dp) (if w = 23 then n else tn) K := by
  obtain ⟨⟨t1, t2, t3, t4, t5, t6⟩, ⟨m1, m2, m3, m4, m5, m6⟩, ⟨q2, q17, q3, q18, l1, l2, hTT⟩, ⟨k5, k2, d22, t23, l7, l24, p8, p26, hl, hk6, hp⟩, hst, hH, hh⟩ := hF
  have vs : ∀ x, x ≠ 22 → x ≠ 23 → upd v w (nI n) x = v x := fun x hx hy => pk_un (by omega)
  refine ⟨⟨t1, t2, t3, by rw [vs 16 (by decide) (by decide)]; exact t4, t5, t6⟩, ⟨m1, m2, fun x hx => by rw [vs x (by omega) (by omega)]; exact m3 x hx, m4, by rw [vs 25 (by decide) (by decide)]; exact m5, m6⟩, ⟨q2, by rw [vs 17 (by decide) (by decide)]; exact q17, q3, by rw [vs 18 (by decide) (by decide)]; exact q18, l1, l2, ?_⟩, ⟨k5, k2, ?_, ?_, l7, by rw [vs 24 (by decide) (by decide)]; exact l24, p8, by rw [vs 26 (by decide) (by decide)]; exact p26, hl, hk6, hp⟩, hst, hH, hh⟩
  · unfold TT
    rw [vs 19 (by decide) (by decide), vs 20 (by decide) (by decide), vs 21 (by decide) (by decide)]
    exact hTT
  · by_cases e : w = 22
    · rw [if_pos e, e, pk_us]
    · rw [if_neg e, pk_un (by omega)]; exact d22
  · by_cases e : w = 23
    · rw [if_pos e, e, pk_us]
    · rw [if_neg e, pk_un (by omega)]; exact t23
theorem FS.mono (hF : FS tp B b key σ0 v0 s0 r σ v s st en L P Q h dp tn K) {K' : Nat} (h1 : K ≤ K') (h2 : K' ≤ 96) : FS tp B b key σ0 v0 s0 r σ v s st en L P Q h dp tn K' := by
  obtain ⟨hT, hm, hK, ⟨k5, k2, d22, t23, l7, l24, p8, p26, hl, hk6, hp⟩, hst, hH, hh⟩ := hF
  exact ⟨hT, hm, hK, ⟨k5, k2, d22, t23, l7, l24, p8, p26, by omega, h2, hp⟩, hst, hH, hh⟩
theorem FS.bd (hF : FS tp B b key σ0 v0 s0 r σ v s st en L P Q h dp tn K) : st ≤ 96 ∧ L + 1 ≤ K ∧ K ≤ 96 ∧ P ≤ L ∧ st ≤ en ∧ en ≤ tp ∧ tp ≤ 96 := by
  obtain ⟨hT, hm, hK, ⟨k5, k2, d22, t23, l7, l24, p8, p26, hl, hk6, hp⟩, hst, hH, hh⟩ := hF
  have := hT.1
  have := hK.2.2.2.2.1
  have := hK.2.2.2.2.2.1
  exact ⟨by omega, hl, hk6, hp, by omega, by omega, by omega⟩
theorem FS.hP (hF : FS tp B b key σ0 v0 s0 r σ v s st en L P Q h dp tn K) : h ≤ Q := by
  obtain ⟨-, -, -, -, -, hH, hh⟩ := hF
  obtain ⟨g, g1, g2⟩ := hH L (Nat.le_refl L)
  rw [hh] at g1
  cases g1
  exact g2
end RD
