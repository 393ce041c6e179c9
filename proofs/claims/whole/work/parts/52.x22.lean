/-! ===== the class: looking ahead ===== -/
theorem i32_add_sub (a b c : Int32) : a + b - c = a - c + b := by rw [Int32.sub_eq_add_neg, Int32.sub_eq_add_neg, Int32.add_assoc, Int32.add_comm b, ← Int32.add_assoc]
theorem ld_eq {f : Nat → Int32} {n : Nat} {x y : Int32} : ldF f n x y = scF f (bnO x y) n 0 - scF f (bnO x y) n 1 := by
  show nI (mny f n (nI 3)) - nI (mny f n (nI 4)) + nI 2 * (f 147 - f 148) + x - y = nI (mny f n (nI 3)) + nI 2 * f 147 + x - (nI (mny f n (nI 4)) + nI 2 * f 148 + y)
  have e : ∀ a b c d x y : Int32, a - b + nI 2 * (c - d) + x - y = a + nI 2 * c + x - (b + nI 2 * d + y) := by
    intro a b c d x y
    rw [Int32.mul_sub]
    generalize nI 2 * c = c
    generalize nI 2 * d = d
    simp only [Int32.sub_eq_add_neg, Int32.neg_add]
    ac_rfl
  exact e _ _ _ _ _ _
/-- how many stones have been captured is bounded -/
def cpB (f : Nat → Int32) (m : Nat) : Prop := ∃ a b, a ≤ m ∧ b ≤ m ∧ f 147 = nI a ∧ f 148 = nI b
def bnB (g : Nat → Int32) : Prop := ∃ a b, a ≤ 20 ∧ b ≤ 20 ∧ g 0 = nI a ∧ g 1 = nI b
theorem sc_nat {f g : Nat → Int32} {n m p : Nat} (hn : n ≤ 49) (h1 : cpB f m) (h2 : bnB g) (hp : p ≤ 1) : ∃ s, s ≤ 69 + 2 * m ∧ scF f g n p = nI s := by
  obtain ⟨a, b, ha, hb, e1, e2⟩ := h1
  obtain ⟨c, d, hc, hd, e3, e4⟩ := h2
  have hm := ct_le (fun i => decide (f i = nI (3 + p))) n
  rcases Nat.le_one_iff_eq_zero_or_eq_one.mp hp with rfl | rfl
  · refine ⟨mny f n (nI (3 + 0)) + 2 * a + c, by rw [mny]; omega, ?_⟩
    show nI (mny f n (nI (3 + 0))) + nI 2 * f 147 + g 0 = _
    rw [e1, e3, pk_mul, nI_add, nI_add]
  · refine ⟨mny f n (nI (3 + 1)) + 2 * b + d, by rw [mny]; omega, ?_⟩
    show nI (mny f n (nI (3 + 1))) + nI 2 * f 148 + g 1 = _
    rw [e2, e4, pk_mul, nI_add, nI_add]
theorem sub_lt0 {a b : Nat} (ha : a < 2 ^ 30) (hb : b < 2 ^ 30) : (nI a - nI b < 0 ↔ nI a < nI b) ∧ (nI a - nI b = 0 ↔ nI a = nI b) := by
  have h1 := pk_sub_toInt ha hb
  constructor
  · rw [Int32.lt_iff_toInt_lt, Int32.lt_iff_toInt_lt, h1, nI_toInt (by omega), nI_toInt (by omega)]
    show (a : Int) - b < 0 ↔ _
    omega
  · constructor
    · intro h
      have h2 := congrArg Int32.toInt h
      rw [h1] at h2
      have h3 : (0 : Int32).toInt = 0 := rfl
      rw [show a = b by omega]
    · intro h
      rw [h, Int32.sub_self]
theorem ld_ok {f : Nat → Int32} {n m : Nat} {x y : Int32} (hn : n ≤ 49) (hm : m ≤ 100000) (h1 : cpB f m) (h2 : bnB (bnO x y)) : ldOK f n x y := by
  obtain ⟨a, ha, ea⟩ := sc_nat (p := 0) hn h1 h2 (by omega)
  obtain ⟨b, hb, eb⟩ := sc_nat (p := 1) hn h1 h2 (by omega)
  have h3 := sub_lt0 (a := a) (b := b) (by omega) (by omega)
  rw [ldOK, ld_eq, ea, eb]
  exact ⟨h3.2, h3.1⟩
def smB (x : Int32) : Prop := -1000000 < x.toInt ∧ x.toInt < 1000000
theorem ovl_b {f g : Nat → Int32} {n m p : Nat} (hn : n ≤ 49) (hm : m ≤ 100000) (h1 : cpB f m) (h2 : bnB g) (hp : p ≤ 1) : smB (ovl g n p f) := by
  obtain ⟨a, ha, ea⟩ := sc_nat (p := p) hn h1 h2 hp
  obtain ⟨b, hb, eb⟩ := sc_nat (p := 1 - p) hn h1 h2 (by omega)
  rw [ovl, ea, eb, smB, pk_sub_toInt (by omega) (by omega)]
  omega
theorem fol_sm {f : Nat → Int32} {v : Nat → Int32} {z z2 : Int32} (hv : ∀ i, smB (v i)) (hz : z.toInt ≥ 1000000) (hz2 : z2.toInt ≥ 1000000) : ∀ k, fol f mnI v z (k + 1) = fol f mnI v z2 (k + 1) ∧ smB (fol f mnI v z (k + 1))
  | 0 => by
    have h0 := hv 0
    rw [fol_y (Or.inl rfl), fol_y (Or.inl rfl), fol, fol, mnI, mnI, if_pos (by rw [Int32.lt_iff_toInt_lt]; have := h0.2; omega), if_pos (by rw [Int32.lt_iff_toInt_lt]; have := h0.2; omega)]
    exact ⟨rfl, h0⟩
  | k + 1 => by
    obtain ⟨h1, h2⟩ := fol_sm hv hz hz2 k
    by_cases q : mayF f (chI (k + 1))
    · rw [fol_y q, fol_y q, ← h1]
      refine ⟨rfl, ?_⟩
      rw [mnI]
      split
      · exact hv _
      · exact h2
    · rw [fol_n q, fol_n q]; exact ⟨h1, h2⟩
theorem fol_gr {f : Nat → Int32} {v : Nat → Int32} {z z2 : Int32} (hv : ∀ i, smB (v i)) (hz : z.toInt ≤ -1000000) (hz2 : z2.toInt ≤ -1000000) : ∀ k, fol f mxI v z (k + 1) = fol f mxI v z2 (k + 1) ∧ smB (fol f mxI v z (k + 1))
  | 0 => by
    have h0 := hv 0
    rw [fol_y (Or.inl rfl), fol_y (Or.inl rfl), fol, fol, mxI, mxI, if_pos (by rw [Int32.lt_iff_toInt_lt]; have := h0.1; omega), if_pos (by rw [Int32.lt_iff_toInt_lt]; have := h0.1; omega)]
    exact ⟨rfl, h0⟩
  | k + 1 => by
    obtain ⟨h1, h2⟩ := fol_gr hv hz hz2 k
    by_cases q : mayF f (chI (k + 1))
    · rw [fol_y q, fol_y q, ← h1]
      refine ⟨rfl, ?_⟩
      rw [mxI]
      split
      · exact hv _
      · exact h2
    · rw [fol_n q, fol_n q]; exact ⟨h1, h2⟩
/-- a round adds at most 392 -/
theorem cp_wvF {A B : Nat → Nat} {k : Int32} {f : Nat → Int32} {m n : Nat} (hn : n ≤ 49) (h : cpB f m) : cpB (wvF A B k f n) (m + n) := by
  obtain ⟨a, b, ha, hb, e1, e2⟩ := h
  have h0 := wvF_q (A := A) (B := B) (k := k) (f := f) (q := 0) (by omega) n hn
  have h1 := wvF_q (A := A) (B := B) (k := k) (f := f) (q := 1) (by omega) n hn
  have c0 := ct_le (fun c => decide (A c ≠ B c ∧ (if B c < A c then 0 else 1) = 0 ∧ f c = nI (2 - 0))) n
  have c1 := ct_le (fun c => decide (A c ≠ B c ∧ (if B c < A c then 0 else 1) = 1 ∧ f c = nI (2 - 1))) n
  rw [e1, nI_add] at h0
  rw [e2, nI_add] at h1
  exact ⟨_, _, by omega, by omega, h0, h1⟩
theorem cp_wit {w h : Nat} (hn : w * h ≤ 49) {f : Nat → Int32} {m : Nat} (h1 : cpB f m) : ∀ k, cpB (wit w h f k) (m + k * 49)
  | 0 => by rw [Nat.zero_mul]; exact h1
  | k + 1 => by
    obtain ⟨a, b, ha, hb, e⟩ := cp_wvF (A := wA w h (wit w h f k)) (B := wB w h (wit w h f k)) (k := nI k) hn (cp_wit hn h1 k)
    exact ⟨a, b, by rw [Nat.succ_mul]; omega, by rw [Nat.succ_mul]; omega, e⟩
theorem cp_plV {w h m : Nat} {ru : Int32} {f g : Nat → Int32} {a b : Int32} (hn : w * h ≤ 49) (ha : chOK (w * h) a) (hb : chOK (w * h) b) (h1 : cpB f m) : cpB (plV w h ru f g a b) (m + 392) := by
  have h2 : cpB (plM ru (w * h) f g a b) m := by
    obtain ⟨x, y, hx, hy, e1, e2⟩ := h1
    exact ⟨x, y, hx, hy, (plM_hi hn ha hb (by omega) (by omega)).trans e1, (plM_hi hn ha hb (by omega) (by omega)).trans e2⟩
  obtain ⟨x, y, hx, hy, e1, e2⟩ := cp_wit hn h2 (wC w h (plM ru (w * h) f g a b))
  have h8 := (wC_ok w h (plM ru (w * h) f g a b)).1
  have h9 := Nat.mul_le_mul_right 49 h8
  exact ⟨x, y, by omega, by omega, (plV_lo hn (by omega)).trans e1, (plV_lo hn (by omega)).trans e2⟩
section NX
variable {w h m p : Nat} {ru : Int32} {g f : Nat → Int32} {ch : Int32}
theorem plU_cp (hn : w * h ≤ 49) (hch : chOK (w * h) ch) {r : Int32} (hr : chOK (w * h) r) (h1 : cpB f m) : cpB (plU w h ru f g p ch r) (m + 392) := cp_plV hn (mkA_ok hch hr) (mkA_ok hr hch) h1
/-- what the class counts -/
noncomputable def nrX (w h : Nat) (rule : Int32) (g : Nat → Int32) (p : Nat) (f : Nat → Int32) (ch : Int32) : Nat → Int32 := fol f mnI (fun i => ovl g (w * h) p (plU w h rule f g p ch (chI i))) 1000000
theorem fol_cg {f : Nat → Int32} {op : Int32 → Int32 → Int32} {v v2 : Nat → Int32} {z : Int32} : ∀ k, (∀ i, i < k → v i = v2 i) → fol f op v z k = fol f op v2 z k
  | 0, _ => rfl
  | k + 1, h => by rw [fol, fol, h k (by omega), fol_cg k (fun i hi => h i (by omega))]
def clS (v : Nat → Int32) (k : Nat) : Nat → Int32 := fun i => if i < k then v i else 0
theorem clS_b {v : Nat → Int32} {k : Nat} (h : ∀ i, i < k → smB (v i)) (i : Nat) : smB (clS v k i) := by
  rw [clS]
  split
  · exact h i ‹_›
  · exact ⟨by decide, by decide⟩
theorem clS_e {v : Nat → Int32} {k i : Nat} (h : i < k) : clS v k i = v i := if_pos h
theorem nrX_eq (hn : w * h ≤ 49) (hm : m ≤ 90000) (hch : chOK (w * h) ch) (h1 : cpB f m) (h2 : bnB g) (hp : p ≤ 1) : nrX w h ru g p f ch (w * h + 1) = nrF w h ru g p f ch (w * h + 1) ∧ smB (nrF w h ru g p f ch (w * h + 1)) := by
  have hb : ∀ i, i < w * h + 1 → smB (ovl g (w * h) p (plU w h ru f g p ch (chI i))) := fun i hi => ovl_b hn (by omega) (plU_cp hn hch (chI_ok (by omega)) h1) h2 hp
  rw [nrX, nrF, ← fol_cg (v := clS _ (w * h + 1)) _ (fun i hi => clS_e hi), ← fol_cg (z := 2147483647) (v := clS _ (w * h + 1)) _ (fun i hi => clS_e hi)]
  have h3 := fol_sm (f := f) (z := 1000000) (z2 := 2147483647) (clS_b hb) (by decide) (by decide) (w * h)
  exact ⟨h3.1, h3.1 ▸ h3.2⟩
noncomputable def bnX (w h : Nat) (rule : Int32) (g : Nat → Int32) (p : Nat) (f : Nat → Int32) : Nat → Int32 := fol f mxI (fun i => nrF w h rule g p f (chI i) (w * h + 1)) (-1000000)
theorem bnX_eq (hn : w * h ≤ 49) (hm : m ≤ 90000) (h1 : cpB f m) (h2 : bnB g) (hp : p ≤ 1) : bnX w h ru g p f (w * h + 1) = bnF w h ru g p f (w * h + 1) ∧ smB (bnF w h ru g p f (w * h + 1)) := by
  have hb : ∀ i, i < w * h + 1 → smB (nrF w h ru g p f (chI i) (w * h + 1)) := fun i hi => (nrX_eq hn hm (chI_ok (by omega)) h1 h2 hp).2
  rw [bnX, bnF, ← fol_cg (v := clS _ (w * h + 1)) _ (fun i hi => clS_e hi), ← fol_cg (z := -2147483648) (v := clS _ (w * h + 1)) _ (fun i hi => clS_e hi)]
  have h3 := fol_gr (f := f) (z := -1000000) (z2 := -2147483648) (clS_b hb) (by decide) (by decide) (w * h)
  exact ⟨h3.1, h3.1 ▸ h3.2⟩
noncomputable def frX (w h : Nat) (rule : Int32) (g : Nat → Int32) (p : Nat) (f : Nat → Int32) (ch : Int32) : Nat → Int32 := fol f mnI (fun i => frV w h rule g p (plU w h rule f g p ch (chI i))) 1000000
theorem frV_b (hn : w * h ≤ 49) (hm : m ≤ 90000) (h1 : cpB f m) (h2 : bnB g) (hp : p ≤ 1) : smB (frV w h ru g p f) := by
  rw [frV]
  by_cases q : ovF f (w * h)
  · rw [if_pos q]; exact ovl_b hn (by omega) h1 h2 hp
  · rw [if_neg q]; exact (bnX_eq hn hm h1 h2 hp).2
theorem frX_eq (hn : w * h ≤ 49) (hm : m ≤ 80000) (hch : chOK (w * h) ch) (h1 : cpB f m) (h2 : bnB g) (hp : p ≤ 1) : frX w h ru g p f ch (w * h + 1) = frF w h ru g p f ch (w * h + 1) ∧ smB (frF w h ru g p f ch (w * h + 1)) := by
  have hb : ∀ i, i < w * h + 1 → smB (frV w h ru g p (plU w h ru f g p ch (chI i))) := fun i hi => frV_b hn (m := m + 392) (by omega) (plU_cp hn hch (chI_ok (by omega)) h1) h2 hp
  rw [frX, frF, ← fol_cg (v := clS _ (w * h + 1)) _ (fun i hi => clS_e hi), ← fol_cg (z := 2147483647) (v := clS _ (w * h + 1)) _ (fun i hi => clS_e hi)]
  have h3 := fol_sm (f := f) (z := 1000000) (z2 := 2147483647) (clS_b hb) (by decide) (by decide) (w * h)
  exact ⟨h3.1, h3.1 ▸ h3.2⟩
theorem plU0 {r : Int32} : plU w h ru f g 0 ch r = plV w h ru f g ch r := rfl
theorem plU1 {r : Int32} : plU w h ru f g 1 ch r = plV w h ru f g r ch := rfl
theorem ov_plV {pl : Nat} {a b : Int32} (hn : w * h ≤ 49) (ha : chOK (w * h) a) (hb : chOK (w * h) b) (hf : f 153 = nI pl) (hpl : pl < 60) : ovF (plV w h ru f g a b) (w * h) ↔ ((a = -1 ∧ b = -1) ∨ mny (plV w h ru f g a b) (w * h) (nI 0) = 0 ∨ 60 ≤ pl + 1) := by
  have h1 : plV w h ru f g a b 153 = nI (pl + 1) := plV_153 hn ha hb hf
  have h2 : plV w h ru f g a b 154 = if a = -1 ∧ b = -1 then nI 1 else nI 0 := by rw [plV, plQ, va_up_ne _ _ (by omega), va_up_self]
  rw [ovF, h1, h2]
  have e : (nI (pl + 1) = nI 60) ↔ 60 ≤ pl + 1 := by rw [nI_eq (by omega) (by omega)]; omega
  rw [e]
  by_cases q : a = -1 ∧ b = -1
  · rw [if_pos q]; simp [q]
  · rw [if_neg q]
    have : ¬ nI 0 = nI 1 := by decide
    simp only [this, q, false_or]
    exact Or.comm
end NX

set_option maxRecDepth 20000 in
set_option maxHeartbeats 4000000 in
theorem X_least1_0 (K : GK) {σ : GS} {L : List Nat} {z : Nat} {g b : Nat} {w h : Nat} {ru : Int32} {pl : Nat} {bo0 bo1 : Int32} {D : Nat → RD} {rows : Nat → Nat → Int32} (hG : gmI K L σ g b ru pl bo0 bo1 D) (hsb : σ b = bdA w h) (hw1 : 4 ≤ w) (hw2 : w ≤ 7) (hh1 : 4 ≤ h) (hh2 : h ≤ 7) (hP : gmP (w * h) pl D rows) {q : Nat} {f : Nat → Int32} (hqL : q ∈ L) (hqL1 : q + 1 ∈ L) (tq : σ q = psO q f) (tq1 : σ (q + 1) = lA K 6 (psS (w * h) f)) {fo : Nat} (mF : fo ∈ L) (sF : σ fo = .inr (1, [.ref (fo + 1), .ref (fo + 5)])) (hgf : g + 245 ≤ fo) (hru : ∃ r0, r0 ≤ 2 ∧ ru = nI r0) {mm8 : Nat} (hmm8 : mm8 ≤ 80000) (hcb : cpB f mm8) (hbb : bnB (bnO bo0 bo1)) (hla : ∃ d, ((∀ k, 6 ≤ k → d.2.2.2 k = 0) ∧ ∀ k, 8 ≤ k → d.2.2.1 k = 0) ∧ rdD K L σ (fo + 5) d) (hqf : q + 1 < fo + 5) (hbf : b < fo + 1 ∨ fo + 8 < b) {ch : Int32} (hch : chOK (w * h) ch) : gM K yX1_leastValue cX1_leastValue 15 (some .int) 6 0 0 [.ref fo, .ref g, .ref q, .int (nI 0), .int ch, .int (nI 1)] z L (σ) (fun r z1 L1 σ2 => r = some (.int (nrF w h ru (bnO bo0 bo1) 0 f ch (w * h + 1))) ∧ z1 = z ∧ L1 = L ∧ (∃ d, ((∀ k, 6 ≤ k → d.2.2.2 k = 0) ∧ ∀ k, 8 ≤ k → d.2.2.1 k = 0) ∧ rdD K L σ2 (fo + 5) d) ∧ ∀ b9, b9 < fo + 5 ∨ fo + 8 < b9 → σ2 b9 = σ b9) := by
  have hn : w * h ≤ 49 := Nat.mul_le_mul hw2 hh2
  have hn1 : 16 ≤ w * h := Nat.mul_le_mul hw1 hh1
  have hn49 : w * h ≤ 49 := hn
  obtain ⟨m0, m2, m3, m4, hbL⟩ := hG.1
  have s0 := hG.2.1
  have s2 := hG.2.2.1
  have hpl := hP.1
  have hlat := gm_lat hG hP
  have hld := ld_ok hn49 (show mm8 ≤ 100000 by omega) hcb hbb
  refine g_intro [some (.ref fo), some (.ref g), some (.ref q), some (.int (nI 0)), some (.int ch), some (.int (nI 1)), none, none, none, none, none, none, none, none, none] (fun Γ hC => ?_) (by simp [g_en, lv_args, Value.category])
  refine g_iload (n := 2) hC rfl dX1_leastValue_0 ?_
  refine g_iconst (n := 3) (v := (nI 1)) hC (by decide) dX1_leastValue_2 ?_
  refine g_icmp_leN (n := 6) (tgt := 13) hC (by decide) (by decide) dX1_leastValue_3 (fun _ => ?_) (fun h9 => absurd h9 (by decide))
  refine g_aload_n (n := 14) hC rfl dX1_leastValue_13 ?_
  refine g_getf (n := 17) (v := .ref (fo + 5)) hC gf_X1_18 (mF) (sF) rfl dX1_leastValue_14 ?_
  refine g_astore (n := 19) (ll1 := [some (.ref fo), some (.ref g), some (.ref q), some (.int (nI 0)), some (.int ch), some (.int (nI 1)), some (.ref (fo + 5)), none, none, none, none, none, none, none, none]) hC dX1_leastValue_17 rfl ?_
  refine g_aload_n (n := 20) hC rfl dX1_leastValue_19 ?_
  refine g_aload_n (n := 21) hC rfl dX1_leastValue_20 ?_
  refine g_cV (n := 24) hC gv_X1_21 (m0) (s0) (X_stateAfter K hG hsb hw1 hw2 hh1 hh2 hP hqL hqL1 tq tq1) dX1_leastValue_21 ?_
  refine g_istore (n := 26) (ll1 := [some (.ref fo), some (.ref g), some (.ref q), some (.int (nI 0)), some (.int ch), some (.int (nI 1)), some (.ref (fo + 5)), some (.int (nI (stK ru (ldF f (w * h) bo0 bo1)))), none, none, none, none, none, none, none]) hC dX1_leastValue_24 rfl ?_
  refine g_ldc (n := 28) hC gc_X1_27 dX1_leastValue_26 ?_
  refine g_istore (n := 30) (ll1 := [some (.ref fo), some (.ref g), some (.ref q), some (.int (nI 0)), some (.int ch), some (.int (nI 1)), some (.ref (fo + 5)), some (.int (nI (stK ru (ldF f (w * h) bo0 bo1)))), some (.int (1000000)), none, none, none, none, none, none]) hC dX1_leastValue_28 rfl ?_
  refine g_iconst (n := 31) (v := (-1)) hC (by decide) dX1_leastValue_30 ?_
  refine g_istore (n := 33) (ll1 := [some (.ref fo), some (.ref g), some (.ref q), some (.int (nI 0)), some (.int ch), some (.int (nI 1)), some (.ref (fo + 5)), some (.int (nI (stK ru (ldF f (w * h) bo0 bo1)))), some (.int (1000000)), some (.int (-1)), none, none, none, none, none]) hC dX1_leastValue_31 rfl ?_
  have lp33 : ∀ (n9 : Nat) (i : Nat) (σ9 : GS) (hi : i ≤ w * h + 1) (hS9 : (∃ d, ((∀ k, 6 ≤ k → d.2.2.2 k = 0) ∧ ∀ k, 8 ≤ k → d.2.2.1 k = 0) ∧ rdD K L σ9 (fo + 5) d) ∧ ∀ b9, b9 < fo + 5 ∨ fo + 8 < b9 → σ9 b9 = σ b9) (y8 : Int32) (ey8 : y8 = (nrX w h ru (bnO bo0 bo1) 0 f ch i)) (y9 : Int32) (ey9 : y9 = (chI i)) (hm9 : w * h + 1 - i < n9), G K Γ (z, 0, 0, L) (σ9) 33 [some (.ref fo), some (.ref g), some (.ref q), some (.int (nI 0)), some (.int ch), some (.int (nI 1)), some (.ref (fo + 5)), some (.int (nI (stK ru (ldF f (w * h) bo0 bo1)))), some (.int y8), some (.int y9), none, none, none, none, none] [] := by
    intro n9
    induction n9 with
    | zero =>
      intro i σ9 hi hS9 y8 ey8 y9 ey9 hm9
      exact absurd hm9 (Nat.not_lt_zero _)
    | succ n9 ih33 =>
      intro i σ9 hi hS9 y8 ey8 y9 ey9 hm9
      subst ey8
      subst ey9
      have hS9c := hS9
      obtain ⟨⟨d9, hT9, hd9⟩, hf9⟩ := hS9c
      have hG9 := gm_eq (σ1 := σ9) (fun a9 h1 h2 _ => hf9 a9 (by omega)) hG
      have hsb9 : σ9 b = bdA w h := (hf9 b (by omega)).trans hsb
      have tq9 : σ9 q = psO q f := (hf9 q (by omega)).trans tq
      have tq19 : σ9 (q + 1) = lA K 6 (psS (w * h) f) := (hf9 (q + 1) (by omega)).trans tq1
      have sF9 := (hf9 fo (by omega)).trans sF
      refine g_iload (n := 35) hC rfl dX1_leastValue_33 ?_
      refine g_aload_n (n := 36) hC rfl dX1_leastValue_35 ?_
      refine g_getf (n := 39) (v := .ref b) hC gf_X1_28 (m0) (hG9.2.1) rfl dX1_leastValue_36 ?_
      refine g_getf (n := 42) (v := .int (nI (w * h))) hC gf_X1_32 (hbL) (hsb9) rfl dX1_leastValue_39 ?_
      refine g_icmp_ge (n := 45) (tgt := 186) hC dX1_leastValue_42 (fun h42 => ?_) (fun h42 => ?_)
      ·
        refine g_iload (n := 188) hC rfl dX1_leastValue_186 ?_
        exact g_iret hC dX1_leastValue_188 (⟨rI (by rw [(chI_ge (n := w * h) (by omega) hi).mp h42]; exact (nrX_eq hn49 (by omega) hch hcb hbb (by omega)).1), rfl, rfl, hS9⟩)
      ·
        refine g_aload_n (n := 46) hC rfl dX1_leastValue_45 ?_
        refine g_iload (n := 48) hC rfl dX1_leastValue_46 ?_
        have hi0 : i ≤ w * h := by
          by_cases e9 : i = w * h + 1
          · exact absurd ((chI_ge (n := w * h) (by omega) hi).mpr e9) h42
          · omega
        refine g_cV (n := 51) hC gv_X1_38 (hqL) (tq9) (X_admits K hqL hqL1 tq9 tq19 hn49 (x := chI i) (chI_ok hi0)) dX1_leastValue_48 ?_
        refine g_ifb_eq (n := 54) (tgt := 180) hC dX1_leastValue_51 (fun h51 => ?_) (fun h51 => ?_)
        ·
          have hnx := fol_n (op := mnI) (v := (fun i => ovl (bnO bo0 bo1) (w * h) 0 (plU w h ru f (bnO bo0 bo1) 0 ch (chI i)))) (z := 1000000) h51
          refine g_iinc (n := 183) (ll1 := [some (.ref fo), some (.ref g), some (.ref q), some (.int (nI 0)), some (.int ch), some (.int (nI 1)), some (.ref (fo + 5)), some (.int (nI (stK ru (ldF f (w * h) bo0 bo1)))), some (.int (nrX w h ru (bnO bo0 bo1) 0 f ch i)), some (.int ((chI i) + Int32.ofInt (1))), none, none, none, none, none]) hC dX1_leastValue_180 rfl (rfl) rfl ?_
          refine g_goto (n := 33) hC dX1_leastValue_183 ?_
          exact ih33 (i + 1) σ9 (by omega) (by first | exact hS8 | exact hS7 | exact hS9 | exact ⟨hla, fun b9 _ => rfl⟩) _ (hnx.symm) _ (chI_inc _) (by omega)
        ·
          refine g_iload_n (n := 55) hC rfl dX1_leastValue_54 ?_
          refine g_if_ne (n := 58) (tgt := 63) hC dX1_leastValue_55 (fun h9 => absurd h9 (by decide)) (fun _ => ?_)
          refine g_iload (n := 60) hC rfl dX1_leastValue_58 ?_
          refine g_goto (n := 65) hC dX1_leastValue_60 ?_
          refine g_istore (n := 67) (ll1 := [some (.ref fo), some (.ref g), some (.ref q), some (.int (nI 0)), some (.int ch), some (.int (nI 1)), some (.ref (fo + 5)), some (.int (nI (stK ru (ldF f (w * h) bo0 bo1)))), some (.int (nrX w h ru (bnO bo0 bo1) 0 f ch i)), some (.int (chI i)), some (.int ch), none, none, none, none]) hC dX1_leastValue_65 rfl ?_
          refine g_iload_n (n := 68) hC rfl dX1_leastValue_67 ?_
          refine g_if_ne (n := 71) (tgt := 76) hC dX1_leastValue_68 (fun h9 => absurd h9 (by decide)) (fun _ => ?_)
          refine g_iload (n := 73) hC rfl dX1_leastValue_71 ?_
          refine g_goto (n := 78) hC dX1_leastValue_73 ?_
          refine g_istore (n := 80) (ll1 := [some (.ref fo), some (.ref g), some (.ref q), some (.int (nI 0)), some (.int ch), some (.int (nI 1)), some (.ref (fo + 5)), some (.int (nI (stK ru (ldF f (w * h) bo0 bo1)))), some (.int (nrX w h ru (bnO bo0 bo1) 0 f ch i)), some (.int (chI i)), some (.int ch), some (.int (chI i)), none, none, none]) hC dX1_leastValue_78 rfl ?_
          refine g_aload (n := 82) hC rfl dX1_leastValue_80 ?_
          refine g_aload_n (n := 83) hC rfl dX1_leastValue_82 ?_
          refine g_getf (n := 86) (v := .ref b) hC gf_X1_28 (m0) (hG9.2.1) rfl dX1_leastValue_83 ?_
          refine g_aload_n (n := 87) hC rfl dX1_leastValue_86 ?_
          refine g_iload (n := 89) hC rfl dX1_leastValue_87 ?_
          refine g_iload (n := 91) hC rfl dX1_leastValue_89 ?_
          refine g_iload (n := 93) hC rfl dX1_leastValue_91 ?_
          refine g_cVv (n := 96) hC gv_X1_44 (hd9.1.1) (hd9.2.1) (X_make K hbL hsb9 hw1 hw2 hh1 hh2 hd9.1 hd9.2.1 hd9.2.2.1 hd9.2.2.2.1 hd9.2.2.2.2 hT9.1 hT9.2 hqL hqL1 tq9 tq19 (by omega) (by omega) (x := ch) (y := chI i) (s := (stK ru (ldF f (w * h) bo0 bo1))) hch (chI_ok hi0) stK_le (F := (plM ru (w * h) f (bnO bo0 bo1) (ch) (chI i))) (fun i hi => mkF_plM hn49 hld hch (chI_ok hi0) hru hi) (plM_hi hn49 hch (chI_ok hi0) (by omega) (by omega)).symm (plM_hi hn49 hch (chI_ok hi0) (by omega) (by omega)).symm (W := (goW w h ru f (bnO bo0 bo1) (ch) (chI i))) (wC_ok _ _ _)) dX1_leastValue_93 ?_
          refine G.eqs (show _ = rdU K σ9 (fo + 5) (w * h) (ccF (ch) (chI i) d9.1) (mkX (ch) (chI i) (stK ru (ldF f (w * h) bo0 bo1))) (wvU w h (plM ru (w * h) f (bnO bo0 bo1) (ch) (chI i)) (goW w h ru f (bnO bo0 bo1) (ch) (chI i))) (plV w h ru f (bnO bo0 bo1) (ch) (chI i)) from rdU_cong (fun i hi => (plV_lo hn49 (by omega)).symm) (plV_lo hn49 (by omega)).symm (plV_lo hn49 (by omega)).symm) ?_
          obtain ⟨σ8, hσ8⟩ : ∃ q9, q9 = rdU K σ9 (fo + 5) (w * h) (ccF (ch) (chI i) d9.1) (mkX (ch) (chI i) (stK ru (ldF f (w * h) bo0 bo1))) (wvU w h (plM ru (w * h) f (bnO bo0 bo1) (ch) (chI i)) (goW w h ru f (bnO bo0 bo1) (ch) (chI i))) (plV w h ru f (bnO bo0 bo1) (ch) (chI i)) := ⟨_, rfl⟩
          refine G.eqs hσ8.symm ?_
          have hri8 : rdI K L σ8 (fo + 5) (w * h) (ccF (ch) (chI i) d9.1) (mkX (ch) (chI i) (stK ru (ldF f (w * h) bo0 bo1))) (wvU w h (plM ru (w * h) f (bnO bo0 bo1) (ch) (chI i)) (goW w h ru f (bnO bo0 bo1) (ch) (chI i))) (plV w h ru f (bnO bo0 bo1) (ch) (chI i)) := by rw [hσ8]; exact rdU_I hd9.1
          have hf8 : ∀ b9, b9 < fo + 5 ∨ fo + 5 + 3 < b9 → σ8 b9 = σ9 b9 := fun b9 hb9 => by rw [hσ8]; exact rdU_o hb9
          have hG8 := gm_eq (σ1 := σ8) (fun a9 h1 h2 _ => hf8 a9 (by omega)) hG9
          have hsb8 : σ8 b = bdA w h := (hf8 b (by omega)).trans hsb9
          have hS8 : (∃ d, ((∀ k, 6 ≤ k → d.2.2.2 k = 0) ∧ ∀ k, 8 ≤ k → d.2.2.1 k = 0) ∧ rdD K L σ8 (fo + 5) d) ∧ ∀ b9, b9 < fo + 5 ∨ fo + 8 < b9 → σ8 b9 = σ b9 := ⟨⟨_, ⟨psS_6, wvU_t (wC_ok _ _ _).1⟩, rdI_D hri8⟩, fun b9 hb9 => (hf8 b9 (by omega)).trans (hf9 b9 hb9)⟩
          refine g_iload (n := 98) hC rfl dX1_leastValue_96 ?_
          refine g_iconst (n := 99) (v := (nI 1)) hC (by decide) dX1_leastValue_98 ?_
          refine g_icmp_leN (n := 102) (tgt := 116) hC (by decide) (by decide) dX1_leastValue_99 (fun _ => ?_) (fun h9 => absurd h9 (by decide))
          refine g_iconst (n := 117) (v := (nI 1)) hC (by decide) dX1_leastValue_116 ?_
          refine g_goto (n := 121) hC dX1_leastValue_117 ?_
          refine g_istore (n := 123) (ll1 := [some (.ref fo), some (.ref g), some (.ref q), some (.int (nI 0)), some (.int ch), some (.int (nI 1)), some (.ref (fo + 5)), some (.int (nI (stK ru (ldF f (w * h) bo0 bo1)))), some (.int (nrX w h ru (bnO bo0 bo1) 0 f ch i)), some (.int (chI i)), some (.int ch), some (.int (chI i)), some (.int (nI 1)), none, none]) hC dX1_leastValue_121 rfl ?_
          refine g_aload_n (n := 124) hC rfl dX1_leastValue_123 ?_
          refine g_aload (n := 126) hC rfl dX1_leastValue_124 ?_
          refine g_getf (n := 129) (v := .ref (fo + 5 + 1)) hC gf_X1_54 (hri8.1.1) (hri8.2.1) rfl dX1_leastValue_126 ?_
          refine g_cV (n := 132) hC gv_X1_58 (m0) (hG8.2.1) (X_lead K hG8 hsb8 hw1 hw2 hh1 hh2 hP hri8.1.2.1 hri8.1.2.2.1 hri8.2.2.1 hri8.2.2.2.1) dX1_leastValue_129 ?_
          refine G.eqi ld_eq ?_
          refine g_istore (n := 134) (ll1 := [some (.ref fo), some (.ref g), some (.ref q), some (.int (nI 0)), some (.int ch), some (.int (nI 1)), some (.ref (fo + 5)), some (.int (nI (stK ru (ldF f (w * h) bo0 bo1)))), some (.int (nrX w h ru (bnO bo0 bo1) 0 f ch i)), some (.int (chI i)), some (.int ch), some (.int (chI i)), some (.int (nI 1)), some (.int (scF (plV w h ru f (bnO bo0 bo1) (ch) (chI i)) (bnO bo0 bo1) (w * h) 0 - scF (plV w h ru f (bnO bo0 bo1) (ch) (chI i)) (bnO bo0 bo1) (w * h) 1)), none]) hC dX1_leastValue_132 rfl ?_
          refine g_iload_n (n := 135) hC rfl dX1_leastValue_134 ?_
          refine g_if_ne (n := 138) (tgt := 143) hC dX1_leastValue_135 (fun h9 => absurd h9 (by decide)) (fun _ => ?_)
          refine g_iload (n := 140) hC rfl dX1_leastValue_138 ?_
          refine g_goto (n := 146) hC dX1_leastValue_140 ?_
          refine G.eqi (show _ = ovl (bnO bo0 bo1) (w * h) 0 (plV w h ru f (bnO bo0 bo1) (ch) (chI i)) from rfl) ?_
          refine g_istore (n := 148) (ll1 := [some (.ref fo), some (.ref g), some (.ref q), some (.int (nI 0)), some (.int ch), some (.int (nI 1)), some (.ref (fo + 5)), some (.int (nI (stK ru (ldF f (w * h) bo0 bo1)))), some (.int (nrX w h ru (bnO bo0 bo1) 0 f ch i)), some (.int (chI i)), some (.int ch), some (.int (chI i)), some (.int (nI 1)), some (.int (scF (plV w h ru f (bnO bo0 bo1) (ch) (chI i)) (bnO bo0 bo1) (w * h) 0 - scF (plV w h ru f (bnO bo0 bo1) (ch) (chI i)) (bnO bo0 bo1) (w * h) 1)), some (.int (ovl (bnO bo0 bo1) (w * h) 0 (plV w h ru f (bnO bo0 bo1) (ch) (chI i))))]) hC dX1_leastValue_146 rfl ?_
          refine g_iload (n := 150) hC rfl dX1_leastValue_148 ?_
          refine g_iload (n := 152) hC rfl dX1_leastValue_150 ?_
          refine g_if_eq (n := 155) (tgt := 160) hC dX1_leastValue_152 (fun h9 => absurd h9 (by decide)) (fun _ => ?_)
          refine g_iload (n := 157) hC rfl dX1_leastValue_155 ?_
          refine g_goto (n := 175) hC dX1_leastValue_157 ?_
          refine g_mmin (n := 178) hC (by exact gmem (i := 854) (by decide +kernel) (by decide +kernel)) dX1_leastValue_175 ?_
          refine G.eqi (show _ = nrX w h ru (bnO bo0 bo1) 0 f ch (i + 1) from (show _ = mnI (ovl (bnO bo0 bo1) (w * h) 0 (plU w h ru f (bnO bo0 bo1) 0 ch (chI i))) (nrX w h ru (bnO bo0 bo1) 0 f ch i) from rfl).trans (fol_y h51).symm) ?_
          refine g_istore (n := 180) (ll1 := [some (.ref fo), some (.ref g), some (.ref q), some (.int (nI 0)), some (.int ch), some (.int (nI 1)), some (.ref (fo + 5)), some (.int (nI (stK ru (ldF f (w * h) bo0 bo1)))), some (.int (nrX w h ru (bnO bo0 bo1) 0 f ch (i + 1))), some (.int (chI i)), some (.int ch), some (.int (chI i)), some (.int (nI 1)), some (.int (scF (plV w h ru f (bnO bo0 bo1) (ch) (chI i)) (bnO bo0 bo1) (w * h) 0 - scF (plV w h ru f (bnO bo0 bo1) (ch) (chI i)) (bnO bo0 bo1) (w * h) 1)), some (.int (ovl (bnO bo0 bo1) (w * h) 0 (plV w h ru f (bnO bo0 bo1) (ch) (chI i))))]) hC dX1_leastValue_178 rfl ?_
          refine g_iinc (n := 183) (ll1 := [some (.ref fo), some (.ref g), some (.ref q), some (.int (nI 0)), some (.int ch), some (.int (nI 1)), some (.ref (fo + 5)), some (.int (nI (stK ru (ldF f (w * h) bo0 bo1)))), some (.int (nrX w h ru (bnO bo0 bo1) 0 f ch (i + 1))), some (.int ((chI i) + Int32.ofInt (1))), some (.int ch), some (.int (chI i)), some (.int (nI 1)), some (.int (scF (plV w h ru f (bnO bo0 bo1) (ch) (chI i)) (bnO bo0 bo1) (w * h) 0 - scF (plV w h ru f (bnO bo0 bo1) (ch) (chI i)) (bnO bo0 bo1) (w * h) 1)), some (.int (ovl (bnO bo0 bo1) (w * h) 0 (plV w h ru f (bnO bo0 bo1) (ch) (chI i))))]) hC dX1_leastValue_180 rfl (rfl) rfl ?_
          refine g_goto (n := 33) hC dX1_leastValue_183 ?_
          exact G.le (ih33 (i + 1) σ8 (by omega) (by first | exact hS8 | exact hS7 | exact hS9 | exact ⟨hla, fun b9 _ => rfl⟩) _ (rfl) _ (chI_inc _) (by omega)) (And.intro rfl (And.intro rfl (And.intro rfl (And.intro rfl (And.intro rfl (And.intro rfl (And.intro rfl (And.intro rfl (And.intro rfl (And.intro rfl (trivial)))))))))))
  exact lp33 _ 0 σ (by omega) (by first | exact hS8 | exact hS7 | exact hS9 | exact ⟨hla, fun b9 _ => rfl⟩) _ (rfl) _ (rfl) (Nat.lt_succ_self _)

set_option maxRecDepth 20000 in
set_option maxHeartbeats 4000000 in
theorem X_least1_1 (K : GK) {σ : GS} {L : List Nat} {z : Nat} {g b : Nat} {w h : Nat} {ru : Int32} {pl : Nat} {bo0 bo1 : Int32} {D : Nat → RD} {rows : Nat → Nat → Int32} (hG : gmI K L σ g b ru pl bo0 bo1 D) (hsb : σ b = bdA w h) (hw1 : 4 ≤ w) (hw2 : w ≤ 7) (hh1 : 4 ≤ h) (hh2 : h ≤ 7) (hP : gmP (w * h) pl D rows) {q : Nat} {f : Nat → Int32} (hqL : q ∈ L) (hqL1 : q + 1 ∈ L) (tq : σ q = psO q f) (tq1 : σ (q + 1) = lA K 6 (psS (w * h) f)) {fo : Nat} (mF : fo ∈ L) (sF : σ fo = .inr (1, [.ref (fo + 1), .ref (fo + 5)])) (hgf : g + 245 ≤ fo) (hru : ∃ r0, r0 ≤ 2 ∧ ru = nI r0) {mm8 : Nat} (hmm8 : mm8 ≤ 80000) (hcb : cpB f mm8) (hbb : bnB (bnO bo0 bo1)) (hla : ∃ d, ((∀ k, 6 ≤ k → d.2.2.2 k = 0) ∧ ∀ k, 8 ≤ k → d.2.2.1 k = 0) ∧ rdD K L σ (fo + 5) d) (hqf : q + 1 < fo + 5) (hbf : b < fo + 1 ∨ fo + 8 < b) {ch : Int32} (hch : chOK (w * h) ch) : gM K yX1_leastValue cX1_leastValue 15 (some .int) 6 0 0 [.ref fo, .ref g, .ref q, .int (nI 1), .int ch, .int (nI 1)] z L (σ) (fun r z1 L1 σ2 => r = some (.int (nrF w h ru (bnO bo0 bo1) 1 f ch (w * h + 1))) ∧ z1 = z ∧ L1 = L ∧ (∃ d, ((∀ k, 6 ≤ k → d.2.2.2 k = 0) ∧ ∀ k, 8 ≤ k → d.2.2.1 k = 0) ∧ rdD K L σ2 (fo + 5) d) ∧ ∀ b9, b9 < fo + 5 ∨ fo + 8 < b9 → σ2 b9 = σ b9) := by
  have hn : w * h ≤ 49 := Nat.mul_le_mul hw2 hh2
  have hn1 : 16 ≤ w * h := Nat.mul_le_mul hw1 hh1
  have hn49 : w * h ≤ 49 := hn
  obtain ⟨m0, m2, m3, m4, hbL⟩ := hG.1
  have s0 := hG.2.1
  have s2 := hG.2.2.1
  have hpl := hP.1
  have hlat := gm_lat hG hP
  have hld := ld_ok hn49 (show mm8 ≤ 100000 by omega) hcb hbb
  refine g_intro [some (.ref fo), some (.ref g), some (.ref q), some (.int (nI 1)), some (.int ch), some (.int (nI 1)), none, none, none, none, none, none, none, none, none] (fun Γ hC => ?_) (by simp [g_en, lv_args, Value.category])
  refine g_iload (n := 2) hC rfl dX1_leastValue_0 ?_
  refine g_iconst (n := 3) (v := (nI 1)) hC (by decide) dX1_leastValue_2 ?_
  refine g_icmp_leN (n := 6) (tgt := 13) hC (by decide) (by decide) dX1_leastValue_3 (fun _ => ?_) (fun h9 => absurd h9 (by decide))
  refine g_aload_n (n := 14) hC rfl dX1_leastValue_13 ?_
  refine g_getf (n := 17) (v := .ref (fo + 5)) hC gf_X1_18 (mF) (sF) rfl dX1_leastValue_14 ?_
  refine g_astore (n := 19) (ll1 := [some (.ref fo), some (.ref g), some (.ref q), some (.int (nI 1)), some (.int ch), some (.int (nI 1)), some (.ref (fo + 5)), none, none, none, none, none, none, none, none]) hC dX1_leastValue_17 rfl ?_
  refine g_aload_n (n := 20) hC rfl dX1_leastValue_19 ?_
  refine g_aload_n (n := 21) hC rfl dX1_leastValue_20 ?_
  refine g_cV (n := 24) hC gv_X1_21 (m0) (s0) (X_stateAfter K hG hsb hw1 hw2 hh1 hh2 hP hqL hqL1 tq tq1) dX1_leastValue_21 ?_
  refine g_istore (n := 26) (ll1 := [some (.ref fo), some (.ref g), some (.ref q), some (.int (nI 1)), some (.int ch), some (.int (nI 1)), some (.ref (fo + 5)), some (.int (nI (stK ru (ldF f (w * h) bo0 bo1)))), none, none, none, none, none, none, none]) hC dX1_leastValue_24 rfl ?_
  refine g_ldc (n := 28) hC gc_X1_27 dX1_leastValue_26 ?_
  refine g_istore (n := 30) (ll1 := [some (.ref fo), some (.ref g), some (.ref q), some (.int (nI 1)), some (.int ch), some (.int (nI 1)), some (.ref (fo + 5)), some (.int (nI (stK ru (ldF f (w * h) bo0 bo1)))), some (.int (1000000)), none, none, none, none, none, none]) hC dX1_leastValue_28 rfl ?_
  refine g_iconst (n := 31) (v := (-1)) hC (by decide) dX1_leastValue_30 ?_
  refine g_istore (n := 33) (ll1 := [some (.ref fo), some (.ref g), some (.ref q), some (.int (nI 1)), some (.int ch), some (.int (nI 1)), some (.ref (fo + 5)), some (.int (nI (stK ru (ldF f (w * h) bo0 bo1)))), some (.int (1000000)), some (.int (-1)), none, none, none, none, none]) hC dX1_leastValue_31 rfl ?_
  have lp33 : ∀ (n9 : Nat) (i : Nat) (σ9 : GS) (hi : i ≤ w * h + 1) (hS9 : (∃ d, ((∀ k, 6 ≤ k → d.2.2.2 k = 0) ∧ ∀ k, 8 ≤ k → d.2.2.1 k = 0) ∧ rdD K L σ9 (fo + 5) d) ∧ ∀ b9, b9 < fo + 5 ∨ fo + 8 < b9 → σ9 b9 = σ b9) (y8 : Int32) (ey8 : y8 = (nrX w h ru (bnO bo0 bo1) 1 f ch i)) (y9 : Int32) (ey9 : y9 = (chI i)) (hm9 : w * h + 1 - i < n9), G K Γ (z, 0, 0, L) (σ9) 33 [some (.ref fo), some (.ref g), some (.ref q), some (.int (nI 1)), some (.int ch), some (.int (nI 1)), some (.ref (fo + 5)), some (.int (nI (stK ru (ldF f (w * h) bo0 bo1)))), some (.int y8), some (.int y9), none, none, none, none, none] [] := by
    intro n9
    induction n9 with
    | zero =>
      intro i σ9 hi hS9 y8 ey8 y9 ey9 hm9
      exact absurd hm9 (Nat.not_lt_zero _)
    | succ n9 ih33 =>
      intro i σ9 hi hS9 y8 ey8 y9 ey9 hm9
      subst ey8
      subst ey9
      have hS9c := hS9
      obtain ⟨⟨d9, hT9, hd9⟩, hf9⟩ := hS9c
      have hG9 := gm_eq (σ1 := σ9) (fun a9 h1 h2 _ => hf9 a9 (by omega)) hG
      have hsb9 : σ9 b = bdA w h := (hf9 b (by omega)).trans hsb
      have tq9 : σ9 q = psO q f := (hf9 q (by omega)).trans tq
      have tq19 : σ9 (q + 1) = lA K 6 (psS (w * h) f) := (hf9 (q + 1) (by omega)).trans tq1
      have sF9 := (hf9 fo (by omega)).trans sF
      refine g_iload (n := 35) hC rfl dX1_leastValue_33 ?_
      refine g_aload_n (n := 36) hC rfl dX1_leastValue_35 ?_
      refine g_getf (n := 39) (v := .ref b) hC gf_X1_28 (m0) (hG9.2.1) rfl dX1_leastValue_36 ?_
      refine g_getf (n := 42) (v := .int (nI (w * h))) hC gf_X1_32 (hbL) (hsb9) rfl dX1_leastValue_39 ?_
      refine g_icmp_ge (n := 45) (tgt := 186) hC dX1_leastValue_42 (fun h42 => ?_) (fun h42 => ?_)
      ·
        refine g_iload (n := 188) hC rfl dX1_leastValue_186 ?_
        exact g_iret hC dX1_leastValue_188 (⟨rI (by rw [(chI_ge (n := w * h) (by omega) hi).mp h42]; exact (nrX_eq hn49 (by omega) hch hcb hbb (by omega)).1), rfl, rfl, hS9⟩)
      ·
        refine g_aload_n (n := 46) hC rfl dX1_leastValue_45 ?_
        refine g_iload (n := 48) hC rfl dX1_leastValue_46 ?_
        have hi0 : i ≤ w * h := by
          by_cases e9 : i = w * h + 1
          · exact absurd ((chI_ge (n := w * h) (by omega) hi).mpr e9) h42
          · omega
        refine g_cV (n := 51) hC gv_X1_38 (hqL) (tq9) (X_admits K hqL hqL1 tq9 tq19 hn49 (x := chI i) (chI_ok hi0)) dX1_leastValue_48 ?_
        refine g_ifb_eq (n := 54) (tgt := 180) hC dX1_leastValue_51 (fun h51 => ?_) (fun h51 => ?_)
        ·
          have hnx := fol_n (op := mnI) (v := (fun i => ovl (bnO bo0 bo1) (w * h) 1 (plU w h ru f (bnO bo0 bo1) 1 ch (chI i)))) (z := 1000000) h51
          refine g_iinc (n := 183) (ll1 := [some (.ref fo), some (.ref g), some (.ref q), some (.int (nI 1)), some (.int ch), some (.int (nI 1)), some (.ref (fo + 5)), some (.int (nI (stK ru (ldF f (w * h) bo0 bo1)))), some (.int (nrX w h ru (bnO bo0 bo1) 1 f ch i)), some (.int ((chI i) + Int32.ofInt (1))), none, none, none, none, none]) hC dX1_leastValue_180 rfl (rfl) rfl ?_
          refine g_goto (n := 33) hC dX1_leastValue_183 ?_
          exact ih33 (i + 1) σ9 (by omega) (by first | exact hS8 | exact hS7 | exact hS9 | exact ⟨hla, fun b9 _ => rfl⟩) _ (hnx.symm) _ (chI_inc _) (by omega)
        ·
          refine g_iload_n (n := 55) hC rfl dX1_leastValue_54 ?_
          refine g_if_ne (n := 58) (tgt := 63) hC dX1_leastValue_55 (fun _ => ?_) (fun h9 => absurd h9 (by decide))
          refine g_iload (n := 65) hC rfl dX1_leastValue_63 ?_
          refine g_istore (n := 67) (ll1 := [some (.ref fo), some (.ref g), some (.ref q), some (.int (nI 1)), some (.int ch), some (.int (nI 1)), some (.ref (fo + 5)), some (.int (nI (stK ru (ldF f (w * h) bo0 bo1)))), some (.int (nrX w h ru (bnO bo0 bo1) 1 f ch i)), some (.int (chI i)), some (.int (chI i)), none, none, none, none]) hC dX1_leastValue_65 rfl ?_
          refine g_iload_n (n := 68) hC rfl dX1_leastValue_67 ?_
          refine g_if_ne (n := 71) (tgt := 76) hC dX1_leastValue_68 (fun _ => ?_) (fun h9 => absurd h9 (by decide))
          refine g_iload (n := 78) hC rfl dX1_leastValue_76 ?_
          refine g_istore (n := 80) (ll1 := [some (.ref fo), some (.ref g), some (.ref q), some (.int (nI 1)), some (.int ch), some (.int (nI 1)), some (.ref (fo + 5)), some (.int (nI (stK ru (ldF f (w * h) bo0 bo1)))), some (.int (nrX w h ru (bnO bo0 bo1) 1 f ch i)), some (.int (chI i)), some (.int (chI i)), some (.int ch), none, none, none]) hC dX1_leastValue_78 rfl ?_
          refine g_aload (n := 82) hC rfl dX1_leastValue_80 ?_
          refine g_aload_n (n := 83) hC rfl dX1_leastValue_82 ?_
          refine g_getf (n := 86) (v := .ref b) hC gf_X1_28 (m0) (hG9.2.1) rfl dX1_leastValue_83 ?_
          refine g_aload_n (n := 87) hC rfl dX1_leastValue_86 ?_
          refine g_iload (n := 89) hC rfl dX1_leastValue_87 ?_
          refine g_iload (n := 91) hC rfl dX1_leastValue_89 ?_
          refine g_iload (n := 93) hC rfl dX1_leastValue_91 ?_
          refine g_cVv (n := 96) hC gv_X1_44 (hd9.1.1) (hd9.2.1) (X_make K hbL hsb9 hw1 hw2 hh1 hh2 hd9.1 hd9.2.1 hd9.2.2.1 hd9.2.2.2.1 hd9.2.2.2.2 hT9.1 hT9.2 hqL hqL1 tq9 tq19 (by omega) (by omega) (x := chI i) (y := ch) (s := (stK ru (ldF f (w * h) bo0 bo1))) (chI_ok hi0) hch stK_le (F := (plM ru (w * h) f (bnO bo0 bo1) (chI i) (ch))) (fun i hi => mkF_plM hn49 hld (chI_ok hi0) hch hru hi) (plM_hi hn49 (chI_ok hi0) hch (by omega) (by omega)).symm (plM_hi hn49 (chI_ok hi0) hch (by omega) (by omega)).symm (W := (goW w h ru f (bnO bo0 bo1) (chI i) (ch))) (wC_ok _ _ _)) dX1_leastValue_93 ?_
          refine G.eqs (show _ = rdU K σ9 (fo + 5) (w * h) (ccF (chI i) (ch) d9.1) (mkX (chI i) (ch) (stK ru (ldF f (w * h) bo0 bo1))) (wvU w h (plM ru (w * h) f (bnO bo0 bo1) (chI i) (ch)) (goW w h ru f (bnO bo0 bo1) (chI i) (ch))) (plV w h ru f (bnO bo0 bo1) (chI i) (ch)) from rdU_cong (fun i hi => (plV_lo hn49 (by omega)).symm) (plV_lo hn49 (by omega)).symm (plV_lo hn49 (by omega)).symm) ?_
          obtain ⟨σ8, hσ8⟩ : ∃ q9, q9 = rdU K σ9 (fo + 5) (w * h) (ccF (chI i) (ch) d9.1) (mkX (chI i) (ch) (stK ru (ldF f (w * h) bo0 bo1))) (wvU w h (plM ru (w * h) f (bnO bo0 bo1) (chI i) (ch)) (goW w h ru f (bnO bo0 bo1) (chI i) (ch))) (plV w h ru f (bnO bo0 bo1) (chI i) (ch)) := ⟨_, rfl⟩
          refine G.eqs hσ8.symm ?_
          have hri8 : rdI K L σ8 (fo + 5) (w * h) (ccF (chI i) (ch) d9.1) (mkX (chI i) (ch) (stK ru (ldF f (w * h) bo0 bo1))) (wvU w h (plM ru (w * h) f (bnO bo0 bo1) (chI i) (ch)) (goW w h ru f (bnO bo0 bo1) (chI i) (ch))) (plV w h ru f (bnO bo0 bo1) (chI i) (ch)) := by rw [hσ8]; exact rdU_I hd9.1
          have hf8 : ∀ b9, b9 < fo + 5 ∨ fo + 5 + 3 < b9 → σ8 b9 = σ9 b9 := fun b9 hb9 => by rw [hσ8]; exact rdU_o hb9
          have hG8 := gm_eq (σ1 := σ8) (fun a9 h1 h2 _ => hf8 a9 (by omega)) hG9
          have hsb8 : σ8 b = bdA w h := (hf8 b (by omega)).trans hsb9
          have hS8 : (∃ d, ((∀ k, 6 ≤ k → d.2.2.2 k = 0) ∧ ∀ k, 8 ≤ k → d.2.2.1 k = 0) ∧ rdD K L σ8 (fo + 5) d) ∧ ∀ b9, b9 < fo + 5 ∨ fo + 8 < b9 → σ8 b9 = σ b9 := ⟨⟨_, ⟨psS_6, wvU_t (wC_ok _ _ _).1⟩, rdI_D hri8⟩, fun b9 hb9 => (hf8 b9 (by omega)).trans (hf9 b9 hb9)⟩
          refine g_iload (n := 98) hC rfl dX1_leastValue_96 ?_
          refine g_iconst (n := 99) (v := (nI 1)) hC (by decide) dX1_leastValue_98 ?_
          refine g_icmp_leN (n := 102) (tgt := 116) hC (by decide) (by decide) dX1_leastValue_99 (fun _ => ?_) (fun h9 => absurd h9 (by decide))
          refine g_iconst (n := 117) (v := (nI 1)) hC (by decide) dX1_leastValue_116 ?_
          refine g_goto (n := 121) hC dX1_leastValue_117 ?_
          refine g_istore (n := 123) (ll1 := [some (.ref fo), some (.ref g), some (.ref q), some (.int (nI 1)), some (.int ch), some (.int (nI 1)), some (.ref (fo + 5)), some (.int (nI (stK ru (ldF f (w * h) bo0 bo1)))), some (.int (nrX w h ru (bnO bo0 bo1) 1 f ch i)), some (.int (chI i)), some (.int (chI i)), some (.int ch), some (.int (nI 1)), none, none]) hC dX1_leastValue_121 rfl ?_
          refine g_aload_n (n := 124) hC rfl dX1_leastValue_123 ?_
          refine g_aload (n := 126) hC rfl dX1_leastValue_124 ?_
          refine g_getf (n := 129) (v := .ref (fo + 5 + 1)) hC gf_X1_54 (hri8.1.1) (hri8.2.1) rfl dX1_leastValue_126 ?_
          refine g_cV (n := 132) hC gv_X1_58 (m0) (hG8.2.1) (X_lead K hG8 hsb8 hw1 hw2 hh1 hh2 hP hri8.1.2.1 hri8.1.2.2.1 hri8.2.2.1 hri8.2.2.2.1) dX1_leastValue_129 ?_
          refine G.eqi ld_eq ?_
          refine g_istore (n := 134) (ll1 := [some (.ref fo), some (.ref g), some (.ref q), some (.int (nI 1)), some (.int ch), some (.int (nI 1)), some (.ref (fo + 5)), some (.int (nI (stK ru (ldF f (w * h) bo0 bo1)))), some (.int (nrX w h ru (bnO bo0 bo1) 1 f ch i)), some (.int (chI i)), some (.int (chI i)), some (.int ch), some (.int (nI 1)), some (.int (scF (plV w h ru f (bnO bo0 bo1) (chI i) (ch)) (bnO bo0 bo1) (w * h) 0 - scF (plV w h ru f (bnO bo0 bo1) (chI i) (ch)) (bnO bo0 bo1) (w * h) 1)), none]) hC dX1_leastValue_132 rfl ?_
          refine g_iload_n (n := 135) hC rfl dX1_leastValue_134 ?_
          refine g_if_ne (n := 138) (tgt := 143) hC dX1_leastValue_135 (fun _ => ?_) (fun h9 => absurd h9 (by decide))
          refine g_iload (n := 145) hC rfl dX1_leastValue_143 ?_
          refine g_ineg (n := 146) hC dX1_leastValue_145 ?_
          refine G.eqi (show _ = ovl (bnO bo0 bo1) (w * h) 1 (plV w h ru f (bnO bo0 bo1) (chI i) (ch)) from Int32.neg_sub) ?_
          refine g_istore (n := 148) (ll1 := [some (.ref fo), some (.ref g), some (.ref q), some (.int (nI 1)), some (.int ch), some (.int (nI 1)), some (.ref (fo + 5)), some (.int (nI (stK ru (ldF f (w * h) bo0 bo1)))), some (.int (nrX w h ru (bnO bo0 bo1) 1 f ch i)), some (.int (chI i)), some (.int (chI i)), some (.int ch), some (.int (nI 1)), some (.int (scF (plV w h ru f (bnO bo0 bo1) (chI i) (ch)) (bnO bo0 bo1) (w * h) 0 - scF (plV w h ru f (bnO bo0 bo1) (chI i) (ch)) (bnO bo0 bo1) (w * h) 1)), some (.int (ovl (bnO bo0 bo1) (w * h) 1 (plV w h ru f (bnO bo0 bo1) (chI i) (ch))))]) hC dX1_leastValue_146 rfl ?_
          refine g_iload (n := 150) hC rfl dX1_leastValue_148 ?_
          refine g_iload (n := 152) hC rfl dX1_leastValue_150 ?_
          refine g_if_eq (n := 155) (tgt := 160) hC dX1_leastValue_152 (fun h9 => absurd h9 (by decide)) (fun _ => ?_)
          refine g_iload (n := 157) hC rfl dX1_leastValue_155 ?_
          refine g_goto (n := 175) hC dX1_leastValue_157 ?_
          refine g_mmin (n := 178) hC (by exact gmem (i := 854) (by decide +kernel) (by decide +kernel)) dX1_leastValue_175 ?_
          refine G.eqi (show _ = nrX w h ru (bnO bo0 bo1) 1 f ch (i + 1) from (show _ = mnI (ovl (bnO bo0 bo1) (w * h) 1 (plU w h ru f (bnO bo0 bo1) 1 ch (chI i))) (nrX w h ru (bnO bo0 bo1) 1 f ch i) from rfl).trans (fol_y h51).symm) ?_
          refine g_istore (n := 180) (ll1 := [some (.ref fo), some (.ref g), some (.ref q), some (.int (nI 1)), some (.int ch), some (.int (nI 1)), some (.ref (fo + 5)), some (.int (nI (stK ru (ldF f (w * h) bo0 bo1)))), some (.int (nrX w h ru (bnO bo0 bo1) 1 f ch (i + 1))), some (.int (chI i)), some (.int (chI i)), some (.int ch), some (.int (nI 1)), some (.int (scF (plV w h ru f (bnO bo0 bo1) (chI i) (ch)) (bnO bo0 bo1) (w * h) 0 - scF (plV w h ru f (bnO bo0 bo1) (chI i) (ch)) (bnO bo0 bo1) (w * h) 1)), some (.int (ovl (bnO bo0 bo1) (w * h) 1 (plV w h ru f (bnO bo0 bo1) (chI i) (ch))))]) hC dX1_leastValue_178 rfl ?_
          refine g_iinc (n := 183) (ll1 := [some (.ref fo), some (.ref g), some (.ref q), some (.int (nI 1)), some (.int ch), some (.int (nI 1)), some (.ref (fo + 5)), some (.int (nI (stK ru (ldF f (w * h) bo0 bo1)))), some (.int (nrX w h ru (bnO bo0 bo1) 1 f ch (i + 1))), some (.int ((chI i) + Int32.ofInt (1))), some (.int (chI i)), some (.int ch), some (.int (nI 1)), some (.int (scF (plV w h ru f (bnO bo0 bo1) (chI i) (ch)) (bnO bo0 bo1) (w * h) 0 - scF (plV w h ru f (bnO bo0 bo1) (chI i) (ch)) (bnO bo0 bo1) (w * h) 1)), some (.int (ovl (bnO bo0 bo1) (w * h) 1 (plV w h ru f (bnO bo0 bo1) (chI i) (ch))))]) hC dX1_leastValue_180 rfl (rfl) rfl ?_
          refine g_goto (n := 33) hC dX1_leastValue_183 ?_
          exact G.le (ih33 (i + 1) σ8 (by omega) (by first | exact hS8 | exact hS7 | exact hS9 | exact ⟨hla, fun b9 _ => rfl⟩) _ (rfl) _ (chI_inc _) (by omega)) (And.intro rfl (And.intro rfl (And.intro rfl (And.intro rfl (And.intro rfl (And.intro rfl (And.intro rfl (And.intro rfl (And.intro rfl (And.intro rfl (trivial)))))))))))
  exact lp33 _ 0 σ (by omega) (by first | exact hS8 | exact hS7 | exact hS9 | exact ⟨hla, fun b9 _ => rfl⟩) _ (rfl) _ (rfl) (Nat.lt_succ_self _)

set_option maxRecDepth 20000 in
set_option maxHeartbeats 4000000 in
theorem X_greatest_0 (K : GK) {σ : GS} {L : List Nat} {z : Nat} {g b : Nat} {w h : Nat} {ru : Int32} {pl : Nat} {bo0 bo1 : Int32} {D : Nat → RD} {rows : Nat → Nat → Int32} (hG : gmI K L σ g b ru pl bo0 bo1 D) (hsb : σ b = bdA w h) (hw1 : 4 ≤ w) (hw2 : w ≤ 7) (hh1 : 4 ≤ h) (hh2 : h ≤ 7) (hP : gmP (w * h) pl D rows) {q : Nat} {f : Nat → Int32} (hqL : q ∈ L) (hqL1 : q + 1 ∈ L) (tq : σ q = psO q f) (tq1 : σ (q + 1) = lA K 6 (psS (w * h) f)) {fo : Nat} (mF : fo ∈ L) (sF : σ fo = .inr (1, [.ref (fo + 1), .ref (fo + 5)])) (hgf : g + 245 ≤ fo) (hru : ∃ r0, r0 ≤ 2 ∧ ru = nI r0) {mm8 : Nat} (hmm8 : mm8 ≤ 80000) (hcb : cpB f mm8) (hbb : bnB (bnO bo0 bo1)) (hla : ∃ d, ((∀ k, 6 ≤ k → d.2.2.2 k = 0) ∧ ∀ k, 8 ≤ k → d.2.2.1 k = 0) ∧ rdD K L σ (fo + 5) d) (hqf : q + 1 < fo + 5) (hbf : b < fo + 1 ∨ fo + 8 < b) : gM K yX1_greatestValue cX1_greatestValue 7 (some .int) 7 0 0 [.ref fo, .ref g, .ref q, .int (nI 0), .int (nI 1)] z L (σ) (fun r z1 L1 σ2 => r = some (.int (bnF w h ru (bnO bo0 bo1) 0 f (w * h + 1))) ∧ z1 = z ∧ L1 = L ∧ (∃ d, ((∀ k, 6 ≤ k → d.2.2.2 k = 0) ∧ ∀ k, 8 ≤ k → d.2.2.1 k = 0) ∧ rdD K L σ2 (fo + 5) d) ∧ ∀ b9, b9 < fo + 5 ∨ fo + 8 < b9 → σ2 b9 = σ b9) := by
  have hn : w * h ≤ 49 := Nat.mul_le_mul hw2 hh2
  have hn1 : 16 ≤ w * h := Nat.mul_le_mul hw1 hh1
  have hn49 : w * h ≤ 49 := hn
  obtain ⟨m0, m2, m3, m4, hbL⟩ := hG.1
  have s0 := hG.2.1
  have s2 := hG.2.2.1
  have hpl := hP.1
  have hlat := gm_lat hG hP
  refine g_intro [some (.ref fo), some (.ref g), some (.ref q), some (.int (nI 0)), some (.int (nI 1)), none, none] (fun Γ hC => ?_) (by simp [g_en, lv_args, Value.category])
  refine g_ldc (n := 2) hC gc_X1_71 dX1_greatestValue_0 ?_
  refine g_istore (n := 4) (ll1 := [some (.ref fo), some (.ref g), some (.ref q), some (.int (nI 0)), some (.int (nI 1)), some (.int (-1000000)), none]) hC dX1_greatestValue_2 rfl ?_
  refine g_iconst (n := 5) (v := (-1)) hC (by decide) dX1_greatestValue_4 ?_
  refine g_istore (n := 7) (ll1 := [some (.ref fo), some (.ref g), some (.ref q), some (.int (nI 0)), some (.int (nI 1)), some (.int (-1000000)), some (.int (-1))]) hC dX1_greatestValue_5 rfl ?_
  have lp7 : ∀ (n9 : Nat) (i : Nat) (σ9 : GS) (hi : i ≤ w * h + 1) (hS9 : (∃ d, ((∀ k, 6 ≤ k → d.2.2.2 k = 0) ∧ ∀ k, 8 ≤ k → d.2.2.1 k = 0) ∧ rdD K L σ9 (fo + 5) d) ∧ ∀ b9, b9 < fo + 5 ∨ fo + 8 < b9 → σ9 b9 = σ b9) (y5 : Int32) (ey5 : y5 = (bnX w h ru (bnO bo0 bo1) 0 f i)) (y6 : Int32) (ey6 : y6 = (chI i)) (hm9 : w * h + 1 - i < n9), G K Γ (z, 0, 0, L) (σ9) 7 [some (.ref fo), some (.ref g), some (.ref q), some (.int (nI 0)), some (.int (nI 1)), some (.int y5), some (.int y6)] [] := by
    intro n9
    induction n9 with
    | zero =>
      intro i σ9 hi hS9 y5 ey5 y6 ey6 hm9
      exact absurd hm9 (Nat.not_lt_zero _)
    | succ n9 ih7 =>
      intro i σ9 hi hS9 y5 ey5 y6 ey6 hm9
      subst ey5
      subst ey6
      have hS9c := hS9
      obtain ⟨hla9, hf9⟩ := hS9c
      have hG9 := gm_eq (σ1 := σ9) (fun a9 h1 h2 _ => hf9 a9 (by omega)) hG
      have hsb9 : σ9 b = bdA w h := (hf9 b (by omega)).trans hsb
      have tq9 : σ9 q = psO q f := (hf9 q (by omega)).trans tq
      have tq19 : σ9 (q + 1) = lA K 6 (psS (w * h) f) := (hf9 (q + 1) (by omega)).trans tq1
      have sF9 := (hf9 fo (by omega)).trans sF
      refine g_iload (n := 9) hC rfl dX1_greatestValue_7 ?_
      refine g_aload_n (n := 10) hC rfl dX1_greatestValue_9 ?_
      refine g_getf (n := 13) (v := .ref b) hC gf_X1_28 (m0) (hG9.2.1) rfl dX1_greatestValue_10 ?_
      refine g_getf (n := 16) (v := .int (nI (w * h))) hC gf_X1_32 (hbL) (hsb9) rfl dX1_greatestValue_13 ?_
      refine g_icmp_ge (n := 19) (tgt := 52) hC dX1_greatestValue_16 (fun h16 => ?_) (fun h16 => ?_)
      ·
        refine g_iload (n := 54) hC rfl dX1_greatestValue_52 ?_
        exact g_iret hC dX1_greatestValue_54 (⟨rI (by rw [(chI_ge (n := w * h) (by omega) hi).mp h16]; exact (bnX_eq hn49 (by omega) hcb hbb (by omega)).1), rfl, rfl, hS9⟩)
      ·
        refine g_aload_n (n := 20) hC rfl dX1_greatestValue_19 ?_
        refine g_iload (n := 22) hC rfl dX1_greatestValue_20 ?_
        have hi0 : i ≤ w * h := by
          by_cases e9 : i = w * h + 1
          · exact absurd ((chI_ge (n := w * h) (by omega) hi).mpr e9) h16
          · omega
        refine g_cV (n := 25) hC gv_X1_38 (hqL) (tq9) (X_admits K hqL hqL1 tq9 tq19 hn49 (x := chI i) (chI_ok hi0)) dX1_greatestValue_22 ?_
        refine g_ifb_eq (n := 28) (tgt := 46) hC dX1_greatestValue_25 (fun h25 => ?_) (fun h25 => ?_)
        ·
          have hnx := fol_n (op := mxI) (v := (fun i => nrF w h ru (bnO bo0 bo1) 0 f (chI i) (w * h + 1))) (z := -1000000) h25
          refine g_iinc (n := 49) (ll1 := [some (.ref fo), some (.ref g), some (.ref q), some (.int (nI 0)), some (.int (nI 1)), some (.int (bnX w h ru (bnO bo0 bo1) 0 f i)), some (.int ((chI i) + Int32.ofInt (1)))]) hC dX1_greatestValue_46 rfl (rfl) rfl ?_
          refine g_goto (n := 7) hC dX1_greatestValue_49 ?_
          exact ih7 (i + 1) σ9 (by omega) (by first | exact hS7 | exact hS9 | exact ⟨hla, fun b9 _ => rfl⟩) _ (hnx.symm) _ (chI_inc _) (by omega)
        ·
          refine g_iload (n := 30) hC rfl dX1_greatestValue_28 ?_
          refine g_aload_n (n := 31) hC rfl dX1_greatestValue_30 ?_
          refine g_aload_n (n := 32) hC rfl dX1_greatestValue_31 ?_
          refine g_aload_n (n := 33) hC rfl dX1_greatestValue_32 ?_
          refine g_iload_n (n := 34) hC rfl dX1_greatestValue_33 ?_
          refine g_iload (n := 36) hC rfl dX1_greatestValue_34 ?_
          refine g_iload (n := 38) hC rfl dX1_greatestValue_36 ?_
          refine g_callV hC gv_X1_72 (X_least1_0 K hG9 hsb9 hw1 hw2 hh1 hh2 hP hqL hqL1 tq9 tq19 mF sF9 hgf hru hmm8 hcb hbb hla9 hqf hbf (ch := chI i) (chI_ok hi0)) mF sF9 (by rfl) (by decide) (by decide) (by rfl) (by rfl) (Nat.le_of_ble_eq_true rfl) (by exact ⟨Nat.le_refl _, Nat.le_refl _⟩) dX1_greatestValue_38 (fun rv9 z9 L9 σ7 hp9 => ?_)
          obtain ⟨hr9, hz9, hL9, hla7, hf7⟩ := hp9
          rw [hr9, hz9, hL9]
          have hS7 : (∃ d, ((∀ k, 6 ≤ k → d.2.2.2 k = 0) ∧ ∀ k, 8 ≤ k → d.2.2.1 k = 0) ∧ rdD K L σ7 (fo + 5) d) ∧ ∀ b9, b9 < fo + 5 ∨ fo + 8 < b9 → σ7 b9 = σ b9 := ⟨hla7, fun b9 hb9 => (hf7 b9 hb9).trans (hf9 b9 hb9)⟩
          show G K Γ (z, 0, 0, L) (σ7) 41 [some (.ref fo), some (.ref g), some (.ref q), some (.int (nI 0)), some (.int (nI 1)), some (.int (bnX w h ru (bnO bo0 bo1) 0 f i)), some (.int (chI i))] [.int (nrF w h ru (bnO bo0 bo1) 0 f (chI i) (w * h + 1)), .int (bnX w h ru (bnO bo0 bo1) 0 f i)]
          refine g_mmax (n := 44) hC (by exact gmem (i := 853) (by decide +kernel) (by decide +kernel)) dX1_greatestValue_41 ?_
          refine G.eqi (show _ = bnX w h ru (bnO bo0 bo1) 0 f (i + 1) from (show _ = mxI (nrF w h ru (bnO bo0 bo1) 0 f (chI i) (w * h + 1)) (bnX w h ru (bnO bo0 bo1) 0 f i) from rfl).trans (fol_y h25).symm) ?_
          refine g_istore (n := 46) (ll1 := [some (.ref fo), some (.ref g), some (.ref q), some (.int (nI 0)), some (.int (nI 1)), some (.int (bnX w h ru (bnO bo0 bo1) 0 f (i + 1))), some (.int (chI i))]) hC dX1_greatestValue_44 rfl ?_
          refine g_iinc (n := 49) (ll1 := [some (.ref fo), some (.ref g), some (.ref q), some (.int (nI 0)), some (.int (nI 1)), some (.int (bnX w h ru (bnO bo0 bo1) 0 f (i + 1))), some (.int ((chI i) + Int32.ofInt (1)))]) hC dX1_greatestValue_46 rfl (rfl) rfl ?_
          refine g_goto (n := 7) hC dX1_greatestValue_49 ?_
          exact ih7 (i + 1) σ7 (by omega) (by first | exact hS7 | exact hS9 | exact ⟨hla, fun b9 _ => rfl⟩) _ (rfl) _ (chI_inc _) (by omega)
  exact lp7 _ 0 σ (by omega) (by first | exact hS7 | exact hS9 | exact ⟨hla, fun b9 _ => rfl⟩) _ (rfl) _ (rfl) (Nat.lt_succ_self _)

set_option maxRecDepth 20000 in
set_option maxHeartbeats 4000000 in
theorem X_greatest_1 (K : GK) {σ : GS} {L : List Nat} {z : Nat} {g b : Nat} {w h : Nat} {ru : Int32} {pl : Nat} {bo0 bo1 : Int32} {D : Nat → RD} {rows : Nat → Nat → Int32} (hG : gmI K L σ g b ru pl bo0 bo1 D) (hsb : σ b = bdA w h) (hw1 : 4 ≤ w) (hw2 : w ≤ 7) (hh1 : 4 ≤ h) (hh2 : h ≤ 7) (hP : gmP (w * h) pl D rows) {q : Nat} {f : Nat → Int32} (hqL : q ∈ L) (hqL1 : q + 1 ∈ L) (tq : σ q = psO q f) (tq1 : σ (q + 1) = lA K 6 (psS (w * h) f)) {fo : Nat} (mF : fo ∈ L) (sF : σ fo = .inr (1, [.ref (fo + 1), .ref (fo + 5)])) (hgf : g + 245 ≤ fo) (hru : ∃ r0, r0 ≤ 2 ∧ ru = nI r0) {mm8 : Nat} (hmm8 : mm8 ≤ 80000) (hcb : cpB f mm8) (hbb : bnB (bnO bo0 bo1)) (hla : ∃ d, ((∀ k, 6 ≤ k → d.2.2.2 k = 0) ∧ ∀ k, 8 ≤ k → d.2.2.1 k = 0) ∧ rdD K L σ (fo + 5) d) (hqf : q + 1 < fo + 5) (hbf : b < fo + 1 ∨ fo + 8 < b) : gM K yX1_greatestValue cX1_greatestValue 7 (some .int) 7 0 0 [.ref fo, .ref g, .ref q, .int (nI 1), .int (nI 1)] z L (σ) (fun r z1 L1 σ2 => r = some (.int (bnF w h ru (bnO bo0 bo1) 1 f (w * h + 1))) ∧ z1 = z ∧ L1 = L ∧ (∃ d, ((∀ k, 6 ≤ k → d.2.2.2 k = 0) ∧ ∀ k, 8 ≤ k → d.2.2.1 k = 0) ∧ rdD K L σ2 (fo + 5) d) ∧ ∀ b9, b9 < fo + 5 ∨ fo + 8 < b9 → σ2 b9 = σ b9) := by
  have hn : w * h ≤ 49 := Nat.mul_le_mul hw2 hh2
  have hn1 : 16 ≤ w * h := Nat.mul_le_mul hw1 hh1
  have hn49 : w * h ≤ 49 := hn
  obtain ⟨m0, m2, m3, m4, hbL⟩ := hG.1
  have s0 := hG.2.1
  have s2 := hG.2.2.1
  have hpl := hP.1
  have hlat := gm_lat hG hP
  refine g_intro [some (.ref fo), some (.ref g), some (.ref q), some (.int (nI 1)), some (.int (nI 1)), none, none] (fun Γ hC => ?_) (by simp [g_en, lv_args, Value.category])
  refine g_ldc (n := 2) hC gc_X1_71 dX1_greatestValue_0 ?_
  refine g_istore (n := 4) (ll1 := [some (.ref fo), some (.ref g), some (.ref q), some (.int (nI 1)), some (.int (nI 1)), some (.int (-1000000)), none]) hC dX1_greatestValue_2 rfl ?_
  refine g_iconst (n := 5) (v := (-1)) hC (by decide) dX1_greatestValue_4 ?_
  refine g_istore (n := 7) (ll1 := [some (.ref fo), some (.ref g), some (.ref q), some (.int (nI 1)), some (.int (nI 1)), some (.int (-1000000)), some (.int (-1))]) hC dX1_greatestValue_5 rfl ?_
  have lp7 : ∀ (n9 : Nat) (i : Nat) (σ9 : GS) (hi : i ≤ w * h + 1) (hS9 : (∃ d, ((∀ k, 6 ≤ k → d.2.2.2 k = 0) ∧ ∀ k, 8 ≤ k → d.2.2.1 k = 0) ∧ rdD K L σ9 (fo + 5) d) ∧ ∀ b9, b9 < fo + 5 ∨ fo + 8 < b9 → σ9 b9 = σ b9) (y5 : Int32) (ey5 : y5 = (bnX w h ru (bnO bo0 bo1) 1 f i)) (y6 : Int32) (ey6 : y6 = (chI i)) (hm9 : w * h + 1 - i < n9), G K Γ (z, 0, 0, L) (σ9) 7 [some (.ref fo), some (.ref g), some (.ref q), some (.int (nI 1)), some (.int (nI 1)), some (.int y5), some (.int y6)] [] := by
    intro n9
    induction n9 with
    | zero =>
      intro i σ9 hi hS9 y5 ey5 y6 ey6 hm9
      exact absurd hm9 (Nat.not_lt_zero _)
    | succ n9 ih7 =>
      intro i σ9 hi hS9 y5 ey5 y6 ey6 hm9
      subst ey5
      subst ey6
      have hS9c := hS9
      obtain ⟨hla9, hf9⟩ := hS9c
      have hG9 := gm_eq (σ1 := σ9) (fun a9 h1 h2 _ => hf9 a9 (by omega)) hG
      have hsb9 : σ9 b = bdA w h := (hf9 b (by omega)).trans hsb
      have tq9 : σ9 q = psO q f := (hf9 q (by omega)).trans tq
      have tq19 : σ9 (q + 1) = lA K 6 (psS (w * h) f) := (hf9 (q + 1) (by omega)).trans tq1
      have sF9 := (hf9 fo (by omega)).trans sF
      refine g_iload (n := 9) hC rfl dX1_greatestValue_7 ?_
      refine g_aload_n (n := 10) hC rfl dX1_greatestValue_9 ?_
      refine g_getf (n := 13) (v := .ref b) hC gf_X1_28 (m0) (hG9.2.1) rfl dX1_greatestValue_10 ?_
      refine g_getf (n := 16) (v := .int (nI (w * h))) hC gf_X1_32 (hbL) (hsb9) rfl dX1_greatestValue_13 ?_
      refine g_icmp_ge (n := 19) (tgt := 52) hC dX1_greatestValue_16 (fun h16 => ?_) (fun h16 => ?_)
      ·
        refine g_iload (n := 54) hC rfl dX1_greatestValue_52 ?_
        exact g_iret hC dX1_greatestValue_54 (⟨rI (by rw [(chI_ge (n := w * h) (by omega) hi).mp h16]; exact (bnX_eq hn49 (by omega) hcb hbb (by omega)).1), rfl, rfl, hS9⟩)
      ·
        refine g_aload_n (n := 20) hC rfl dX1_greatestValue_19 ?_
        refine g_iload (n := 22) hC rfl dX1_greatestValue_20 ?_
        have hi0 : i ≤ w * h := by
          by_cases e9 : i = w * h + 1
          · exact absurd ((chI_ge (n := w * h) (by omega) hi).mpr e9) h16
          · omega
        refine g_cV (n := 25) hC gv_X1_38 (hqL) (tq9) (X_admits K hqL hqL1 tq9 tq19 hn49 (x := chI i) (chI_ok hi0)) dX1_greatestValue_22 ?_
        refine g_ifb_eq (n := 28) (tgt := 46) hC dX1_greatestValue_25 (fun h25 => ?_) (fun h25 => ?_)
        ·
          have hnx := fol_n (op := mxI) (v := (fun i => nrF w h ru (bnO bo0 bo1) 1 f (chI i) (w * h + 1))) (z := -1000000) h25
          refine g_iinc (n := 49) (ll1 := [some (.ref fo), some (.ref g), some (.ref q), some (.int (nI 1)), some (.int (nI 1)), some (.int (bnX w h ru (bnO bo0 bo1) 1 f i)), some (.int ((chI i) + Int32.ofInt (1)))]) hC dX1_greatestValue_46 rfl (rfl) rfl ?_
          refine g_goto (n := 7) hC dX1_greatestValue_49 ?_
          exact ih7 (i + 1) σ9 (by omega) (by first | exact hS7 | exact hS9 | exact ⟨hla, fun b9 _ => rfl⟩) _ (hnx.symm) _ (chI_inc _) (by omega)
        ·
          refine g_iload (n := 30) hC rfl dX1_greatestValue_28 ?_
          refine g_aload_n (n := 31) hC rfl dX1_greatestValue_30 ?_
          refine g_aload_n (n := 32) hC rfl dX1_greatestValue_31 ?_
          refine g_aload_n (n := 33) hC rfl dX1_greatestValue_32 ?_
          refine g_iload_n (n := 34) hC rfl dX1_greatestValue_33 ?_
          refine g_iload (n := 36) hC rfl dX1_greatestValue_34 ?_
          refine g_iload (n := 38) hC rfl dX1_greatestValue_36 ?_
          refine g_callV hC gv_X1_72 (X_least1_1 K hG9 hsb9 hw1 hw2 hh1 hh2 hP hqL hqL1 tq9 tq19 mF sF9 hgf hru hmm8 hcb hbb hla9 hqf hbf (ch := chI i) (chI_ok hi0)) mF sF9 (by rfl) (by decide) (by decide) (by rfl) (by rfl) (Nat.le_of_ble_eq_true rfl) (by exact ⟨Nat.le_refl _, Nat.le_refl _⟩) dX1_greatestValue_38 (fun rv9 z9 L9 σ7 hp9 => ?_)
          obtain ⟨hr9, hz9, hL9, hla7, hf7⟩ := hp9
          rw [hr9, hz9, hL9]
          have hS7 : (∃ d, ((∀ k, 6 ≤ k → d.2.2.2 k = 0) ∧ ∀ k, 8 ≤ k → d.2.2.1 k = 0) ∧ rdD K L σ7 (fo + 5) d) ∧ ∀ b9, b9 < fo + 5 ∨ fo + 8 < b9 → σ7 b9 = σ b9 := ⟨hla7, fun b9 hb9 => (hf7 b9 hb9).trans (hf9 b9 hb9)⟩
          show G K Γ (z, 0, 0, L) (σ7) 41 [some (.ref fo), some (.ref g), some (.ref q), some (.int (nI 1)), some (.int (nI 1)), some (.int (bnX w h ru (bnO bo0 bo1) 1 f i)), some (.int (chI i))] [.int (nrF w h ru (bnO bo0 bo1) 1 f (chI i) (w * h + 1)), .int (bnX w h ru (bnO bo0 bo1) 1 f i)]
          refine g_mmax (n := 44) hC (by exact gmem (i := 853) (by decide +kernel) (by decide +kernel)) dX1_greatestValue_41 ?_
          refine G.eqi (show _ = bnX w h ru (bnO bo0 bo1) 1 f (i + 1) from (show _ = mxI (nrF w h ru (bnO bo0 bo1) 1 f (chI i) (w * h + 1)) (bnX w h ru (bnO bo0 bo1) 1 f i) from rfl).trans (fol_y h25).symm) ?_
          refine g_istore (n := 46) (ll1 := [some (.ref fo), some (.ref g), some (.ref q), some (.int (nI 1)), some (.int (nI 1)), some (.int (bnX w h ru (bnO bo0 bo1) 1 f (i + 1))), some (.int (chI i))]) hC dX1_greatestValue_44 rfl ?_
          refine g_iinc (n := 49) (ll1 := [some (.ref fo), some (.ref g), some (.ref q), some (.int (nI 1)), some (.int (nI 1)), some (.int (bnX w h ru (bnO bo0 bo1) 1 f (i + 1))), some (.int ((chI i) + Int32.ofInt (1)))]) hC dX1_greatestValue_46 rfl (rfl) rfl ?_
          refine g_goto (n := 7) hC dX1_greatestValue_49 ?_
          exact ih7 (i + 1) σ7 (by omega) (by first | exact hS7 | exact hS9 | exact ⟨hla, fun b9 _ => rfl⟩) _ (rfl) _ (chI_inc _) (by omega)
  exact lp7 _ 0 σ (by omega) (by first | exact hS7 | exact hS9 | exact ⟨hla, fun b9 _ => rfl⟩) _ (rfl) _ (rfl) (Nat.lt_succ_self _)

set_option maxRecDepth 20000 in
set_option maxHeartbeats 4000000 in
theorem X_least2_0 (K : GK) {σ : GS} {L : List Nat} {z : Nat} {g b : Nat} {w h : Nat} {ru : Int32} {pl : Nat} {bo0 bo1 : Int32} {D : Nat → RD} {rows : Nat → Nat → Int32} (hG : gmI K L σ g b ru pl bo0 bo1 D) (hsb : σ b = bdA w h) (hw1 : 4 ≤ w) (hw2 : w ≤ 7) (hh1 : 4 ≤ h) (hh2 : h ≤ 7) (hP : gmP (w * h) pl D rows) {q : Nat} {f : Nat → Int32} (hqL : q ∈ L) (hqL1 : q + 1 ∈ L) (tq : σ q = psO q f) (tq1 : σ (q + 1) = lA K 6 (psS (w * h) f)) {fo : Nat} (mF : fo ∈ L) (sF : σ fo = .inr (1, [.ref (fo + 1), .ref (fo + 5)])) (hgf : g + 245 ≤ fo) (hru : ∃ r0, r0 ≤ 2 ∧ ru = nI r0) {mm8 : Nat} (hmm8 : mm8 ≤ 80000) (hcb : cpB f mm8) (hbb : bnB (bnO bo0 bo1)) (hla : ∃ d, ((∀ k, 6 ≤ k → d.2.2.2 k = 0) ∧ ∀ k, 8 ≤ k → d.2.2.1 k = 0) ∧ rdD K L σ (fo + 5) d) (hna : ∃ d, ((∀ k, 6 ≤ k → d.2.2.2 k = 0) ∧ ∀ k, 8 ≤ k → d.2.2.1 k = 0) ∧ rdD K L σ (fo + 1) d) (hqf : q + 1 < fo + 1) (hbf : b < fo + 1 ∨ fo + 8 < b) (hm2 : mm8 ≤ 79000) (hp60 : pl < 60) (hf153 : f 153 = nI pl) {ch : Int32} (hch : chOK (w * h) ch) : gM K yX1_leastValue cX1_leastValue 15 (some .int) 8 0 0 [.ref fo, .ref g, .ref q, .int (nI 0), .int ch, .int (nI 2)] z L (σ) (fun r z1 L1 σ2 => r = some (.int (frF w h ru (bnO bo0 bo1) 0 f ch (w * h + 1))) ∧ z1 = z ∧ L1 = L ∧ (∃ d, ((∀ k, 6 ≤ k → d.2.2.2 k = 0) ∧ ∀ k, 8 ≤ k → d.2.2.1 k = 0) ∧ rdD K L σ2 (fo + 5) d) ∧ (∃ d, ((∀ k, 6 ≤ k → d.2.2.2 k = 0) ∧ ∀ k, 8 ≤ k → d.2.2.1 k = 0) ∧ rdD K L σ2 (fo + 1) d) ∧ ∀ b9, b9 < fo + 1 ∨ fo + 8 < b9 → σ2 b9 = σ b9) := by
  have hn : w * h ≤ 49 := Nat.mul_le_mul hw2 hh2
  have hn1 : 16 ≤ w * h := Nat.mul_le_mul hw1 hh1
  have hn49 : w * h ≤ 49 := hn
  obtain ⟨m0, m2, m3, m4, hbL⟩ := hG.1
  have s0 := hG.2.1
  have s2 := hG.2.2.1
  have hpl := hP.1
  have hlat := gm_lat hG hP
  have hld := ld_ok hn49 (show mm8 ≤ 100000 by omega) hcb hbb
  refine g_intro [some (.ref fo), some (.ref g), some (.ref q), some (.int (nI 0)), some (.int ch), some (.int (nI 2)), none, none, none, none, none, none, none, none, none] (fun Γ hC => ?_) (by simp [g_en, lv_args, Value.category])
  refine g_iload (n := 2) hC rfl dX1_leastValue_0 ?_
  refine g_iconst (n := 3) (v := (nI 1)) hC (by decide) dX1_leastValue_2 ?_
  refine g_icmp_leN (n := 6) (tgt := 13) hC (by decide) (by decide) dX1_leastValue_3 (fun h9 => absurd h9 (by decide)) (fun _ => ?_)
  refine g_aload_n (n := 7) hC rfl dX1_leastValue_6 ?_
  refine g_getf (n := 10) (v := .ref (fo + 1)) hC gf_X1_12 (mF) (sF) rfl dX1_leastValue_7 ?_
  refine g_goto (n := 17) hC dX1_leastValue_10 ?_
  refine g_astore (n := 19) (ll1 := [some (.ref fo), some (.ref g), some (.ref q), some (.int (nI 0)), some (.int ch), some (.int (nI 2)), some (.ref (fo + 1)), none, none, none, none, none, none, none, none]) hC dX1_leastValue_17 rfl ?_
  refine g_aload_n (n := 20) hC rfl dX1_leastValue_19 ?_
  refine g_aload_n (n := 21) hC rfl dX1_leastValue_20 ?_
  refine g_cV (n := 24) hC gv_X1_21 (m0) (s0) (X_stateAfter K hG hsb hw1 hw2 hh1 hh2 hP hqL hqL1 tq tq1) dX1_leastValue_21 ?_
  refine g_istore (n := 26) (ll1 := [some (.ref fo), some (.ref g), some (.ref q), some (.int (nI 0)), some (.int ch), some (.int (nI 2)), some (.ref (fo + 1)), some (.int (nI (stK ru (ldF f (w * h) bo0 bo1)))), none, none, none, none, none, none, none]) hC dX1_leastValue_24 rfl ?_
  refine g_ldc (n := 28) hC gc_X1_27 dX1_leastValue_26 ?_
  refine g_istore (n := 30) (ll1 := [some (.ref fo), some (.ref g), some (.ref q), some (.int (nI 0)), some (.int ch), some (.int (nI 2)), some (.ref (fo + 1)), some (.int (nI (stK ru (ldF f (w * h) bo0 bo1)))), some (.int (1000000)), none, none, none, none, none, none]) hC dX1_leastValue_28 rfl ?_
  refine g_iconst (n := 31) (v := (-1)) hC (by decide) dX1_leastValue_30 ?_
  refine g_istore (n := 33) (ll1 := [some (.ref fo), some (.ref g), some (.ref q), some (.int (nI 0)), some (.int ch), some (.int (nI 2)), some (.ref (fo + 1)), some (.int (nI (stK ru (ldF f (w * h) bo0 bo1)))), some (.int (1000000)), some (.int (-1)), none, none, none, none, none]) hC dX1_leastValue_31 rfl ?_
  have lp33 : ∀ (n9 : Nat) (i : Nat) (σ9 : GS) (hi : i ≤ w * h + 1) (hS9 : (∃ d, ((∀ k, 6 ≤ k → d.2.2.2 k = 0) ∧ ∀ k, 8 ≤ k → d.2.2.1 k = 0) ∧ rdD K L σ9 (fo + 5) d) ∧ (∃ d, ((∀ k, 6 ≤ k → d.2.2.2 k = 0) ∧ ∀ k, 8 ≤ k → d.2.2.1 k = 0) ∧ rdD K L σ9 (fo + 1) d) ∧ ∀ b9, b9 < fo + 1 ∨ fo + 8 < b9 → σ9 b9 = σ b9) (y8 : Int32) (ey8 : y8 = (frX w h ru (bnO bo0 bo1) 0 f ch i)) (y9 : Int32) (ey9 : y9 = (chI i)) (hm9 : w * h + 1 - i < n9), G K Γ (z, 0, 0, L) (σ9) 33 [some (.ref fo), some (.ref g), some (.ref q), some (.int (nI 0)), some (.int ch), some (.int (nI 2)), some (.ref (fo + 1)), some (.int (nI (stK ru (ldF f (w * h) bo0 bo1)))), some (.int y8), some (.int y9), none, none, none, none, none] [] := by
    intro n9
    induction n9 with
    | zero =>
      intro i σ9 hi hS9 y8 ey8 y9 ey9 hm9
      exact absurd hm9 (Nat.not_lt_zero _)
    | succ n9 ih33 =>
      intro i σ9 hi hS9 y8 ey8 y9 ey9 hm9
      subst ey8
      subst ey9
      have hS9c := hS9
      obtain ⟨hla9, ⟨d9, hT9, hd9⟩, hf9⟩ := hS9c
      have hG9 := gm_eq (σ1 := σ9) (fun a9 h1 h2 _ => hf9 a9 (by omega)) hG
      have hsb9 : σ9 b = bdA w h := (hf9 b (by omega)).trans hsb
      have tq9 : σ9 q = psO q f := (hf9 q (by omega)).trans tq
      have tq19 : σ9 (q + 1) = lA K 6 (psS (w * h) f) := (hf9 (q + 1) (by omega)).trans tq1
      have sF9 := (hf9 fo (by omega)).trans sF
      refine g_iload (n := 35) hC rfl dX1_leastValue_33 ?_
      refine g_aload_n (n := 36) hC rfl dX1_leastValue_35 ?_
      refine g_getf (n := 39) (v := .ref b) hC gf_X1_28 (m0) (hG9.2.1) rfl dX1_leastValue_36 ?_
      refine g_getf (n := 42) (v := .int (nI (w * h))) hC gf_X1_32 (hbL) (hsb9) rfl dX1_leastValue_39 ?_
      refine g_icmp_ge (n := 45) (tgt := 186) hC dX1_leastValue_42 (fun h42 => ?_) (fun h42 => ?_)
      ·
        refine g_iload (n := 188) hC rfl dX1_leastValue_186 ?_
        exact g_iret hC dX1_leastValue_188 (⟨rI (by rw [(chI_ge (n := w * h) (by omega) hi).mp h42]; exact (frX_eq hn49 hmm8 hch hcb hbb (by omega)).1), rfl, rfl, hS9⟩)
      ·
        refine g_aload_n (n := 46) hC rfl dX1_leastValue_45 ?_
        refine g_iload (n := 48) hC rfl dX1_leastValue_46 ?_
        have hi0 : i ≤ w * h := by
          by_cases e9 : i = w * h + 1
          · exact absurd ((chI_ge (n := w * h) (by omega) hi).mpr e9) h42
          · omega
        refine g_cV (n := 51) hC gv_X1_38 (hqL) (tq9) (X_admits K hqL hqL1 tq9 tq19 hn49 (x := chI i) (chI_ok hi0)) dX1_leastValue_48 ?_
        refine g_ifb_eq (n := 54) (tgt := 180) hC dX1_leastValue_51 (fun h51 => ?_) (fun h51 => ?_)
        ·
          have hnx := fol_n (op := mnI) (v := (fun i => frV w h ru (bnO bo0 bo1) 0 (plU w h ru f (bnO bo0 bo1) 0 ch (chI i)))) (z := 1000000) h51
          refine g_iinc (n := 183) (ll1 := [some (.ref fo), some (.ref g), some (.ref q), some (.int (nI 0)), some (.int ch), some (.int (nI 2)), some (.ref (fo + 1)), some (.int (nI (stK ru (ldF f (w * h) bo0 bo1)))), some (.int (frX w h ru (bnO bo0 bo1) 0 f ch i)), some (.int ((chI i) + Int32.ofInt (1))), none, none, none, none, none]) hC dX1_leastValue_180 rfl (rfl) rfl ?_
          refine g_goto (n := 33) hC dX1_leastValue_183 ?_
          exact ih33 (i + 1) σ9 (by omega) (by first | exact hS8 | exact hS7 | exact hS9 | exact ⟨hla, hna, fun b9 _ => rfl⟩) _ (hnx.symm) _ (chI_inc _) (by omega)
        ·
          refine g_iload_n (n := 55) hC rfl dX1_leastValue_54 ?_
          refine g_if_ne (n := 58) (tgt := 63) hC dX1_leastValue_55 (fun h9 => absurd h9 (by decide)) (fun _ => ?_)
          refine g_iload (n := 60) hC rfl dX1_leastValue_58 ?_
          refine g_goto (n := 65) hC dX1_leastValue_60 ?_
          refine g_istore (n := 67) (ll1 := [some (.ref fo), some (.ref g), some (.ref q), some (.int (nI 0)), some (.int ch), some (.int (nI 2)), some (.ref (fo + 1)), some (.int (nI (stK ru (ldF f (w * h) bo0 bo1)))), some (.int (frX w h ru (bnO bo0 bo1) 0 f ch i)), some (.int (chI i)), some (.int ch), none, none, none, none]) hC dX1_leastValue_65 rfl ?_
          refine g_iload_n (n := 68) hC rfl dX1_leastValue_67 ?_
          refine g_if_ne (n := 71) (tgt := 76) hC dX1_leastValue_68 (fun h9 => absurd h9 (by decide)) (fun _ => ?_)
          refine g_iload (n := 73) hC rfl dX1_leastValue_71 ?_
          refine g_goto (n := 78) hC dX1_leastValue_73 ?_
          refine g_istore (n := 80) (ll1 := [some (.ref fo), some (.ref g), some (.ref q), some (.int (nI 0)), some (.int ch), some (.int (nI 2)), some (.ref (fo + 1)), some (.int (nI (stK ru (ldF f (w * h) bo0 bo1)))), some (.int (frX w h ru (bnO bo0 bo1) 0 f ch i)), some (.int (chI i)), some (.int ch), some (.int (chI i)), none, none, none]) hC dX1_leastValue_78 rfl ?_
          refine g_aload (n := 82) hC rfl dX1_leastValue_80 ?_
          refine g_aload_n (n := 83) hC rfl dX1_leastValue_82 ?_
          refine g_getf (n := 86) (v := .ref b) hC gf_X1_28 (m0) (hG9.2.1) rfl dX1_leastValue_83 ?_
          refine g_aload_n (n := 87) hC rfl dX1_leastValue_86 ?_
          refine g_iload (n := 89) hC rfl dX1_leastValue_87 ?_
          refine g_iload (n := 91) hC rfl dX1_leastValue_89 ?_
          refine g_iload (n := 93) hC rfl dX1_leastValue_91 ?_
          refine g_cVv (n := 96) hC gv_X1_44 (hd9.1.1) (hd9.2.1) (X_make K hbL hsb9 hw1 hw2 hh1 hh2 hd9.1 hd9.2.1 hd9.2.2.1 hd9.2.2.2.1 hd9.2.2.2.2 hT9.1 hT9.2 hqL hqL1 tq9 tq19 (by omega) (by omega) (x := ch) (y := chI i) (s := (stK ru (ldF f (w * h) bo0 bo1))) hch (chI_ok hi0) stK_le (F := (plM ru (w * h) f (bnO bo0 bo1) (ch) (chI i))) (fun i hi => mkF_plM hn49 hld hch (chI_ok hi0) hru hi) (plM_hi hn49 hch (chI_ok hi0) (by omega) (by omega)).symm (plM_hi hn49 hch (chI_ok hi0) (by omega) (by omega)).symm (W := (goW w h ru f (bnO bo0 bo1) (ch) (chI i))) (wC_ok _ _ _)) dX1_leastValue_93 ?_
          refine G.eqs (show _ = rdU K σ9 (fo + 1) (w * h) (ccF (ch) (chI i) d9.1) (mkX (ch) (chI i) (stK ru (ldF f (w * h) bo0 bo1))) (wvU w h (plM ru (w * h) f (bnO bo0 bo1) (ch) (chI i)) (goW w h ru f (bnO bo0 bo1) (ch) (chI i))) (plV w h ru f (bnO bo0 bo1) (ch) (chI i)) from rdU_cong (fun i hi => (plV_lo hn49 (by omega)).symm) (plV_lo hn49 (by omega)).symm (plV_lo hn49 (by omega)).symm) ?_
          obtain ⟨σ8, hσ8⟩ : ∃ q9, q9 = rdU K σ9 (fo + 1) (w * h) (ccF (ch) (chI i) d9.1) (mkX (ch) (chI i) (stK ru (ldF f (w * h) bo0 bo1))) (wvU w h (plM ru (w * h) f (bnO bo0 bo1) (ch) (chI i)) (goW w h ru f (bnO bo0 bo1) (ch) (chI i))) (plV w h ru f (bnO bo0 bo1) (ch) (chI i)) := ⟨_, rfl⟩
          refine G.eqs hσ8.symm ?_
          have hri8 : rdI K L σ8 (fo + 1) (w * h) (ccF (ch) (chI i) d9.1) (mkX (ch) (chI i) (stK ru (ldF f (w * h) bo0 bo1))) (wvU w h (plM ru (w * h) f (bnO bo0 bo1) (ch) (chI i)) (goW w h ru f (bnO bo0 bo1) (ch) (chI i))) (plV w h ru f (bnO bo0 bo1) (ch) (chI i)) := by rw [hσ8]; exact rdU_I hd9.1
          have hf8 : ∀ b9, b9 < fo + 1 ∨ fo + 1 + 3 < b9 → σ8 b9 = σ9 b9 := fun b9 hb9 => by rw [hσ8]; exact rdU_o hb9
          have hG8 := gm_eq (σ1 := σ8) (fun a9 h1 h2 _ => hf8 a9 (by omega)) hG9
          have hsb8 : σ8 b = bdA w h := (hf8 b (by omega)).trans hsb9
          have hS8 : (∃ d, ((∀ k, 6 ≤ k → d.2.2.2 k = 0) ∧ ∀ k, 8 ≤ k → d.2.2.1 k = 0) ∧ rdD K L σ8 (fo + 5) d) ∧ (∃ d, ((∀ k, 6 ≤ k → d.2.2.2 k = 0) ∧ ∀ k, 8 ≤ k → d.2.2.1 k = 0) ∧ rdD K L σ8 (fo + 1) d) ∧ ∀ b9, b9 < fo + 1 ∨ fo + 8 < b9 → σ8 b9 = σ b9 := ⟨hla9.imp fun d h9 => ⟨h9.1, rdD_eq (fun b9 h1 h2 => hf8 b9 (by omega)) h9.2⟩, ⟨_, ⟨psS_6, wvU_t (wC_ok _ _ _).1⟩, rdI_D hri8⟩, fun b9 hb9 => (hf8 b9 (by omega)).trans (hf9 b9 hb9)⟩
          refine g_iload (n := 98) hC rfl dX1_leastValue_96 ?_
          refine g_iconst (n := 99) (v := (nI 1)) hC (by decide) dX1_leastValue_98 ?_
          refine g_icmp_leN (n := 102) (tgt := 116) hC (by decide) (by decide) dX1_leastValue_99 (fun h9 => absurd h9 (by decide)) (fun _ => ?_)
          refine g_aload (n := 104) hC rfl dX1_leastValue_102 ?_
          refine g_aload_n (n := 105) hC rfl dX1_leastValue_104 ?_
          refine g_getf (n := 108) (v := .int (nI pl)) hC gf_X1_48 (m0) (hG8.2.1) rfl dX1_leastValue_105 ?_
          refine g_iconst (n := 109) (v := (nI 1)) hC (by decide) dX1_leastValue_108 ?_
          refine g_iaddN (n := 110) hC dX1_leastValue_109 ?_
          refine g_cV (n := 113) hC gv_X1_51 (hri8.1.1) (hri8.2.1) (X_ends K hri8 hn49 (k := pl + 1) (by omega)) dX1_leastValue_110 ?_
          refine g_ifb_eq (n := 116) (tgt := 120) hC dX1_leastValue_113 (fun h113 => ?_) (fun h113 => ?_)
          ·
            have hov : ¬ ovF (plU w h ru f (bnO bo0 bo1) 0 ch (chI i)) (w * h) := fun q9 => h113 ((ov_plV hn49 hch (chI_ok hi0) hf153 hp60).mp q9)
            refine g_iconst (n := 121) (v := (nI 0)) hC (by decide) dX1_leastValue_120 ?_
            refine g_istore (n := 123) (ll1 := [some (.ref fo), some (.ref g), some (.ref q), some (.int (nI 0)), some (.int ch), some (.int (nI 2)), some (.ref (fo + 1)), some (.int (nI (stK ru (ldF f (w * h) bo0 bo1)))), some (.int (frX w h ru (bnO bo0 bo1) 0 f ch i)), some (.int (chI i)), some (.int ch), some (.int (chI i)), some (.int (nI 0)), none, none]) hC dX1_leastValue_121 rfl ?_
            refine g_aload_n (n := 124) hC rfl dX1_leastValue_123 ?_
            refine g_aload (n := 126) hC rfl dX1_leastValue_124 ?_
            refine g_getf (n := 129) (v := .ref (fo + 1 + 1)) hC gf_X1_54 (hri8.1.1) (hri8.2.1) rfl dX1_leastValue_126 ?_
            refine g_cV (n := 132) hC gv_X1_58 (m0) (hG8.2.1) (X_lead K hG8 hsb8 hw1 hw2 hh1 hh2 hP hri8.1.2.1 hri8.1.2.2.1 hri8.2.2.1 hri8.2.2.2.1) dX1_leastValue_129 ?_
            refine G.eqi ld_eq ?_
            refine g_istore (n := 134) (ll1 := [some (.ref fo), some (.ref g), some (.ref q), some (.int (nI 0)), some (.int ch), some (.int (nI 2)), some (.ref (fo + 1)), some (.int (nI (stK ru (ldF f (w * h) bo0 bo1)))), some (.int (frX w h ru (bnO bo0 bo1) 0 f ch i)), some (.int (chI i)), some (.int ch), some (.int (chI i)), some (.int (nI 0)), some (.int (scF (plV w h ru f (bnO bo0 bo1) (ch) (chI i)) (bnO bo0 bo1) (w * h) 0 - scF (plV w h ru f (bnO bo0 bo1) (ch) (chI i)) (bnO bo0 bo1) (w * h) 1)), none]) hC dX1_leastValue_132 rfl ?_
            refine g_iload_n (n := 135) hC rfl dX1_leastValue_134 ?_
            refine g_if_ne (n := 138) (tgt := 143) hC dX1_leastValue_135 (fun h9 => absurd h9 (by decide)) (fun _ => ?_)
            refine g_iload (n := 140) hC rfl dX1_leastValue_138 ?_
            refine g_goto (n := 146) hC dX1_leastValue_140 ?_
            refine G.eqi (show _ = ovl (bnO bo0 bo1) (w * h) 0 (plV w h ru f (bnO bo0 bo1) (ch) (chI i)) from rfl) ?_
            refine g_istore (n := 148) (ll1 := [some (.ref fo), some (.ref g), some (.ref q), some (.int (nI 0)), some (.int ch), some (.int (nI 2)), some (.ref (fo + 1)), some (.int (nI (stK ru (ldF f (w * h) bo0 bo1)))), some (.int (frX w h ru (bnO bo0 bo1) 0 f ch i)), some (.int (chI i)), some (.int ch), some (.int (chI i)), some (.int (nI 0)), some (.int (scF (plV w h ru f (bnO bo0 bo1) (ch) (chI i)) (bnO bo0 bo1) (w * h) 0 - scF (plV w h ru f (bnO bo0 bo1) (ch) (chI i)) (bnO bo0 bo1) (w * h) 1)), some (.int (ovl (bnO bo0 bo1) (w * h) 0 (plV w h ru f (bnO bo0 bo1) (ch) (chI i))))]) hC dX1_leastValue_146 rfl ?_
            refine g_iload (n := 150) hC rfl dX1_leastValue_148 ?_
            refine g_iload (n := 152) hC rfl dX1_leastValue_150 ?_
            refine g_if_eq (n := 155) (tgt := 160) hC dX1_leastValue_152 (fun _ => ?_) (fun h9 => absurd h9 (by decide))
            refine g_aload_n (n := 161) hC rfl dX1_leastValue_160 ?_
            refine g_aload_n (n := 162) hC rfl dX1_leastValue_161 ?_
            refine g_aload (n := 164) hC rfl dX1_leastValue_162 ?_
            refine g_getf (n := 167) (v := .ref (fo + 1 + 1)) hC gf_X1_54 (hri8.1.1) (hri8.2.1) rfl dX1_leastValue_164 ?_
            refine g_iload_n (n := 168) hC rfl dX1_leastValue_167 ?_
            refine g_iload (n := 170) hC rfl dX1_leastValue_168 ?_
            refine g_iconst (n := 171) (v := (nI 1)) hC (by decide) dX1_leastValue_170 ?_
            refine g_isubN (n := 172) hC (by omega) dX1_leastValue_171 ?_
            refine g_callV hC gv_X1_61 (X_greatest_0 K hG8 hsb8 hw1 hw2 hh1 hh2 hP hri8.1.2.1 hri8.1.2.2.1 hri8.2.2.1 hri8.2.2.2.1 mF ((hf8 _ (by omega)).trans sF9) hgf hru (mm8 := mm8 + 392) (by omega) (cp_plV hn49 hch (chI_ok hi0) hcb) hbb hS8.1 (by omega) hbf) mF ((hf8 _ (by omega)).trans sF9) (by rfl) (by decide) (by decide) (by rfl) (by rfl) (Nat.le_of_ble_eq_true rfl) (by exact ⟨Nat.le_refl _, Nat.le_refl _⟩) dX1_leastValue_172 (fun rv9 z9 L9 σ7 hp9 => ?_)
            obtain ⟨hr9, hz9, hL9, hla7, hf7⟩ := hp9
            rw [hr9, hz9, hL9]
            have hS7 : (∃ d, ((∀ k, 6 ≤ k → d.2.2.2 k = 0) ∧ ∀ k, 8 ≤ k → d.2.2.1 k = 0) ∧ rdD K L σ7 (fo + 5) d) ∧ (∃ d, ((∀ k, 6 ≤ k → d.2.2.2 k = 0) ∧ ∀ k, 8 ≤ k → d.2.2.1 k = 0) ∧ rdD K L σ7 (fo + 1) d) ∧ ∀ b9, b9 < fo + 1 ∨ fo + 8 < b9 → σ7 b9 = σ b9 := ⟨hla7, hS8.2.1.imp fun d h9 => ⟨h9.1, rdD_eq (fun b9 h1 h2 => hf7 b9 (by omega)) h9.2⟩, fun b9 hb9 => (hf7 b9 (by omega)).trans (hS8.2.2 b9 hb9)⟩
            show G K Γ (z, 0, 0, L) (σ7) 175 [some (.ref fo), some (.ref g), some (.ref q), some (.int (nI 0)), some (.int ch), some (.int (nI 2)), some (.ref (fo + 1)), some (.int (nI (stK ru (ldF f (w * h) bo0 bo1)))), some (.int (frX w h ru (bnO bo0 bo1) 0 f ch i)), some (.int (chI i)), some (.int ch), some (.int (chI i)), some (.int (nI 0)), some (.int (scF (plV w h ru f (bnO bo0 bo1) (ch) (chI i)) (bnO bo0 bo1) (w * h) 0 - scF (plV w h ru f (bnO bo0 bo1) (ch) (chI i)) (bnO bo0 bo1) (w * h) 1)), some (.int (ovl (bnO bo0 bo1) (w * h) 0 (plV w h ru f (bnO bo0 bo1) (ch) (chI i))))] [.int (bnF w h ru (bnO bo0 bo1) 0 (plV w h ru f (bnO bo0 bo1) (ch) (chI i)) (w * h + 1)), .int (frX w h ru (bnO bo0 bo1) 0 f ch i)]
            refine g_mmin (n := 178) hC (by exact gmem (i := 854) (by decide +kernel) (by decide +kernel)) dX1_leastValue_175 ?_
            refine G.eqi (show _ = frX w h ru (bnO bo0 bo1) 0 f ch (i + 1) from (show _ = mnI (frV w h ru (bnO bo0 bo1) 0 (plU w h ru f (bnO bo0 bo1) 0 ch (chI i))) (frX w h ru (bnO bo0 bo1) 0 f ch i) from by rw [frV, if_neg hov]; rfl).trans (fol_y h51).symm) ?_
            refine g_istore (n := 180) (ll1 := [some (.ref fo), some (.ref g), some (.ref q), some (.int (nI 0)), some (.int ch), some (.int (nI 2)), some (.ref (fo + 1)), some (.int (nI (stK ru (ldF f (w * h) bo0 bo1)))), some (.int (frX w h ru (bnO bo0 bo1) 0 f ch (i + 1))), some (.int (chI i)), some (.int ch), some (.int (chI i)), some (.int (nI 0)), some (.int (scF (plV w h ru f (bnO bo0 bo1) (ch) (chI i)) (bnO bo0 bo1) (w * h) 0 - scF (plV w h ru f (bnO bo0 bo1) (ch) (chI i)) (bnO bo0 bo1) (w * h) 1)), some (.int (ovl (bnO bo0 bo1) (w * h) 0 (plV w h ru f (bnO bo0 bo1) (ch) (chI i))))]) hC dX1_leastValue_178 rfl ?_
            refine g_iinc (n := 183) (ll1 := [some (.ref fo), some (.ref g), some (.ref q), some (.int (nI 0)), some (.int ch), some (.int (nI 2)), some (.ref (fo + 1)), some (.int (nI (stK ru (ldF f (w * h) bo0 bo1)))), some (.int (frX w h ru (bnO bo0 bo1) 0 f ch (i + 1))), some (.int ((chI i) + Int32.ofInt (1))), some (.int ch), some (.int (chI i)), some (.int (nI 0)), some (.int (scF (plV w h ru f (bnO bo0 bo1) (ch) (chI i)) (bnO bo0 bo1) (w * h) 0 - scF (plV w h ru f (bnO bo0 bo1) (ch) (chI i)) (bnO bo0 bo1) (w * h) 1)), some (.int (ovl (bnO bo0 bo1) (w * h) 0 (plV w h ru f (bnO bo0 bo1) (ch) (chI i))))]) hC dX1_leastValue_180 rfl (rfl) rfl ?_
            refine g_goto (n := 33) hC dX1_leastValue_183 ?_
            exact G.le (ih33 (i + 1) σ7 (by omega) (by first | exact hS8 | exact hS7 | exact hS9 | exact ⟨hla, hna, fun b9 _ => rfl⟩) _ (rfl) _ (chI_inc _) (by omega)) (And.intro rfl (And.intro rfl (And.intro rfl (And.intro rfl (And.intro rfl (And.intro rfl (And.intro rfl (And.intro rfl (And.intro rfl (And.intro rfl (trivial)))))))))))
          ·
            have hov : ovF (plU w h ru f (bnO bo0 bo1) 0 ch (chI i)) (w * h) := (ov_plV hn49 hch (chI_ok hi0) hf153 hp60).mpr h113
            refine g_iconst (n := 117) (v := (nI 1)) hC (by decide) dX1_leastValue_116 ?_
            refine g_goto (n := 121) hC dX1_leastValue_117 ?_
            refine g_istore (n := 123) (ll1 := [some (.ref fo), some (.ref g), some (.ref q), some (.int (nI 0)), some (.int ch), some (.int (nI 2)), some (.ref (fo + 1)), some (.int (nI (stK ru (ldF f (w * h) bo0 bo1)))), some (.int (frX w h ru (bnO bo0 bo1) 0 f ch i)), some (.int (chI i)), some (.int ch), some (.int (chI i)), some (.int (nI 1)), none, none]) hC dX1_leastValue_121 rfl ?_
            refine g_aload_n (n := 124) hC rfl dX1_leastValue_123 ?_
            refine g_aload (n := 126) hC rfl dX1_leastValue_124 ?_
            refine g_getf (n := 129) (v := .ref (fo + 1 + 1)) hC gf_X1_54 (hri8.1.1) (hri8.2.1) rfl dX1_leastValue_126 ?_
            refine g_cV (n := 132) hC gv_X1_58 (m0) (hG8.2.1) (X_lead K hG8 hsb8 hw1 hw2 hh1 hh2 hP hri8.1.2.1 hri8.1.2.2.1 hri8.2.2.1 hri8.2.2.2.1) dX1_leastValue_129 ?_
            refine G.eqi ld_eq ?_
            refine g_istore (n := 134) (ll1 := [some (.ref fo), some (.ref g), some (.ref q), some (.int (nI 0)), some (.int ch), some (.int (nI 2)), some (.ref (fo + 1)), some (.int (nI (stK ru (ldF f (w * h) bo0 bo1)))), some (.int (frX w h ru (bnO bo0 bo1) 0 f ch i)), some (.int (chI i)), some (.int ch), some (.int (chI i)), some (.int (nI 1)), some (.int (scF (plV w h ru f (bnO bo0 bo1) (ch) (chI i)) (bnO bo0 bo1) (w * h) 0 - scF (plV w h ru f (bnO bo0 bo1) (ch) (chI i)) (bnO bo0 bo1) (w * h) 1)), none]) hC dX1_leastValue_132 rfl ?_
            refine g_iload_n (n := 135) hC rfl dX1_leastValue_134 ?_
            refine g_if_ne (n := 138) (tgt := 143) hC dX1_leastValue_135 (fun h9 => absurd h9 (by decide)) (fun _ => ?_)
            refine g_iload (n := 140) hC rfl dX1_leastValue_138 ?_
            refine g_goto (n := 146) hC dX1_leastValue_140 ?_
            refine G.eqi (show _ = ovl (bnO bo0 bo1) (w * h) 0 (plV w h ru f (bnO bo0 bo1) (ch) (chI i)) from rfl) ?_
            refine g_istore (n := 148) (ll1 := [some (.ref fo), some (.ref g), some (.ref q), some (.int (nI 0)), some (.int ch), some (.int (nI 2)), some (.ref (fo + 1)), some (.int (nI (stK ru (ldF f (w * h) bo0 bo1)))), some (.int (frX w h ru (bnO bo0 bo1) 0 f ch i)), some (.int (chI i)), some (.int ch), some (.int (chI i)), some (.int (nI 1)), some (.int (scF (plV w h ru f (bnO bo0 bo1) (ch) (chI i)) (bnO bo0 bo1) (w * h) 0 - scF (plV w h ru f (bnO bo0 bo1) (ch) (chI i)) (bnO bo0 bo1) (w * h) 1)), some (.int (ovl (bnO bo0 bo1) (w * h) 0 (plV w h ru f (bnO bo0 bo1) (ch) (chI i))))]) hC dX1_leastValue_146 rfl ?_
            refine g_iload (n := 150) hC rfl dX1_leastValue_148 ?_
            refine g_iload (n := 152) hC rfl dX1_leastValue_150 ?_
            refine g_if_eq (n := 155) (tgt := 160) hC dX1_leastValue_152 (fun h9 => absurd h9 (by decide)) (fun _ => ?_)
            refine g_iload (n := 157) hC rfl dX1_leastValue_155 ?_
            refine g_goto (n := 175) hC dX1_leastValue_157 ?_
            refine g_mmin (n := 178) hC (by exact gmem (i := 854) (by decide +kernel) (by decide +kernel)) dX1_leastValue_175 ?_
            refine G.eqi (show _ = frX w h ru (bnO bo0 bo1) 0 f ch (i + 1) from (show _ = mnI (frV w h ru (bnO bo0 bo1) 0 (plU w h ru f (bnO bo0 bo1) 0 ch (chI i))) (frX w h ru (bnO bo0 bo1) 0 f ch i) from by rw [frV, if_pos hov]; rfl).trans (fol_y h51).symm) ?_
            refine g_istore (n := 180) (ll1 := [some (.ref fo), some (.ref g), some (.ref q), some (.int (nI 0)), some (.int ch), some (.int (nI 2)), some (.ref (fo + 1)), some (.int (nI (stK ru (ldF f (w * h) bo0 bo1)))), some (.int (frX w h ru (bnO bo0 bo1) 0 f ch (i + 1))), some (.int (chI i)), some (.int ch), some (.int (chI i)), some (.int (nI 1)), some (.int (scF (plV w h ru f (bnO bo0 bo1) (ch) (chI i)) (bnO bo0 bo1) (w * h) 0 - scF (plV w h ru f (bnO bo0 bo1) (ch) (chI i)) (bnO bo0 bo1) (w * h) 1)), some (.int (ovl (bnO bo0 bo1) (w * h) 0 (plV w h ru f (bnO bo0 bo1) (ch) (chI i))))]) hC dX1_leastValue_178 rfl ?_
            refine g_iinc (n := 183) (ll1 := [some (.ref fo), some (.ref g), some (.ref q), some (.int (nI 0)), some (.int ch), some (.int (nI 2)), some (.ref (fo + 1)), some (.int (nI (stK ru (ldF f (w * h) bo0 bo1)))), some (.int (frX w h ru (bnO bo0 bo1) 0 f ch (i + 1))), some (.int ((chI i) + Int32.ofInt (1))), some (.int ch), some (.int (chI i)), some (.int (nI 1)), some (.int (scF (plV w h ru f (bnO bo0 bo1) (ch) (chI i)) (bnO bo0 bo1) (w * h) 0 - scF (plV w h ru f (bnO bo0 bo1) (ch) (chI i)) (bnO bo0 bo1) (w * h) 1)), some (.int (ovl (bnO bo0 bo1) (w * h) 0 (plV w h ru f (bnO bo0 bo1) (ch) (chI i))))]) hC dX1_leastValue_180 rfl (rfl) rfl ?_
            refine g_goto (n := 33) hC dX1_leastValue_183 ?_
            exact G.le (ih33 (i + 1) σ8 (by omega) (by first | exact hS8 | exact hS7 | exact hS9 | exact ⟨hla, hna, fun b9 _ => rfl⟩) _ (rfl) _ (chI_inc _) (by omega)) (And.intro rfl (And.intro rfl (And.intro rfl (And.intro rfl (And.intro rfl (And.intro rfl (And.intro rfl (And.intro rfl (And.intro rfl (And.intro rfl (trivial)))))))))))
  exact lp33 _ 0 σ (by omega) (by first | exact hS8 | exact hS7 | exact hS9 | exact ⟨hla, hna, fun b9 _ => rfl⟩) _ (rfl) _ (rfl) (Nat.lt_succ_self _)

set_option maxRecDepth 20000 in
set_option maxHeartbeats 4000000 in
theorem X_least2_1 (K : GK) {σ : GS} {L : List Nat} {z : Nat} {g b : Nat} {w h : Nat} {ru : Int32} {pl : Nat} {bo0 bo1 : Int32} {D : Nat → RD} {rows : Nat → Nat → Int32} (hG : gmI K L σ g b ru pl bo0 bo1 D) (hsb : σ b = bdA w h) (hw1 : 4 ≤ w) (hw2 : w ≤ 7) (hh1 : 4 ≤ h) (hh2 : h ≤ 7) (hP : gmP (w * h) pl D rows) {q : Nat} {f : Nat → Int32} (hqL : q ∈ L) (hqL1 : q + 1 ∈ L) (tq : σ q = psO q f) (tq1 : σ (q + 1) = lA K 6 (psS (w * h) f)) {fo : Nat} (mF : fo ∈ L) (sF : σ fo = .inr (1, [.ref (fo + 1), .ref (fo + 5)])) (hgf : g + 245 ≤ fo) (hru : ∃ r0, r0 ≤ 2 ∧ ru = nI r0) {mm8 : Nat} (hmm8 : mm8 ≤ 80000) (hcb : cpB f mm8) (hbb : bnB (bnO bo0 bo1)) (hla : ∃ d, ((∀ k, 6 ≤ k → d.2.2.2 k = 0) ∧ ∀ k, 8 ≤ k → d.2.2.1 k = 0) ∧ rdD K L σ (fo + 5) d) (hna : ∃ d, ((∀ k, 6 ≤ k → d.2.2.2 k = 0) ∧ ∀ k, 8 ≤ k → d.2.2.1 k = 0) ∧ rdD K L σ (fo + 1) d) (hqf : q + 1 < fo + 1) (hbf : b < fo + 1 ∨ fo + 8 < b) (hm2 : mm8 ≤ 79000) (hp60 : pl < 60) (hf153 : f 153 = nI pl) {ch : Int32} (hch : chOK (w * h) ch) : gM K yX1_leastValue cX1_leastValue 15 (some .int) 8 0 0 [.ref fo, .ref g, .ref q, .int (nI 1), .int ch, .int (nI 2)] z L (σ) (fun r z1 L1 σ2 => r = some (.int (frF w h ru (bnO bo0 bo1) 1 f ch (w * h + 1))) ∧ z1 = z ∧ L1 = L ∧ (∃ d, ((∀ k, 6 ≤ k → d.2.2.2 k = 0) ∧ ∀ k, 8 ≤ k → d.2.2.1 k = 0) ∧ rdD K L σ2 (fo + 5) d) ∧ (∃ d, ((∀ k, 6 ≤ k → d.2.2.2 k = 0) ∧ ∀ k, 8 ≤ k → d.2.2.1 k = 0) ∧ rdD K L σ2 (fo + 1) d) ∧ ∀ b9, b9 < fo + 1 ∨ fo + 8 < b9 → σ2 b9 = σ b9) := by
  have hn : w * h ≤ 49 := Nat.mul_le_mul hw2 hh2
  have hn1 : 16 ≤ w * h := Nat.mul_le_mul hw1 hh1
  have hn49 : w * h ≤ 49 := hn
  obtain ⟨m0, m2, m3, m4, hbL⟩ := hG.1
  have s0 := hG.2.1
  have s2 := hG.2.2.1
  have hpl := hP.1
  have hlat := gm_lat hG hP
  have hld := ld_ok hn49 (show mm8 ≤ 100000 by omega) hcb hbb
  refine g_intro [some (.ref fo), some (.ref g), some (.ref q), some (.int (nI 1)), some (.int ch), some (.int (nI 2)), none, none, none, none, none, none, none, none, none] (fun Γ hC => ?_) (by simp [g_en, lv_args, Value.category])
  refine g_iload (n := 2) hC rfl dX1_leastValue_0 ?_
  refine g_iconst (n := 3) (v := (nI 1)) hC (by decide) dX1_leastValue_2 ?_
  refine g_icmp_leN (n := 6) (tgt := 13) hC (by decide) (by decide) dX1_leastValue_3 (fun h9 => absurd h9 (by decide)) (fun _ => ?_)
  refine g_aload_n (n := 7) hC rfl dX1_leastValue_6 ?_
  refine g_getf (n := 10) (v := .ref (fo + 1)) hC gf_X1_12 (mF) (sF) rfl dX1_leastValue_7 ?_
  refine g_goto (n := 17) hC dX1_leastValue_10 ?_
  refine g_astore (n := 19) (ll1 := [some (.ref fo), some (.ref g), some (.ref q), some (.int (nI 1)), some (.int ch), some (.int (nI 2)), some (.ref (fo + 1)), none, none, none, none, none, none, none, none]) hC dX1_leastValue_17 rfl ?_
  refine g_aload_n (n := 20) hC rfl dX1_leastValue_19 ?_
  refine g_aload_n (n := 21) hC rfl dX1_leastValue_20 ?_
  refine g_cV (n := 24) hC gv_X1_21 (m0) (s0) (X_stateAfter K hG hsb hw1 hw2 hh1 hh2 hP hqL hqL1 tq tq1) dX1_leastValue_21 ?_
  refine g_istore (n := 26) (ll1 := [some (.ref fo), some (.ref g), some (.ref q), some (.int (nI 1)), some (.int ch), some (.int (nI 2)), some (.ref (fo + 1)), some (.int (nI (stK ru (ldF f (w * h) bo0 bo1)))), none, none, none, none, none, none, none]) hC dX1_leastValue_24 rfl ?_
  refine g_ldc (n := 28) hC gc_X1_27 dX1_leastValue_26 ?_
  refine g_istore (n := 30) (ll1 := [some (.ref fo), some (.ref g), some (.ref q), some (.int (nI 1)), some (.int ch), some (.int (nI 2)), some (.ref (fo + 1)), some (.int (nI (stK ru (ldF f (w * h) bo0 bo1)))), some (.int (1000000)), none, none, none, none, none, none]) hC dX1_leastValue_28 rfl ?_
  refine g_iconst (n := 31) (v := (-1)) hC (by decide) dX1_leastValue_30 ?_
  refine g_istore (n := 33) (ll1 := [some (.ref fo), some (.ref g), some (.ref q), some (.int (nI 1)), some (.int ch), some (.int (nI 2)), some (.ref (fo + 1)), some (.int (nI (stK ru (ldF f (w * h) bo0 bo1)))), some (.int (1000000)), some (.int (-1)), none, none, none, none, none]) hC dX1_leastValue_31 rfl ?_
  have lp33 : ∀ (n9 : Nat) (i : Nat) (σ9 : GS) (hi : i ≤ w * h + 1) (hS9 : (∃ d, ((∀ k, 6 ≤ k → d.2.2.2 k = 0) ∧ ∀ k, 8 ≤ k → d.2.2.1 k = 0) ∧ rdD K L σ9 (fo + 5) d) ∧ (∃ d, ((∀ k, 6 ≤ k → d.2.2.2 k = 0) ∧ ∀ k, 8 ≤ k → d.2.2.1 k = 0) ∧ rdD K L σ9 (fo + 1) d) ∧ ∀ b9, b9 < fo + 1 ∨ fo + 8 < b9 → σ9 b9 = σ b9) (y8 : Int32) (ey8 : y8 = (frX w h ru (bnO bo0 bo1) 1 f ch i)) (y9 : Int32) (ey9 : y9 = (chI i)) (hm9 : w * h + 1 - i < n9), G K Γ (z, 0, 0, L) (σ9) 33 [some (.ref fo), some (.ref g), some (.ref q), some (.int (nI 1)), some (.int ch), some (.int (nI 2)), some (.ref (fo + 1)), some (.int (nI (stK ru (ldF f (w * h) bo0 bo1)))), some (.int y8), some (.int y9), none, none, none, none, none] [] := by
    intro n9
    induction n9 with
    | zero =>
      intro i σ9 hi hS9 y8 ey8 y9 ey9 hm9
      exact absurd hm9 (Nat.not_lt_zero _)
    | succ n9 ih33 =>
      intro i σ9 hi hS9 y8 ey8 y9 ey9 hm9
      subst ey8
      subst ey9
      have hS9c := hS9
      obtain ⟨hla9, ⟨d9, hT9, hd9⟩, hf9⟩ := hS9c
      have hG9 := gm_eq (σ1 := σ9) (fun a9 h1 h2 _ => hf9 a9 (by omega)) hG
      have hsb9 : σ9 b = bdA w h := (hf9 b (by omega)).trans hsb
      have tq9 : σ9 q = psO q f := (hf9 q (by omega)).trans tq
      have tq19 : σ9 (q + 1) = lA K 6 (psS (w * h) f) := (hf9 (q + 1) (by omega)).trans tq1
      have sF9 := (hf9 fo (by omega)).trans sF
      refine g_iload (n := 35) hC rfl dX1_leastValue_33 ?_
      refine g_aload_n (n := 36) hC rfl dX1_leastValue_35 ?_
      refine g_getf (n := 39) (v := .ref b) hC gf_X1_28 (m0) (hG9.2.1) rfl dX1_leastValue_36 ?_
      refine g_getf (n := 42) (v := .int (nI (w * h))) hC gf_X1_32 (hbL) (hsb9) rfl dX1_leastValue_39 ?_
      refine g_icmp_ge (n := 45) (tgt := 186) hC dX1_leastValue_42 (fun h42 => ?_) (fun h42 => ?_)
      ·
        refine g_iload (n := 188) hC rfl dX1_leastValue_186 ?_
        exact g_iret hC dX1_leastValue_188 (⟨rI (by rw [(chI_ge (n := w * h) (by omega) hi).mp h42]; exact (frX_eq hn49 hmm8 hch hcb hbb (by omega)).1), rfl, rfl, hS9⟩)
      ·
        refine g_aload_n (n := 46) hC rfl dX1_leastValue_45 ?_
        refine g_iload (n := 48) hC rfl dX1_leastValue_46 ?_
        have hi0 : i ≤ w * h := by
          by_cases e9 : i = w * h + 1
          · exact absurd ((chI_ge (n := w * h) (by omega) hi).mpr e9) h42
          · omega
        refine g_cV (n := 51) hC gv_X1_38 (hqL) (tq9) (X_admits K hqL hqL1 tq9 tq19 hn49 (x := chI i) (chI_ok hi0)) dX1_leastValue_48 ?_
        refine g_ifb_eq (n := 54) (tgt := 180) hC dX1_leastValue_51 (fun h51 => ?_) (fun h51 => ?_)
        ·
          have hnx := fol_n (op := mnI) (v := (fun i => frV w h ru (bnO bo0 bo1) 1 (plU w h ru f (bnO bo0 bo1) 1 ch (chI i)))) (z := 1000000) h51
          refine g_iinc (n := 183) (ll1 := [some (.ref fo), some (.ref g), some (.ref q), some (.int (nI 1)), some (.int ch), some (.int (nI 2)), some (.ref (fo + 1)), some (.int (nI (stK ru (ldF f (w * h) bo0 bo1)))), some (.int (frX w h ru (bnO bo0 bo1) 1 f ch i)), some (.int ((chI i) + Int32.ofInt (1))), none, none, none, none, none]) hC dX1_leastValue_180 rfl (rfl) rfl ?_
          refine g_goto (n := 33) hC dX1_leastValue_183 ?_
          exact ih33 (i + 1) σ9 (by omega) (by first | exact hS8 | exact hS7 | exact hS9 | exact ⟨hla, hna, fun b9 _ => rfl⟩) _ (hnx.symm) _ (chI_inc _) (by omega)
        ·
          refine g_iload_n (n := 55) hC rfl dX1_leastValue_54 ?_
          refine g_if_ne (n := 58) (tgt := 63) hC dX1_leastValue_55 (fun _ => ?_) (fun h9 => absurd h9 (by decide))
          refine g_iload (n := 65) hC rfl dX1_leastValue_63 ?_
          refine g_istore (n := 67) (ll1 := [some (.ref fo), some (.ref g), some (.ref q), some (.int (nI 1)), some (.int ch), some (.int (nI 2)), some (.ref (fo + 1)), some (.int (nI (stK ru (ldF f (w * h) bo0 bo1)))), some (.int (frX w h ru (bnO bo0 bo1) 1 f ch i)), some (.int (chI i)), some (.int (chI i)), none, none, none, none]) hC dX1_leastValue_65 rfl ?_
          refine g_iload_n (n := 68) hC rfl dX1_leastValue_67 ?_
          refine g_if_ne (n := 71) (tgt := 76) hC dX1_leastValue_68 (fun _ => ?_) (fun h9 => absurd h9 (by decide))
          refine g_iload (n := 78) hC rfl dX1_leastValue_76 ?_
          refine g_istore (n := 80) (ll1 := [some (.ref fo), some (.ref g), some (.ref q), some (.int (nI 1)), some (.int ch), some (.int (nI 2)), some (.ref (fo + 1)), some (.int (nI (stK ru (ldF f (w * h) bo0 bo1)))), some (.int (frX w h ru (bnO bo0 bo1) 1 f ch i)), some (.int (chI i)), some (.int (chI i)), some (.int ch), none, none, none]) hC dX1_leastValue_78 rfl ?_
          refine g_aload (n := 82) hC rfl dX1_leastValue_80 ?_
          refine g_aload_n (n := 83) hC rfl dX1_leastValue_82 ?_
          refine g_getf (n := 86) (v := .ref b) hC gf_X1_28 (m0) (hG9.2.1) rfl dX1_leastValue_83 ?_
          refine g_aload_n (n := 87) hC rfl dX1_leastValue_86 ?_
          refine g_iload (n := 89) hC rfl dX1_leastValue_87 ?_
          refine g_iload (n := 91) hC rfl dX1_leastValue_89 ?_
          refine g_iload (n := 93) hC rfl dX1_leastValue_91 ?_
          refine g_cVv (n := 96) hC gv_X1_44 (hd9.1.1) (hd9.2.1) (X_make K hbL hsb9 hw1 hw2 hh1 hh2 hd9.1 hd9.2.1 hd9.2.2.1 hd9.2.2.2.1 hd9.2.2.2.2 hT9.1 hT9.2 hqL hqL1 tq9 tq19 (by omega) (by omega) (x := chI i) (y := ch) (s := (stK ru (ldF f (w * h) bo0 bo1))) (chI_ok hi0) hch stK_le (F := (plM ru (w * h) f (bnO bo0 bo1) (chI i) (ch))) (fun i hi => mkF_plM hn49 hld (chI_ok hi0) hch hru hi) (plM_hi hn49 (chI_ok hi0) hch (by omega) (by omega)).symm (plM_hi hn49 (chI_ok hi0) hch (by omega) (by omega)).symm (W := (goW w h ru f (bnO bo0 bo1) (chI i) (ch))) (wC_ok _ _ _)) dX1_leastValue_93 ?_
          refine G.eqs (show _ = rdU K σ9 (fo + 1) (w * h) (ccF (chI i) (ch) d9.1) (mkX (chI i) (ch) (stK ru (ldF f (w * h) bo0 bo1))) (wvU w h (plM ru (w * h) f (bnO bo0 bo1) (chI i) (ch)) (goW w h ru f (bnO bo0 bo1) (chI i) (ch))) (plV w h ru f (bnO bo0 bo1) (chI i) (ch)) from rdU_cong (fun i hi => (plV_lo hn49 (by omega)).symm) (plV_lo hn49 (by omega)).symm (plV_lo hn49 (by omega)).symm) ?_
          obtain ⟨σ8, hσ8⟩ : ∃ q9, q9 = rdU K σ9 (fo + 1) (w * h) (ccF (chI i) (ch) d9.1) (mkX (chI i) (ch) (stK ru (ldF f (w * h) bo0 bo1))) (wvU w h (plM ru (w * h) f (bnO bo0 bo1) (chI i) (ch)) (goW w h ru f (bnO bo0 bo1) (chI i) (ch))) (plV w h ru f (bnO bo0 bo1) (chI i) (ch)) := ⟨_, rfl⟩
          refine G.eqs hσ8.symm ?_
          have hri8 : rdI K L σ8 (fo + 1) (w * h) (ccF (chI i) (ch) d9.1) (mkX (chI i) (ch) (stK ru (ldF f (w * h) bo0 bo1))) (wvU w h (plM ru (w * h) f (bnO bo0 bo1) (chI i) (ch)) (goW w h ru f (bnO bo0 bo1) (chI i) (ch))) (plV w h ru f (bnO bo0 bo1) (chI i) (ch)) := by rw [hσ8]; exact rdU_I hd9.1
          have hf8 : ∀ b9, b9 < fo + 1 ∨ fo + 1 + 3 < b9 → σ8 b9 = σ9 b9 := fun b9 hb9 => by rw [hσ8]; exact rdU_o hb9
          have hG8 := gm_eq (σ1 := σ8) (fun a9 h1 h2 _ => hf8 a9 (by omega)) hG9
          have hsb8 : σ8 b = bdA w h := (hf8 b (by omega)).trans hsb9
          have hS8 : (∃ d, ((∀ k, 6 ≤ k → d.2.2.2 k = 0) ∧ ∀ k, 8 ≤ k → d.2.2.1 k = 0) ∧ rdD K L σ8 (fo + 5) d) ∧ (∃ d, ((∀ k, 6 ≤ k → d.2.2.2 k = 0) ∧ ∀ k, 8 ≤ k → d.2.2.1 k = 0) ∧ rdD K L σ8 (fo + 1) d) ∧ ∀ b9, b9 < fo + 1 ∨ fo + 8 < b9 → σ8 b9 = σ b9 := ⟨hla9.imp fun d h9 => ⟨h9.1, rdD_eq (fun b9 h1 h2 => hf8 b9 (by omega)) h9.2⟩, ⟨_, ⟨psS_6, wvU_t (wC_ok _ _ _).1⟩, rdI_D hri8⟩, fun b9 hb9 => (hf8 b9 (by omega)).trans (hf9 b9 hb9)⟩
          refine g_iload (n := 98) hC rfl dX1_leastValue_96 ?_
          refine g_iconst (n := 99) (v := (nI 1)) hC (by decide) dX1_leastValue_98 ?_
          refine g_icmp_leN (n := 102) (tgt := 116) hC (by decide) (by decide) dX1_leastValue_99 (fun h9 => absurd h9 (by decide)) (fun _ => ?_)
          refine g_aload (n := 104) hC rfl dX1_leastValue_102 ?_
          refine g_aload_n (n := 105) hC rfl dX1_leastValue_104 ?_
          refine g_getf (n := 108) (v := .int (nI pl)) hC gf_X1_48 (m0) (hG8.2.1) rfl dX1_leastValue_105 ?_
          refine g_iconst (n := 109) (v := (nI 1)) hC (by decide) dX1_leastValue_108 ?_
          refine g_iaddN (n := 110) hC dX1_leastValue_109 ?_
          refine g_cV (n := 113) hC gv_X1_51 (hri8.1.1) (hri8.2.1) (X_ends K hri8 hn49 (k := pl + 1) (by omega)) dX1_leastValue_110 ?_
          refine g_ifb_eq (n := 116) (tgt := 120) hC dX1_leastValue_113 (fun h113 => ?_) (fun h113 => ?_)
          ·
            have hov : ¬ ovF (plU w h ru f (bnO bo0 bo1) 1 ch (chI i)) (w * h) := fun q9 => h113 ((ov_plV hn49 (chI_ok hi0) hch hf153 hp60).mp q9)
            refine g_iconst (n := 121) (v := (nI 0)) hC (by decide) dX1_leastValue_120 ?_
            refine g_istore (n := 123) (ll1 := [some (.ref fo), some (.ref g), some (.ref q), some (.int (nI 1)), some (.int ch), some (.int (nI 2)), some (.ref (fo + 1)), some (.int (nI (stK ru (ldF f (w * h) bo0 bo1)))), some (.int (frX w h ru (bnO bo0 bo1) 1 f ch i)), some (.int (chI i)), some (.int (chI i)), some (.int ch), some (.int (nI 0)), none, none]) hC dX1_leastValue_121 rfl ?_
            refine g_aload_n (n := 124) hC rfl dX1_leastValue_123 ?_
            refine g_aload (n := 126) hC rfl dX1_leastValue_124 ?_
            refine g_getf (n := 129) (v := .ref (fo + 1 + 1)) hC gf_X1_54 (hri8.1.1) (hri8.2.1) rfl dX1_leastValue_126 ?_
            refine g_cV (n := 132) hC gv_X1_58 (m0) (hG8.2.1) (X_lead K hG8 hsb8 hw1 hw2 hh1 hh2 hP hri8.1.2.1 hri8.1.2.2.1 hri8.2.2.1 hri8.2.2.2.1) dX1_leastValue_129 ?_
            refine G.eqi ld_eq ?_
            refine g_istore (n := 134) (ll1 := [some (.ref fo), some (.ref g), some (.ref q), some (.int (nI 1)), some (.int ch), some (.int (nI 2)), some (.ref (fo + 1)), some (.int (nI (stK ru (ldF f (w * h) bo0 bo1)))), some (.int (frX w h ru (bnO bo0 bo1) 1 f ch i)), some (.int (chI i)), some (.int (chI i)), some (.int ch), some (.int (nI 0)), some (.int (scF (plV w h ru f (bnO bo0 bo1) (chI i) (ch)) (bnO bo0 bo1) (w * h) 0 - scF (plV w h ru f (bnO bo0 bo1) (chI i) (ch)) (bnO bo0 bo1) (w * h) 1)), none]) hC dX1_leastValue_132 rfl ?_
            refine g_iload_n (n := 135) hC rfl dX1_leastValue_134 ?_
            refine g_if_ne (n := 138) (tgt := 143) hC dX1_leastValue_135 (fun _ => ?_) (fun h9 => absurd h9 (by decide))
            refine g_iload (n := 145) hC rfl dX1_leastValue_143 ?_
            refine g_ineg (n := 146) hC dX1_leastValue_145 ?_
            refine G.eqi (show _ = ovl (bnO bo0 bo1) (w * h) 1 (plV w h ru f (bnO bo0 bo1) (chI i) (ch)) from Int32.neg_sub) ?_
            refine g_istore (n := 148) (ll1 := [some (.ref fo), some (.ref g), some (.ref q), some (.int (nI 1)), some (.int ch), some (.int (nI 2)), some (.ref (fo + 1)), some (.int (nI (stK ru (ldF f (w * h) bo0 bo1)))), some (.int (frX w h ru (bnO bo0 bo1) 1 f ch i)), some (.int (chI i)), some (.int (chI i)), some (.int ch), some (.int (nI 0)), some (.int (scF (plV w h ru f (bnO bo0 bo1) (chI i) (ch)) (bnO bo0 bo1) (w * h) 0 - scF (plV w h ru f (bnO bo0 bo1) (chI i) (ch)) (bnO bo0 bo1) (w * h) 1)), some (.int (ovl (bnO bo0 bo1) (w * h) 1 (plV w h ru f (bnO bo0 bo1) (chI i) (ch))))]) hC dX1_leastValue_146 rfl ?_
            refine g_iload (n := 150) hC rfl dX1_leastValue_148 ?_
            refine g_iload (n := 152) hC rfl dX1_leastValue_150 ?_
            refine g_if_eq (n := 155) (tgt := 160) hC dX1_leastValue_152 (fun _ => ?_) (fun h9 => absurd h9 (by decide))
            refine g_aload_n (n := 161) hC rfl dX1_leastValue_160 ?_
            refine g_aload_n (n := 162) hC rfl dX1_leastValue_161 ?_
            refine g_aload (n := 164) hC rfl dX1_leastValue_162 ?_
            refine g_getf (n := 167) (v := .ref (fo + 1 + 1)) hC gf_X1_54 (hri8.1.1) (hri8.2.1) rfl dX1_leastValue_164 ?_
            refine g_iload_n (n := 168) hC rfl dX1_leastValue_167 ?_
            refine g_iload (n := 170) hC rfl dX1_leastValue_168 ?_
            refine g_iconst (n := 171) (v := (nI 1)) hC (by decide) dX1_leastValue_170 ?_
            refine g_isubN (n := 172) hC (by omega) dX1_leastValue_171 ?_
            refine g_callV hC gv_X1_61 (X_greatest_1 K hG8 hsb8 hw1 hw2 hh1 hh2 hP hri8.1.2.1 hri8.1.2.2.1 hri8.2.2.1 hri8.2.2.2.1 mF ((hf8 _ (by omega)).trans sF9) hgf hru (mm8 := mm8 + 392) (by omega) (cp_plV hn49 (chI_ok hi0) hch hcb) hbb hS8.1 (by omega) hbf) mF ((hf8 _ (by omega)).trans sF9) (by rfl) (by decide) (by decide) (by rfl) (by rfl) (Nat.le_of_ble_eq_true rfl) (by exact ⟨Nat.le_refl _, Nat.le_refl _⟩) dX1_leastValue_172 (fun rv9 z9 L9 σ7 hp9 => ?_)
            obtain ⟨hr9, hz9, hL9, hla7, hf7⟩ := hp9
            rw [hr9, hz9, hL9]
            have hS7 : (∃ d, ((∀ k, 6 ≤ k → d.2.2.2 k = 0) ∧ ∀ k, 8 ≤ k → d.2.2.1 k = 0) ∧ rdD K L σ7 (fo + 5) d) ∧ (∃ d, ((∀ k, 6 ≤ k → d.2.2.2 k = 0) ∧ ∀ k, 8 ≤ k → d.2.2.1 k = 0) ∧ rdD K L σ7 (fo + 1) d) ∧ ∀ b9, b9 < fo + 1 ∨ fo + 8 < b9 → σ7 b9 = σ b9 := ⟨hla7, hS8.2.1.imp fun d h9 => ⟨h9.1, rdD_eq (fun b9 h1 h2 => hf7 b9 (by omega)) h9.2⟩, fun b9 hb9 => (hf7 b9 (by omega)).trans (hS8.2.2 b9 hb9)⟩
            show G K Γ (z, 0, 0, L) (σ7) 175 [some (.ref fo), some (.ref g), some (.ref q), some (.int (nI 1)), some (.int ch), some (.int (nI 2)), some (.ref (fo + 1)), some (.int (nI (stK ru (ldF f (w * h) bo0 bo1)))), some (.int (frX w h ru (bnO bo0 bo1) 1 f ch i)), some (.int (chI i)), some (.int (chI i)), some (.int ch), some (.int (nI 0)), some (.int (scF (plV w h ru f (bnO bo0 bo1) (chI i) (ch)) (bnO bo0 bo1) (w * h) 0 - scF (plV w h ru f (bnO bo0 bo1) (chI i) (ch)) (bnO bo0 bo1) (w * h) 1)), some (.int (ovl (bnO bo0 bo1) (w * h) 1 (plV w h ru f (bnO bo0 bo1) (chI i) (ch))))] [.int (bnF w h ru (bnO bo0 bo1) 1 (plV w h ru f (bnO bo0 bo1) (chI i) (ch)) (w * h + 1)), .int (frX w h ru (bnO bo0 bo1) 1 f ch i)]
            refine g_mmin (n := 178) hC (by exact gmem (i := 854) (by decide +kernel) (by decide +kernel)) dX1_leastValue_175 ?_
            refine G.eqi (show _ = frX w h ru (bnO bo0 bo1) 1 f ch (i + 1) from (show _ = mnI (frV w h ru (bnO bo0 bo1) 1 (plU w h ru f (bnO bo0 bo1) 1 ch (chI i))) (frX w h ru (bnO bo0 bo1) 1 f ch i) from by rw [frV, if_neg hov]; rfl).trans (fol_y h51).symm) ?_
            refine g_istore (n := 180) (ll1 := [some (.ref fo), some (.ref g), some (.ref q), some (.int (nI 1)), some (.int ch), some (.int (nI 2)), some (.ref (fo + 1)), some (.int (nI (stK ru (ldF f (w * h) bo0 bo1)))), some (.int (frX w h ru (bnO bo0 bo1) 1 f ch (i + 1))), some (.int (chI i)), some (.int (chI i)), some (.int ch), some (.int (nI 0)), some (.int (scF (plV w h ru f (bnO bo0 bo1) (chI i) (ch)) (bnO bo0 bo1) (w * h) 0 - scF (plV w h ru f (bnO bo0 bo1) (chI i) (ch)) (bnO bo0 bo1) (w * h) 1)), some (.int (ovl (bnO bo0 bo1) (w * h) 1 (plV w h ru f (bnO bo0 bo1) (chI i) (ch))))]) hC dX1_leastValue_178 rfl ?_
            refine g_iinc (n := 183) (ll1 := [some (.ref fo), some (.ref g), some (.ref q), some (.int (nI 1)), some (.int ch), some (.int (nI 2)), some (.ref (fo + 1)), some (.int (nI (stK ru (ldF f (w * h) bo0 bo1)))), some (.int (frX w h ru (bnO bo0 bo1) 1 f ch (i + 1))), some (.int ((chI i) + Int32.ofInt (1))), some (.int (chI i)), some (.int ch), some (.int (nI 0)), some (.int (scF (plV w h ru f (bnO bo0 bo1) (chI i) (ch)) (bnO bo0 bo1) (w * h) 0 - scF (plV w h ru f (bnO bo0 bo1) (chI i) (ch)) (bnO bo0 bo1) (w * h) 1)), some (.int (ovl (bnO bo0 bo1) (w * h) 1 (plV w h ru f (bnO bo0 bo1) (chI i) (ch))))]) hC dX1_leastValue_180 rfl (rfl) rfl ?_
            refine g_goto (n := 33) hC dX1_leastValue_183 ?_
            exact G.le (ih33 (i + 1) σ7 (by omega) (by first | exact hS8 | exact hS7 | exact hS9 | exact ⟨hla, hna, fun b9 _ => rfl⟩) _ (rfl) _ (chI_inc _) (by omega)) (And.intro rfl (And.intro rfl (And.intro rfl (And.intro rfl (And.intro rfl (And.intro rfl (And.intro rfl (And.intro rfl (And.intro rfl (And.intro rfl (trivial)))))))))))
          ·
            have hov : ovF (plU w h ru f (bnO bo0 bo1) 1 ch (chI i)) (w * h) := (ov_plV hn49 (chI_ok hi0) hch hf153 hp60).mpr h113
            refine g_iconst (n := 117) (v := (nI 1)) hC (by decide) dX1_leastValue_116 ?_
            refine g_goto (n := 121) hC dX1_leastValue_117 ?_
            refine g_istore (n := 123) (ll1 := [some (.ref fo), some (.ref g), some (.ref q), some (.int (nI 1)), some (.int ch), some (.int (nI 2)), some (.ref (fo + 1)), some (.int (nI (stK ru (ldF f (w * h) bo0 bo1)))), some (.int (frX w h ru (bnO bo0 bo1) 1 f ch i)), some (.int (chI i)), some (.int (chI i)), some (.int ch), some (.int (nI 1)), none, none]) hC dX1_leastValue_121 rfl ?_
            refine g_aload_n (n := 124) hC rfl dX1_leastValue_123 ?_
            refine g_aload (n := 126) hC rfl dX1_leastValue_124 ?_
            refine g_getf (n := 129) (v := .ref (fo + 1 + 1)) hC gf_X1_54 (hri8.1.1) (hri8.2.1) rfl dX1_leastValue_126 ?_
            refine g_cV (n := 132) hC gv_X1_58 (m0) (hG8.2.1) (X_lead K hG8 hsb8 hw1 hw2 hh1 hh2 hP hri8.1.2.1 hri8.1.2.2.1 hri8.2.2.1 hri8.2.2.2.1) dX1_leastValue_129 ?_
            refine G.eqi ld_eq ?_
            refine g_istore (n := 134) (ll1 := [some (.ref fo), some (.ref g), some (.ref q), some (.int (nI 1)), some (.int ch), some (.int (nI 2)), some (.ref (fo + 1)), some (.int (nI (stK ru (ldF f (w * h) bo0 bo1)))), some (.int (frX w h ru (bnO bo0 bo1) 1 f ch i)), some (.int (chI i)), some (.int (chI i)), some (.int ch), some (.int (nI 1)), some (.int (scF (plV w h ru f (bnO bo0 bo1) (chI i) (ch)) (bnO bo0 bo1) (w * h) 0 - scF (plV w h ru f (bnO bo0 bo1) (chI i) (ch)) (bnO bo0 bo1) (w * h) 1)), none]) hC dX1_leastValue_132 rfl ?_
            refine g_iload_n (n := 135) hC rfl dX1_leastValue_134 ?_
            refine g_if_ne (n := 138) (tgt := 143) hC dX1_leastValue_135 (fun _ => ?_) (fun h9 => absurd h9 (by decide))
            refine g_iload (n := 145) hC rfl dX1_leastValue_143 ?_
            refine g_ineg (n := 146) hC dX1_leastValue_145 ?_
            refine G.eqi (show _ = ovl (bnO bo0 bo1) (w * h) 1 (plV w h ru f (bnO bo0 bo1) (chI i) (ch)) from Int32.neg_sub) ?_
            refine g_istore (n := 148) (ll1 := [some (.ref fo), some (.ref g), some (.ref q), some (.int (nI 1)), some (.int ch), some (.int (nI 2)), some (.ref (fo + 1)), some (.int (nI (stK ru (ldF f (w * h) bo0 bo1)))), some (.int (frX w h ru (bnO bo0 bo1) 1 f ch i)), some (.int (chI i)), some (.int (chI i)), some (.int ch), some (.int (nI 1)), some (.int (scF (plV w h ru f (bnO bo0 bo1) (chI i) (ch)) (bnO bo0 bo1) (w * h) 0 - scF (plV w h ru f (bnO bo0 bo1) (chI i) (ch)) (bnO bo0 bo1) (w * h) 1)), some (.int (ovl (bnO bo0 bo1) (w * h) 1 (plV w h ru f (bnO bo0 bo1) (chI i) (ch))))]) hC dX1_leastValue_146 rfl ?_
            refine g_iload (n := 150) hC rfl dX1_leastValue_148 ?_
            refine g_iload (n := 152) hC rfl dX1_leastValue_150 ?_
            refine g_if_eq (n := 155) (tgt := 160) hC dX1_leastValue_152 (fun h9 => absurd h9 (by decide)) (fun _ => ?_)
            refine g_iload (n := 157) hC rfl dX1_leastValue_155 ?_
            refine g_goto (n := 175) hC dX1_leastValue_157 ?_
            refine g_mmin (n := 178) hC (by exact gmem (i := 854) (by decide +kernel) (by decide +kernel)) dX1_leastValue_175 ?_
            refine G.eqi (show _ = frX w h ru (bnO bo0 bo1) 1 f ch (i + 1) from (show _ = mnI (frV w h ru (bnO bo0 bo1) 1 (plU w h ru f (bnO bo0 bo1) 1 ch (chI i))) (frX w h ru (bnO bo0 bo1) 1 f ch i) from by rw [frV, if_pos hov]; rfl).trans (fol_y h51).symm) ?_
            refine g_istore (n := 180) (ll1 := [some (.ref fo), some (.ref g), some (.ref q), some (.int (nI 1)), some (.int ch), some (.int (nI 2)), some (.ref (fo + 1)), some (.int (nI (stK ru (ldF f (w * h) bo0 bo1)))), some (.int (frX w h ru (bnO bo0 bo1) 1 f ch (i + 1))), some (.int (chI i)), some (.int (chI i)), some (.int ch), some (.int (nI 1)), some (.int (scF (plV w h ru f (bnO bo0 bo1) (chI i) (ch)) (bnO bo0 bo1) (w * h) 0 - scF (plV w h ru f (bnO bo0 bo1) (chI i) (ch)) (bnO bo0 bo1) (w * h) 1)), some (.int (ovl (bnO bo0 bo1) (w * h) 1 (plV w h ru f (bnO bo0 bo1) (chI i) (ch))))]) hC dX1_leastValue_178 rfl ?_
            refine g_iinc (n := 183) (ll1 := [some (.ref fo), some (.ref g), some (.ref q), some (.int (nI 1)), some (.int ch), some (.int (nI 2)), some (.ref (fo + 1)), some (.int (nI (stK ru (ldF f (w * h) bo0 bo1)))), some (.int (frX w h ru (bnO bo0 bo1) 1 f ch (i + 1))), some (.int ((chI i) + Int32.ofInt (1))), some (.int (chI i)), some (.int ch), some (.int (nI 1)), some (.int (scF (plV w h ru f (bnO bo0 bo1) (chI i) (ch)) (bnO bo0 bo1) (w * h) 0 - scF (plV w h ru f (bnO bo0 bo1) (chI i) (ch)) (bnO bo0 bo1) (w * h) 1)), some (.int (ovl (bnO bo0 bo1) (w * h) 1 (plV w h ru f (bnO bo0 bo1) (chI i) (ch))))]) hC dX1_leastValue_180 rfl (rfl) rfl ?_
            refine g_goto (n := 33) hC dX1_leastValue_183 ?_
            exact G.le (ih33 (i + 1) σ8 (by omega) (by first | exact hS8 | exact hS7 | exact hS9 | exact ⟨hla, hna, fun b9 _ => rfl⟩) _ (rfl) _ (chI_inc _) (by omega)) (And.intro rfl (And.intro rfl (And.intro rfl (And.intro rfl (And.intro rfl (And.intro rfl (And.intro rfl (And.intro rfl (And.intro rfl (And.intro rfl (trivial)))))))))))
  exact lp33 _ 0 σ (by omega) (by first | exact hS8 | exact hS7 | exact hS9 | exact ⟨hla, hna, fun b9 _ => rfl⟩) _ (rfl) _ (rfl) (Nat.lt_succ_self _)
