/-! ===== pure: arguments in range; a game's beginning ===== -/
def inR (a b : Nat) (x : Int32) : Prop := ∃ j, a ≤ j ∧ j ≤ b ∧ x = nI j
def inN (n : Nat) (x : Int32) : Prop := ∃ j, j < n ∧ x = nI j
theorem inR_iff {a b : Nat} {x : Int32} (ha : a < 2 ^ 31) (hb : b < 2 ^ 31) : (nI a ≤ x ∧ x ≤ nI b) ↔ inR a b x := by
  constructor
  · rintro ⟨h1, h2⟩
    rw [Int32.le_iff_toInt_le, nI_toInt ha] at h1
    rw [Int32.le_iff_toInt_le, nI_toInt hb] at h2
    refine ⟨x.toInt.toNat, by omega, by omega, ?_⟩
    apply Int32.toInt_inj.mp
    rw [nI_toInt (by omega)]
    omega
  · rintro ⟨j, h1, h2, rfl⟩
    exact ⟨nI_le h1 (by omega), nI_le h2 hb⟩
theorem inN_iff {n : Nat} {x : Int32} (h0 : 0 < n) (hn : n < 2 ^ 31) : (nI 0 ≤ x ∧ x ≤ nI (n - 1)) ↔ inN n x := by
  rw [inR_iff (by omega) (by omega)]
  constructor
  · rintro ⟨j, -, h2, rfl⟩
    exact ⟨j, by omega, rfl⟩
  · rintro ⟨j, h2, rfl⟩
    exact ⟨j, by omega, by omega, rfl⟩
section FI
variable (K : GK) {M : Nat} {sc : Nat → Int32} {ar : Nat → Nat → Int32} {σ0 : GS} {L : List Nat} {z : Nat}
theorem M_isInN (hD : mdom M L) {x : Int32} (a b : Nat) (ha : a < 2 ^ 31) (hb : b < 2 ^ 31) : gT K yX8_isIn cX8_isIn 3 (some .boolean) 0 [.int x, .int (nI a), .int (nI b)] z L (mdl K M sc ar σ0) (some (.int (bI (inR a b x)))) (mdl K M sc ar σ0) := by
  rw [← bI_c (inR_iff ha hb)]
  exact M_isIn K hD
theorem M_isCellN (hD : mdom M L) {w h : Nat} (hB : mB sc w h) {x : Int32} : gT K yX8_isCell cX8_isCell 2 (some .boolean) 1 [.ref M, .int x] z L (mdl K M sc ar σ0) (some (.int (bI (inN (w * h) x)))) (mdl K M sc ar σ0) := by
  have hn : w * h ≤ 49 := Nat.mul_le_mul hB.2.2.2.1 hB.2.2.2.2.2
  have hn1 : 16 ≤ w * h := Nat.mul_le_mul hB.2.2.1 hB.2.2.2.2.1
  rw [← bI_c (inN_iff (by omega) (by omega))]
  exact M_isCell K hD hB
theorem M_isChoiceN (hD : mdom M L) {w h : Nat} (hB : mB sc w h) {x : Int32} : gT K yX8_isChoice cX8_isChoice 2 (some .boolean) 2 [.ref M, .int x] z L (mdl K M sc ar σ0) (some (.int (bI (chOK (w * h) x)))) (mdl K M sc ar σ0) := by
  have hn : w * h ≤ 49 := Nat.mul_le_mul hB.2.2.2.1 hB.2.2.2.2.2
  have hn1 : 16 ≤ w * h := Nat.mul_le_mul hB.2.2.1 hB.2.2.2.2.1
  have e : (x = -1 ∨ (nI 0 ≤ x ∧ x ≤ nI (w * h - 1))) ↔ chOK (w * h) x := by rw [inN_iff (by omega) (by omega)]; rfl
  rw [← bI_c e]
  exact M_isChoice K hD hB
end FI
def bg0 (f : Nat → Int32) : Nat → Int32 := fun k => if k < 155 then (if 49 ≤ k ∧ k < 147 then -1 else nI 0) else f k
def hcR (h i : Nat) : Nat := if i = 0 ∨ i = 2 then 1 else h - 2
def hcK (w i : Nat) : Nat := if i = 0 ∨ i = 3 then 1 else w - 2
def hcC (w h i : Nat) : Nat := hcR h i * w + hcK w i
def bgF (w h : Nat) (f : Nat → Int32) : Nat → Nat → Int32
  | 0 => bg0 f
  | i + 1 => va_up (bgF w h f i) (hcC w h i) (nI 2)
def bgP (f : Nat → Int32) (c : Nat) : Nat → Int32 := fun k => if k < c then (if 49 ≤ k ∧ k < 147 then -1 else nI 0) else f k
theorem bgP_0 (f : Nat → Int32) : bgP f 0 = f := funext fun k => if_neg (by omega)
theorem bgP_n (f : Nat → Int32) : bgP f 155 = bg0 f := rfl
theorem bgP_s (f : Nat → Int32) (c : Nat) (x : Int32) (hx : x = if 49 ≤ c ∧ c < 147 then -1 else nI 0) : va_up (bgP f c) c x = bgP f (c + 1) := by
  funext k
  by_cases e : k = c
  · subst e
    rw [va_up_self, bgP, if_pos (by omega), hx]
  · rw [va_up_ne _ _ e]
    simp only [bgP]
    by_cases h1 : k < c
    · rw [if_pos h1, if_pos (show k < c + 1 by omega)]
    · rw [if_neg h1, if_neg (show ¬ k < c + 1 by omega)]
theorem hcC_lt {w h i : Nat} (hw : 4 ≤ w) (hh : 4 ≤ h) : hcC w h i < w * h := by
  have h1 : hcR h i ≤ h - 2 := by rw [hcR]; split <;> omega
  have h2 : hcK w i ≤ w - 2 := by rw [hcK]; split <;> omega
  have h3 := Nat.mul_le_mul_right w h1
  have h4 : (h - 2) * w + 2 * w = w * h := by rw [← Nat.add_mul, Nat.mul_comm]; congr 1; omega
  rw [hcC]
  omega
def rowF (g : Nat → Int32) (o : Nat) (f : Nat → Int32) (n : Nat) : Nat → Int32 := fun k => if k < n then g (o + k) else f k
theorem rowF_0 (g : Nat → Int32) (o : Nat) (f : Nat → Int32) : rowF g o f 0 = f := funext fun k => if_neg (by omega)
theorem rowF_s (g : Nat → Int32) (o : Nat) (f : Nat → Int32) (c : Nat) : va_up (rowF g o f c) c (g (o + c)) = rowF g o f (c + 1) := by
  funext k
  by_cases e : k = c
  · subst e
    rw [va_up_self, rowF, if_pos (by omega)]
  · rw [va_up_ne _ _ e]
    simp only [rowF]
    by_cases h1 : k < c
    · rw [if_pos h1, if_pos (by omega)]
    · rw [if_neg h1, if_neg (by omega)]
/-- f with n places from o on taken from g -/
def putF (g : Nat → Int32) (o : Nat) (f : Nat → Int32) (n : Nat) : Nat → Int32 := fun k => if o ≤ k ∧ k < o + n then g (k - o) else f k
theorem putF_0 (g : Nat → Int32) (o : Nat) (f : Nat → Int32) : putF g o f 0 = f := funext fun k => if_neg (by omega)
theorem putF_s (g : Nat → Int32) (o : Nat) (f : Nat → Int32) (c : Nat) : va_up (putF g o f c) (o + c) (g c) = putF g o f (c + 1) := by
  funext k
  by_cases e : k = o + c
  · subst e
    rw [va_up_self, putF, if_pos (by omega), Nat.add_sub_cancel_left]
  · rw [va_up_ne _ _ e]
    simp only [putF]
    by_cases h1 : o ≤ k ∧ k < o + c
    · rw [if_pos h1, if_pos (by omega)]
    · rw [if_neg h1, if_neg (by omega)]
/-- regions by picking the lowest cell that is left -/
noncomputable def rgY (w h : Nat) (x : Int64) : Nat → Int64
  | 0 => 0
  | c + 1 => if tb x c = true ∧ tb (rgY w h x c) c = false then rgY w h x c ||| rgn w h x c else rgY w h x c
noncomputable def rgC (w h : Nat) (x : Int64) : Nat → Nat
  | 0 => 0
  | c + 1 => if tb x c = true ∧ tb (rgY w h x c) c = false then rgC w h x c + 1 else rgC w h x c
noncomputable def rgM (w h : Nat) (x : Int64) : Nat → Nat
  | 0 => 0
  | c + 1 => if tb x c = true ∧ tb (rgY w h x c) c = false then max (rgM w h x c) (ct (tb (rgn w h x c)) 49) else rgM w h x c
section RG
variable {w h : Nat} {x : Int64}
theorem rgY_clo (hw : 1 ≤ w) (hn : w * h ≤ 64) (hx : ∀ i, tb x i = true → i < w * h) : ∀ c, clo w x (rgY w h x c)
  | 0 => clo_0
  | c + 1 => by
    have ih := rgY_clo hw hn hx c
    simp only [rgY]
    split
    · next q => exact clo_or hw hn hx ih q.1
    · exact ih
theorem rgY_skip {c : Nat} (q : ¬ (tb x c = true ∧ tb (rgY w h x c) c = false)) : rgY w h x (c + 1) = rgY w h x c ∧ rgC w h x (c + 1) = rgC w h x c ∧ rgM w h x (c + 1) = rgM w h x c := ⟨if_neg q, if_neg q, if_neg q⟩
theorem rgY_to {c m : Nat} (hcm : c ≤ m) (q : ∀ i, i < m → tb (x &&& (rgY w h x c ^^^ (-1))) i = false) : rgY w h x m = rgY w h x c ∧ rgC w h x m = rgC w h x c ∧ rgM w h x m = rgM w h x c := by
  induction m with
  | zero => rw [show c = 0 by omega]; exact ⟨rfl, rfl, rfl⟩
  | succ m ih =>
    by_cases e : c = m + 1
    · rw [e]; exact ⟨rfl, rfl, rfl⟩
    · obtain ⟨h1, h2, h3⟩ := ih (by omega) (fun i hi => q i (by omega))
      have h4 : ¬ (tb x m = true ∧ tb (rgY w h x m) m = false) := fun q2 => by
        have := q m (by omega)
        rw [← h1, tb_less.mpr q2] at this
        cases this
      obtain ⟨g1, g2, g3⟩ := rgY_skip h4
      exact ⟨g1.trans h1, g2.trans h2, g3.trans h3⟩
theorem rgY_pick {m : Nat} (q : tb x m = true ∧ tb (rgY w h x m) m = false) : rgY w h x (m + 1) = rgY w h x m ||| rgn w h x m ∧ rgC w h x (m + 1) = rgC w h x m + 1 ∧ rgM w h x (m + 1) = max (rgM w h x m) (ct (tb (rgn w h x m)) 49) := ⟨if_pos q, if_pos q, if_pos q⟩
theorem rgC_le : ∀ c, rgC w h x c ≤ c
  | 0 => Nat.le_refl _
  | c + 1 => by have := rgC_le c; simp only [rgC]; split <;> omega
theorem rgM_le : ∀ c, rgM w h x c ≤ 49
  | 0 => by simp [rgM]
  | c + 1 => by have := rgM_le c; have h2 := ct_le (tb (rgn w h x c)) 49; simp only [rgM]; split <;> omega
end RG
theorem rg_done {w h : Nat} {x : Int64} {c m : Nat} (hw : 1 ≤ w) (hn : w * h ≤ 64) (hx : ∀ i, tb x i = true → i < w * h) (hmX : tb x m = true) (hl : ∀ i, i < m → tb (x &&& (rgY w h x c ^^^ (-1))) i = false) (y1 : rgY w h x m = rgY w h x c) (k1 : rgY w h x (m + 1) = rgY w h x m ||| rgn w h x m) : ∀ i, i < m + 1 → tb (x &&& (rgY w h x (m + 1) ^^^ (-1))) i = false := by
  intro i hi
  cases e : tb (x &&& (rgY w h x (m + 1) ^^^ (-1))) i
  · rfl
  · obtain ⟨h1, h2⟩ := tb_less.mp e
    rw [k1, tb_or, Bool.or_eq_false_iff] at h2
    by_cases hm : i = m
    · subst hm
      rw [rgn_self hw hn hx hmX] at h2
      exact absurd h2.2 (by decide)
    · have h3 := hl i (by omega)
      rw [tb_less.mpr ⟨h1, y1 ▸ h2.1⟩] at h3
      cases h3
theorem bitsF_lt {p : Nat → Bool} {n i : Nat} (hn : n ≤ 64) (h : tb (bitsF p n) i = true) : i < n := by
  rw [tb_bitsF p n hn] at h
  simp at h
  exact h.1
theorem bitsF_self {p : Nat → Bool} {n i : Nat} (hn : n ≤ 64) (hi : i < n) (h : p i = true) : tb (bitsF p n) i = true := by rw [tb_bitsF p n hn, h]; simp [hi]
theorem inP_iff {n : Nat} {x : Int32} (hn : n ≤ 60) : (nI 0 ≤ x ∧ x ≤ nI n - nI 1) ↔ inN n x := by
  cases n with
  | zero =>
    constructor
    · rintro ⟨h1, h2⟩
      rw [Int32.le_iff_toInt_le] at h1 h2
      have e1 : (nI 0).toInt = 0 := by decide
      have e2 : (nI 0 - nI 1).toInt = -1 := by decide
      omega
    · rintro ⟨j, h1, -⟩
      omega
  | succ n =>
    rw [show nI (n + 1) - nI 1 = nI (n + 1 - 1) from pk_sub (by omega)]
    exact inN_iff (by omega) (by omega)
theorem M_isInP (K : GK) {M : Nat} {sc : Nat → Int32} {ar : Nat → Nat → Int32} {σ0 : GS} {L : List Nat} {z : Nat} (hD : mdom M L) {x : Int32} (n : Nat) (hn : n ≤ 60) : gT K yX8_isIn cX8_isIn 3 (some .boolean) 0 [.int x, .int (nI 0), .int (nI n - nI 1)] z L (mdl K M sc ar σ0) (some (.int (bI (inN n x)))) (mdl K M sc ar σ0) := by
  rw [← bI_c (inP_iff hn)]
  exact M_isIn K hD
/-- stones around a cell c: op the player's open cells, em the places -/
def enC (w h : Nat) (op : Int64) (c : Nat) : Prop := rgn w h op c &&& edgF w h = 0
def s1C (w h : Nat) (op em : Int64) (c a : Nat) : Prop := tb em a = true ∧ enC w h (op &&& (sl 1 a ^^^ (-1))) c
def s2C (w h : Nat) (op em : Int64) (c a b : Nat) : Prop := tb em a = true ∧ a < b ∧ tb em b = true ∧ enC w h (op &&& (sl 1 a ^^^ (-1)) &&& (sl 1 b ^^^ (-1))) c
noncomputable def ifP (p : Prop) (a b : Nat) : Nat := @ite _ p (Classical.propDecidable p) a b
theorem ifP_t {p : Prop} {a b : Nat} (h : p) : ifP p a b = a := if_pos h
theorem ifP_f {p : Prop} {a b : Nat} (h : ¬ p) : ifP p a b = b := if_neg h
theorem ifP_c {p q : Prop} {a b : Nat} (h : p ↔ q) : ifP p a b = ifP q a b := by rw [propext h]
theorem tb_less1 {x : Int64} {a i : Nat} (h : tb x i = true) (hne : i ≠ a) : tb (x &&& (sl 1 a ^^^ (-1))) i = true := tb_less.mpr ⟨h, by rw [tb_one]; simp [hne]⟩
/-- the round of the greatest change -/
def tpI (g : Nat → Int32) (r : Nat) : Int32 := g (7 * r + 5) - g (7 * r + 6)
def tpW (g : Nat → Int32) (b : Int32) : Nat → Int32
  | 0 => b
  | r + 1 => tpI g r
def tpD (g : Nat → Int32) (b : Int32) (r : Nat) : Int32 := if tpW g b r < tpI g r then tpI g r - tpW g b r else tpW g b r - tpI g r
def tpM (g : Nat → Int32) (b : Int32) : Nat → Int32
  | 0 => -1
  | r + 1 => if tpM g b r < tpD g b r then tpD g b r else tpM g b r
def tpB (g : Nat → Int32) (b : Int32) : Nat → Nat
  | 0 => 0
  | r + 1 => if tpM g b r < tpD g b r then r else tpB g b r
theorem tpB_le (g : Nat → Int32) (b : Int32) : ∀ r, tpB g b r ≤ r
  | 0 => Nat.le_refl _
  | r + 1 => by have := tpB_le g b r; simp only [tpB]; split <;> omega
theorem st_nx {P : Nat → Prop} {a0 : Nat} (h : ∀ a, a < a0 → ¬ P a) (h2 : ¬ P a0) : ∀ a, a < a0 + 1 → ¬ P a := fun a ha => by
  by_cases e : a = a0
  · rw [e]; exact h2
  · exact h a (by omega)
theorem ifP_ge {p : Prop} : 2 ≤ ifP p 2 3 := by
  by_cases q : p
  · rw [ifP_t q]; omega
  · rw [ifP_f q]; omega
section SX
variable {w h : Nat} {op em : Int64} {c0 a0 b0 n : Nat}
theorem st_skip (hs : ∀ b, ¬ s2C w h op em c0 a0 b) : (∃ a b, a < a0 ∧ b < n ∧ s2C w h op em c0 a b) ↔ ∃ a b, a < a0 + 1 ∧ b < n ∧ s2C w h op em c0 a b := by
  constructor
  · rintro ⟨a, b, h1, h2, h3⟩
    exact ⟨a, b, by omega, h2, h3⟩
  · rintro ⟨a, b, h1, h2, h3⟩
    by_cases e : a = a0
    · rw [e] at h3; exact absurd h3 (hs b)
    · exact ⟨a, b, by omega, h2, h3⟩
theorem st_b0 : (∃ a b, a < a0 ∧ b < n ∧ s2C w h op em c0 a b) ↔ ((∃ a b, a < a0 ∧ b < n ∧ s2C w h op em c0 a b) ∨ ∃ b, b < a0 + 1 ∧ s2C w h op em c0 a0 b) := by
  constructor
  · exact Or.inl
  · rintro (q | ⟨b, h1, h2⟩)
    · exact q
    · have := h2.2.1; omega
theorem st_bn {Q : Prop} (hs : ¬ s2C w h op em c0 a0 b0) : (Q ∨ ∃ b, b < b0 ∧ s2C w h op em c0 a0 b) ↔ (Q ∨ ∃ b, b < b0 + 1 ∧ s2C w h op em c0 a0 b) := by
  constructor
  · rintro (q | ⟨b, h1, h2⟩)
    · exact Or.inl q
    · exact Or.inr ⟨b, by omega, h2⟩
  · rintro (q | ⟨b, h1, h2⟩)
    · exact Or.inl q
    · by_cases e : b = b0
      · rw [e] at h2; exact absurd h2 hs
      · exact Or.inr ⟨b, by omega, h2⟩
theorem st_all (hs : n ≤ b0 ∨ ((∃ a b, a < a0 ∧ b < n ∧ s2C w h op em c0 a b) ∨ ∃ b, b < b0 ∧ s2C w h op em c0 a0 b)) (hb : b0 ≤ n) : ((∃ a b, a < a0 ∧ b < n ∧ s2C w h op em c0 a b) ∨ ∃ b, b < b0 ∧ s2C w h op em c0 a0 b) ↔ ∃ a b, a < a0 + 1 ∧ b < n ∧ s2C w h op em c0 a b := by
  constructor
  · rintro (⟨a, b, h1, h2, h3⟩ | ⟨b, h1, h2⟩)
    · exact ⟨a, b, by omega, h2, h3⟩
    · exact ⟨a0, b, by omega, by omega, h2⟩
  · rintro ⟨a, b, h1, h2, h3⟩
    rcases hs with hs | hs
    · by_cases e : a = a0
      · rw [e] at h3; exact Or.inr ⟨b, by omega, h3⟩
      · exact Or.inl ⟨a, b, by omega, h2, h3⟩
    · exact hs
end SX
theorem tpD_t {g : Nat → Int32} {b : Int32} {r : Nat} (h : ¬ tpI g r ≤ tpW g b r) : tpI g r - tpW g b r = tpD g b r := (if_pos (Int32.not_le.mp h)).symm
theorem tpD_f {g : Nat → Int32} {b : Int32} {r : Nat} (h : tpI g r ≤ tpW g b r) : tpW g b r - tpI g r = tpD g b r := (if_neg (Int32.not_lt.mpr h)).symm
noncomputable def gvF (w h : Nat) (rule : Int32) (g : Nat → Int32) (p : Nat) (f : Nat → Int32) (ch : Int32) (dp : Nat) : Int32 := if dp = 1 then nrF w h rule g p f ch (w * h + 1) else frF w h rule g p f ch (w * h + 1)
def chB (n c : Nat) : Int32 := if c = n then -1 else nI c
theorem chB_ok {n c : Nat} (hc : c ≤ n) : chOK n (chB n c) := by
  rw [chB]
  split
  · exact Or.inl rfl
  · exact Or.inr ⟨c, by omega, rfl⟩
noncomputable def bsM (w h : Nat) (rule : Int32) (g : Nat → Int32) (p : Nat) (f : Nat → Int32) (dp : Nat) : Nat → Int32
  | 0 => -2147483648
  | c + 1 => if (chB (w * h) c = -1 ∨ f (chB (w * h) c).toNatClampNeg = 0) ∧ bsM w h rule g p f dp c < gvF w h rule g p f (chB (w * h) c) dp then gvF w h rule g p f (chB (w * h) c) dp else bsM w h rule g p f dp c
noncomputable def bsB (w h : Nat) (rule : Int32) (g : Nat → Int32) (p : Nat) (f : Nat → Int32) (dp : Nat) : Nat → Int32
  | 0 => -1
  | c + 1 => if (chB (w * h) c = -1 ∨ f (chB (w * h) c).toNatClampNeg = 0) ∧ bsM w h rule g p f dp c < gvF w h rule g p f (chB (w * h) c) dp then chB (w * h) c else bsB w h rule g p f dp c
section BS
variable {w h : Nat} {rule : Int32} {g : Nat → Int32} {p : Nat} {f : Nat → Int32} {dp c : Nat}
theorem bs_n (q : ¬ mayF f (chB (w * h) c)) : bsM w h rule g p f dp c = bsM w h rule g p f dp (c + 1) ∧ bsB w h rule g p f dp c = bsB w h rule g p f dp (c + 1) := ⟨(if_neg (fun z => q z.1)).symm, (if_neg (fun z => q z.1)).symm⟩
theorem bs_f (q : gvF w h rule g p f (chB (w * h) c) dp ≤ bsM w h rule g p f dp c) : bsM w h rule g p f dp c = bsM w h rule g p f dp (c + 1) ∧ bsB w h rule g p f dp c = bsB w h rule g p f dp (c + 1) := ⟨(if_neg (fun z => absurd z.2 (Int32.not_lt.mpr q))).symm, (if_neg (fun z => absurd z.2 (Int32.not_lt.mpr q))).symm⟩
theorem bs_t (q : mayF f (chB (w * h) c)) (q2 : ¬ gvF w h rule g p f (chB (w * h) c) dp ≤ bsM w h rule g p f dp c) : gvF w h rule g p f (chB (w * h) c) dp = bsM w h rule g p f dp (c + 1) ∧ chB (w * h) c = bsB w h rule g p f dp (c + 1) := ⟨(if_pos ⟨q, Int32.not_le.mp q2⟩).symm, (if_pos ⟨q, Int32.not_le.mp q2⟩).symm⟩
end BS
def rp3C (g f : Nat → Int32) (who c : Nat) : Nat → Int32 := va_up (va_up (va_up g 0 (nI 1)) 1 (nI (2 + who))) 2 (nI 10 + f c)
def rp3D (g f : Nat → Int32) (c : Nat) : Nat → Int32 := va_up (va_up (va_up g 0 (f 153)) 1 (nI c)) 2 (f (49 + c))
def wvOK (f : Nat → Int32) (c : Nat) : Prop := f (98 + c) = -1 ∨ ∃ sn wn, sn < 60 ∧ wn < 8 ∧ f (49 + c) = nI sn ∧ f (98 + c) = nI wn
def infR (g : Nat → Int32) (o : Nat) (a b x3 x4 x5 x6 x7 : Int32) : Nat → Int32 := va_up (va_up (va_up (va_up (va_up (va_up (va_up g o a) (o + 1) b) (o + 2) x3) (o + 3) x4) (o + 4) x5) (o + 5) x6) (o + 6) x7
