/-! ===== pure: arguments in range; a game's beginning ===== -/
def inR (a b : Nat) (x : Int32) : Prop := ∃ j, a ≤ j ∧ j ≤ b ∧ x = nI j
def inN (n : Nat) (x : Int32) : Prop := ∃ j, j < n ∧ x = nI j
theorem inR_iff {a b : Nat} {x : Int32} (ha : a < 2 ^ 31) (hb : b < 2 ^ 31) : (nI a ≤ x ∧ x ≤ nI b) ↔ inR a b x := by
  constructor
  · rintro ⟨h1, h2⟩
    rw [Int32.le_iff_toInt_le, nI_toInt ha] at h1
    rw [Int32.le_iff_toInt_le, nI_toInt hb] at h2
    refine ⟨x.toInt.toNat, by omega, by omega, ?_⟩
    apply Int32.toInt_inj.mp
    rw [nI_toInt (by omega)]
    omega
  · rintro ⟨j, h1, h2, rfl⟩
    exact ⟨nI_le h1 (by omega), nI_le h2 hb⟩
theorem inN_iff {n : Nat} {x : Int32} (h0 : 0 < n) (hn : n < 2 ^ 31) : (nI 0 ≤ x ∧ x ≤ nI (n - 1)) ↔ inN n x := by
  rw [inR_iff (by omega) (by omega)]
  constructor
  · rintro ⟨j, -, h2, rfl⟩
    exact ⟨j, by omega, rfl⟩
  · rintro ⟨j, h2, rfl⟩
    exact ⟨j, by omega, by omega, rfl⟩
section FI
variable (K : GK) {M : Nat} {sc : Nat → Int32} {ar : Nat → Nat → Int32} {σ0 : GS} {L : List Nat} {z : Nat}
theorem M_isInN (hD : mdom M L) {x : Int32} (a b : Nat) (ha : a < 2 ^ 31) (hb : b < 2 ^ 31) : gT K yX8_isIn cX8_isIn 3 (some .boolean) 0 [.int x, .int (nI a), .int (nI b)] z L (mdl K M sc ar σ0) (some (.int (bI (inR a b x)))) (mdl K M sc ar σ0) := by
  rw [← bI_c (inR_iff ha hb)]
  exact M_isIn K hD
theorem M_isCellN (hD : mdom M L) {w h : Nat} (hB : mB sc w h) {x : Int32} : gT K yX8_isCell cX8_isCell 2 (some .boolean) 1 [.ref M, .int x] z L (mdl K M sc ar σ0) (some (.int (bI (inN (w * h) x)))) (mdl K M sc ar σ0) := by
  have hn : w * h ≤ 49 := Nat.mul_le_mul hB.2.2.2.1 hB.2.2.2.2.2
  have hn1 : 16 ≤ w * h := Nat.mul_le_mul hB.2.2.1 hB.2.2.2.2.1
  rw [← bI_c (inN_iff (by omega) (by omega))]
  exact M_isCell K hD hB
theorem M_isChoiceN (hD : mdom M L) {w h : Nat} (hB : mB sc w h) {x : Int32} : gT K yX8_isChoice cX8_isChoice 2 (some .boolean) 2 [.ref M, .int x] z L (mdl K M sc ar σ0) (some (.int (bI (chOK (w * h) x)))) (mdl K M sc ar σ0) := by
  have hn : w * h ≤ 49 := Nat.mul_le_mul hB.2.2.2.1 hB.2.2.2.2.2
  have hn1 : 16 ≤ w * h := Nat.mul_le_mul hB.2.2.1 hB.2.2.2.2.1
  have e : (x = -1 ∨ (nI 0 ≤ x ∧ x ≤ nI (w * h - 1))) ↔ chOK (w * h) x := by rw [inN_iff (by omega) (by omega)]; rfl
  rw [← bI_c e]
  exact M_isChoice K hD hB
end FI
def bg0 (f : Nat → Int32) : Nat → Int32 := fun k => if k < 155 then (if 49 ≤ k ∧ k < 147 then -1 else nI 0) else f k
def hcR (h i : Nat) : Nat := if i = 0 ∨ i = 2 then 1 else h - 2
def hcK (w i : Nat) : Nat := if i = 0 ∨ i = 3 then 1 else w - 2
def hcC (w h i : Nat) : Nat := hcR h i * w + hcK w i
def bgF (w h : Nat) (f : Nat → Int32) : Nat → Nat → Int32
  | 0 => bg0 f
  | i + 1 => va_up (bgF w h f i) (hcC w h i) (nI 2)
def bgP (f : Nat → Int32) (c : Nat) : Nat → Int32 := fun k => if k < c then (if 49 ≤ k ∧ k < 147 then -1 else nI 0) else f k
theorem bgP_0 (f : Nat → Int32) : bgP f 0 = f := funext fun k => if_neg (by omega)
theorem bgP_n (f : Nat → Int32) : bgP f 155 = bg0 f := rfl
theorem bgP_s (f : Nat → Int32) (c : Nat) (x : Int32) (hx : x = if 49 ≤ c ∧ c < 147 then -1 else nI 0) : va_up (bgP f c) c x = bgP f (c + 1) := by
  funext k
  by_cases e : k = c
  · subst e
    rw [va_up_self, bgP, if_pos (by omega), hx]
  · rw [va_up_ne _ _ e]
    simp only [bgP]
    by_cases h1 : k < c
    · rw [if_pos h1, if_pos (show k < c + 1 by omega)]
    · rw [if_neg h1, if_neg (show ¬ k < c + 1 by omega)]
theorem hcC_lt {w h i : Nat} (hw : 4 ≤ w) (hh : 4 ≤ h) : hcC w h i < w * h := by
  have h1 : hcR h i ≤ h - 2 := by rw [hcR]; split <;> omega
  have h2 : hcK w i ≤ w - 2 := by rw [hcK]; split <;> omega
  have h3 := Nat.mul_le_mul_right w h1
  have h4 : (h - 2) * w + 2 * w = w * h := by rw [← Nat.add_mul, Nat.mul_comm]; congr 1; omega
  rw [hcC]
  omega
