/-! ===== pure: how many bits a long has, as the library counts them ===== -/
def rb (m : Nat) : Nat → Nat
  | 0 => 0
  | k + 1 => 256 * rb m k + m
theorem land_sp {a b c d : Nat} (ha : a < 256) (hc : c < 256) : (256 * b + a) &&& (256 * d + c) = 256 * (b &&& d) + (a &&& c) := by
  apply Nat.eq_of_testBit_eq
  intro i
  have hac : a &&& c < 2 ^ 8 := Nat.lt_of_le_of_lt Nat.and_le_left ha
  rw [Nat.testBit_and, show 256 = 2 ^ 8 from rfl, Nat.testBit_two_pow_mul_add _ ha, Nat.testBit_two_pow_mul_add _ hc, Nat.testBit_two_pow_mul_add _ hac]
  by_cases h : i < 8
  · simp [h]
  · simp [h]
def p1 (k X : Nat) : Nat := X - (X / 2 &&& rb 85 k)
def p2 (k X : Nat) : Nat := (X &&& rb 51 k) + (X / 4 &&& rb 51 k)
def p3 (k X : Nat) : Nat := (X + X / 16) &&& rb 15 k
def s1 (l : Nat) : Nat := l - (l / 2 &&& 85)
def s2 (l : Nat) : Nat := (l &&& 51) + (l / 4 &&& 51)
def s3 (l : Nat) : Nat := (l + l / 16) &&& 15
theorem lo_1 : ∀ l, l < 256 → ∀ r, r < 2 → (128 * r + l / 2) &&& 85 = l / 2 &&& 85 := by decide +kernel
theorem lo_2 : ∀ l, l < 256 → ∀ r, r < 4 → (64 * r + l / 4) &&& 51 = l / 4 &&& 51 := by decide +kernel
theorem lo_3 : ∀ l, l < 256 → ∀ r, r < 5 → l % 16 < 5 → l / 16 < 5 → (16 * r + l / 16 + l) &&& 15 = s3 l := by decide +kernel
theorem by_1 : ∀ l, l < 256 → s1 l < 256 := by decide +kernel
theorem by_2 : ∀ l, l < 256 → s2 (s1 l) % 16 < 5 ∧ s2 (s1 l) / 16 < 5 ∧ s2 (s1 l) < 256 := by decide +kernel
theorem by_3 : ∀ l, l < 256 → s3 (s2 (s1 l)) = ct (fun i => l.testBit i) 8 := by decide +kernel
theorem p1_s {k h l : Nat} (hl : l < 256) : p1 (k + 1) (256 * h + l) = 256 * p1 k h + s1 l := by
  have e : (256 * h + l) / 2 = 256 * (h / 2) + (128 * (h % 2) + l / 2) := by omega
  have h1 : h / 2 &&& rb 85 k ≤ h / 2 := Nat.and_le_left
  have h2 : l / 2 &&& 85 ≤ l / 2 := Nat.and_le_left
  rw [p1, rb, e, land_sp (by omega) (by omega), lo_1 l hl _ (by omega), p1, s1]
  omega
theorem p2_s {k h l : Nat} (hl : l < 256) : p2 (k + 1) (256 * h + l) = 256 * p2 k h + s2 l := by
  have e : (256 * h + l) / 4 = 256 * (h / 4) + (64 * (h % 4) + l / 4) := by omega
  rw [p2, rb, e, land_sp (by omega) (by omega), land_sp (by omega) (by omega), lo_2 l hl _ (by omega), p2, s2]
  omega
theorem p3_s {k h l : Nat} (hl : l < 256) (h1 : l % 16 < 5) (h2 : l / 16 < 5) (h3 : h % 16 < 5) : p3 (k + 1) (256 * h + l) = 256 * p3 k h + s3 l := by
  have e : (256 * h + l) + (256 * h + l) / 16 = 256 * (h + h / 16) + (16 * (h % 16) + l / 16 + l) := by omega
  rw [p3, rb, e, land_sp (by omega) (by omega), lo_3 l hl _ h3 h1 h2, p3]
def pA (k X : Nat) : Nat := p3 k (p2 k (p1 k X))
theorem pA_m (k X : Nat) (hX : X < 256 ^ k) : p2 k (p1 k X) % 16 < 5 := by
  cases k with
  | zero => simp [p2, rb]
  | succ k =>
    have e : X = 256 * (X / 256) + X % 256 := by omega
    rw [e, p1_s (by omega), p2_s (by_1 _ (by omega))]
    have := (by_2 (X % 256) (by omega)).1
    omega
theorem pA_s (k X : Nat) (hX : X < 256 ^ (k + 1)) : pA (k + 1) X = 256 * pA k (X / 256) + ct (fun i => (X % 256).testBit i) 8 := by
  have e : X = 256 * (X / 256) + X % 256 := by omega
  have h1 : X / 256 < 256 ^ k := by rw [Nat.pow_succ] at hX; omega
  have h2 := by_2 (X % 256) (by omega)
  rw [pA]
  conv => lhs; rw [e]
  rw [p1_s (by omega), p2_s (by_1 _ (by omega)), p3_s h2.2.2 h2.1 h2.2.1 (pA_m k _ h1), by_3 _ (by omega), pA]
theorem ct_add (p : Nat → Bool) (a : Nat) : ∀ b, ct p (a + b) = ct p a + ct (fun i => p (a + i)) b
  | 0 => rfl
  | b + 1 => by
    rw [← Nat.add_assoc, ct, ct, ct_add p a b]
    omega
theorem ct_by (X k : Nat) : ct (fun i => X.testBit i) (8 + k) = ct (fun i => (X % 256).testBit i) 8 + ct (fun i => (X / 256).testBit i) k := by
  rw [ct_add]
  congr 1
  · exact ct_cong (fun i hi => by rw [show 256 = 2 ^ 8 from rfl, Nat.testBit_mod_two_pow]; simp [hi])
  · exact ct_cong (fun i hi => by rw [show 256 = 2 ^ 8 from rfl, Nat.testBit_div_two_pow, Nat.add_comm])
theorem p3_0 (X : Nat) : pA 0 X = 0 := by simp [pA, p3, rb]
theorem pA_8 (X : Nat) (hX : X < 256 ^ 8) : ∃ c0 c1 c2 c3 c4 c5 c6 c7 : Nat, c0 ≤ 8 ∧ c1 ≤ 8 ∧ c2 ≤ 8 ∧ c3 ≤ 8 ∧ c4 ≤ 8 ∧ c5 ≤ 8 ∧ c6 ≤ 8 ∧ c7 ≤ 8 ∧ pA 8 X = c0 + 256 * (c1 + 256 * (c2 + 256 * (c3 + 256 * (c4 + 256 * (c5 + 256 * (c6 + 256 * c7)))))) ∧ ct (fun i => X.testBit i) 64 = c0 + c1 + c2 + c3 + c4 + c5 + c6 + c7 := by
  have st : ∀ k Y, Y < 256 ^ (k + 1) → ∃ c, c ≤ 8 ∧ pA (k + 1) Y = 256 * pA k (Y / 256) + c ∧ (∀ m, ct (fun i => Y.testBit i) (8 + m) = c + ct (fun i => (Y / 256).testBit i) m) ∧ Y / 256 < 256 ^ k := fun k Y hY => ⟨_, ct_le _ _, pA_s k Y hY, fun m => ct_by Y m, by rw [Nat.pow_succ] at hY; omega⟩
  obtain ⟨c0, a0, b0, d0, e0⟩ := st 7 X hX
  obtain ⟨c1, a1, b1, d1, e1⟩ := st 6 _ e0
  obtain ⟨c2, a2, b2, d2, e2⟩ := st 5 _ e1
  obtain ⟨c3, a3, b3, d3, e3⟩ := st 4 _ e2
  obtain ⟨c4, a4, b4, d4, e4⟩ := st 3 _ e3
  obtain ⟨c5, a5, b5, d5, e5⟩ := st 2 _ e4
  obtain ⟨c6, a6, b6, d6, e6⟩ := st 1 _ e5
  obtain ⟨c7, a7, b7, d7, e7⟩ := st 0 _ e6
  refine ⟨c0, c1, c2, c3, c4, c5, c6, c7, a0, a1, a2, a3, a4, a5, a6, a7, ?_, ?_⟩
  · rw [b0, b1, b2, b3, b4, b5, b6, b7, p3_0]
    omega
  · refine (d0 56).trans ?_
    refine (congrArg (fun q => c0 + q) (d1 48)).trans ?_
    refine (congrArg (fun q => c0 + (c1 + q)) (d2 40)).trans ?_
    refine (congrArg (fun q => c0 + (c1 + (c2 + q))) (d3 32)).trans ?_
    refine (congrArg (fun q => c0 + (c1 + (c2 + (c3 + q)))) (d4 24)).trans ?_
    refine (congrArg (fun q => c0 + (c1 + (c2 + (c3 + (c4 + q))))) (d5 16)).trans ?_
    refine (congrArg (fun q => c0 + (c1 + (c2 + (c3 + (c4 + (c5 + q)))))) (d6 8)).trans ?_
    refine (congrArg (fun q => c0 + (c1 + (c2 + (c3 + (c4 + (c5 + (c6 + q))))))) (d7 0)).trans ?_
    show c0 + (c1 + (c2 + (c3 + (c4 + (c5 + (c6 + (c7 + 0))))))) = _
    omega
def nv (x : Int64) : Nat := x.toBitVec.toNat
theorem nv_lt (x : Int64) : nv x < 2 ^ 64 := x.toBitVec.isLt
theorem nv_su {x : Int64} {k : Nat} : nv (su x k) = nv x / 2 ^ k := by
  show (x.toBitVec >>> k).toNat = _
  rw [BitVec.toNat_ushiftRight, Nat.shiftRight_eq_div_pow]
  rfl
theorem nv_and {x y : Int64} : nv (x &&& y) = nv x &&& nv y := by
  show (x &&& y).toBitVec.toNat = _
  rw [Int64.toBitVec_and, BitVec.toNat_and]
  rfl
theorem nv_sub {x y : Int64} (h : nv y ≤ nv x) : nv (x - y) = nv x - nv y := by
  show (x - y).toBitVec.toNat = _
  rw [Int64.toBitVec_sub, BitVec.toNat_sub_of_le (by exact BitVec.le_def.mpr h)]
  rfl
theorem nv_add {x y : Int64} (h : nv x + nv y < 2 ^ 64) : nv (x + y) = nv x + nv y := by
  show (x + y).toBitVec.toNat = _
  rw [Int64.toBitVec_add, BitVec.toNat_add]
  exact Nat.mod_eq_of_lt h
theorem nv_tb {x : Int64} {i : Nat} : (nv x).testBit i = tb x i := rfl
theorem l2i_127 (x : Int64) : x.toInt32 &&& nI 127 = nI (nv x % 128) := by
  apply Int32.toBitVec_inj.mp
  apply BitVec.eq_of_toNat_eq
  rw [Int32.toBitVec_and, BitVec.toNat_and]
  have e1 : x.toInt32.toBitVec.toNat = nv x % 2 ^ 32 := by
    show (x.toBitVec.signExtend 32).toNat = _
    rw [BitVec.signExtend_eq_setWidth_of_le _ (by decide), BitVec.toNat_setWidth]
    rfl
  have e2 : (nI 127).toBitVec.toNat = 2 ^ 7 - 1 := by decide
  have e3 : (nI (nv x % 128)).toBitVec.toNat = nv x % 128 := by
    show (BitVec.ofNat 32 (nv x % 128)).toNat = _
    rw [BitVec.toNat_ofNat]
    omega
  rw [e1, e2, e3, Nat.and_two_pow_sub_one_eq_mod]
  omega
def popX (x : Int64) : Int64 := x - (su x 1 &&& 6148914691236517205)
def popY (x : Int64) : Int64 := (x &&& 3689348814741910323) + (su x 2 &&& 3689348814741910323)
def popZ (x : Int64) : Int64 := (x + su x 4) &&& 1085102592571150095
def popS (x : Int64) (k : Nat) : Int64 := x + su x k
theorem pop_3 (t0 t1 t2 t3 t4 t5 t6 c0 c1 c2 c3 c4 c5 c6 c7 : Nat) (a0 : c0 ≤ 8) (a1 : c1 ≤ 8) (a2 : c2 ≤ 8) (a3 : c3 ≤ 8) (a4 : c4 ≤ 8) (a5 : c5 ≤ 8) (a6 : c6 ≤ 8) (a7 : c7 ≤ 8) (e0 : t0 = c0 + 256 * t1) (e1 : t1 = c1 + 256 * t2) (e2 : t2 = c2 + 256 * t3) (e3 : t3 = c3 + 256 * t4) (e4 : t4 = c4 + 256 * t5) (e5 : t5 = c5 + 256 * t6) (e6 : t6 = c6 + 256 * c7) : t0 / 256 = t1 ∧ (t0 + t1) / 65536 = t2 + t3 ∧ (t0 + t1 + (t2 + t3)) / 4294967296 = t4 + t5 + (t6 + c7) := by
  refine ⟨by clear e1 e2 e3 e4 e5 e6; omega, by clear e3 e4 e5 e6; omega, ?_⟩
  have h0 : t0 = (c0 + 256 * c1 + 65536 * c2 + 16777216 * c3) + 4294967296 * t4 := by clear e4 e5 e6; omega
  have h1 : t1 = (c1 + 256 * c2 + 65536 * c3 + 16777216 * c4) + 4294967296 * t5 := by clear e0 e5 e6 h0; omega
  have h2 : t2 = (c2 + 256 * c3 + 65536 * c4 + 16777216 * c5) + 4294967296 * t6 := by clear e0 e1 e6 h0 h1; omega
  have h3 : t3 = (c3 + 256 * c4 + 65536 * c5 + 16777216 * c6) + 4294967296 * c7 := by clear e0 e1 e2 h0 h1 h2; omega
  clear e0 e1 e2 e3 e4 e5 e6
  omega
theorem pop_ok (x : Int64) : nv (popS (popS (popS (popZ (popY (popX x))) 8) 16) 32) % 128 = ct (tb x) 64 := by
  have hX : nv x < 256 ^ 8 := nv_lt x
  have c1 : nv (6148914691236517205 : Int64) = rb 85 8 := by decide +kernel
  have c2 : nv (3689348814741910323 : Int64) = rb 51 8 := by decide +kernel
  have c3 : nv (1085102592571150095 : Int64) = rb 15 8 := by decide +kernel
  have h1 : nv (popX x) = p1 8 (nv x) := by
    rw [popX, nv_sub (by rw [nv_and, nv_su]; exact Nat.le_trans Nat.and_le_left (Nat.div_le_self _ _)), nv_and, nv_su, c1]
    rfl
  have b2 : rb 51 8 = 3689348814741910323 := by decide +kernel
  have b3 : rb 15 8 = 1085102592571150095 := by decide +kernel
  have l2 : ∀ y, y &&& rb 51 8 ≤ rb 51 8 := fun y => Nat.and_le_right
  have l3 : ∀ y, y &&& rb 15 8 ≤ rb 15 8 := fun y => Nat.and_le_right
  have h2 : nv (popY (popX x)) = p2 8 (p1 8 (nv x)) := by
    have g1 := l2 (p1 8 (nv x))
    have g2 := l2 (p1 8 (nv x) / 2 ^ 2)
    rw [popY, nv_add (by rw [nv_and, nv_and, nv_su, c2, h1]; omega), nv_and, nv_and, nv_su, c2, h1]
    rfl
  have g3 : p2 8 (p1 8 (nv x)) ≤ 2 * rb 51 8 := by
    have g1 := l2 (p1 8 (nv x))
    have g2 := l2 (p1 8 (nv x) / 4)
    rw [p2]; omega
  have h3 : nv (popZ (popY (popX x))) = pA 8 (nv x) := by
    rw [popZ, nv_and, nv_add (by rw [nv_su, h2]; omega), nv_su, h2, c3]
    rfl
  obtain ⟨c0, c1, c2, c3, c4, c5, c6, c7, a0, a1, a2, a3, a4, a5, a6, a7, e1, e2⟩ := pA_8 (nv x) hX
  have e3 : ct (tb x) 64 = c0 + c1 + c2 + c3 + c4 + c5 + c6 + c7 := e2
  generalize q6 : c6 + 256 * c7 = t6 at e1
  generalize q5 : c5 + 256 * t6 = t5 at e1
  generalize q4 : c4 + 256 * t5 = t4 at e1
  generalize q3 : c3 + 256 * t4 = t3 at e1
  generalize q2 : c2 + 256 * t3 = t2 at e1
  generalize q1 : c1 + 256 * t2 = t1 at e1
  generalize q0 : c0 + 256 * t1 = t0 at e1
  rw [e1] at h3
  obtain ⟨r1, r2, r3⟩ := pop_3 t0 t1 t2 t3 t4 t5 t6 c0 c1 c2 c3 c4 c5 c6 c7 a0 a1 a2 a3 a4 a5 a6 a7 q0.symm q1.symm q2.symm q3.symm q4.symm q5.symm q6.symm
  have m6 : t6 ≤ 2056 := by omega
  have m5 : t5 ≤ 526344 := by omega
  have m4 : t4 ≤ 134744072 := by omega
  have m3 : t3 ≤ 34494482440 := by omega
  have m2 : t2 ≤ 8830587504648 := by omega
  have m1 : t1 ≤ 2260630401189896 := by omega
  have m0 : t0 ≤ 578721382704613384 := by omega
  generalize popZ (popY (popX x)) = y at h3
  have h4 : nv (popS y 8) = t0 + t1 := by
    rw [popS, nv_add (by rw [nv_su, h3]; clear r2 r3; omega), nv_su, h3, show 2 ^ 8 = 256 from rfl, r1]
  generalize popS y 8 = y4 at h4
  have h5 : nv (popS y4 16) = t0 + t1 + (t2 + t3) := by
    rw [popS, nv_add (by rw [nv_su, h4, show 2 ^ 16 = 65536 from rfl, r2]; clear r1 r2 r3; omega), nv_su, h4, show 2 ^ 16 = 65536 from rfl, r2]
  generalize popS y4 16 = y5 at h5
  have h6 : nv (popS y5 32) = t0 + t1 + (t2 + t3) + (t4 + t5 + (t6 + c7)) := by
    rw [popS, nv_add (by rw [nv_su, h5, show 2 ^ 32 = 4294967296 from rfl, r3]; clear r1 r2 r3; omega), nv_su, h5, show 2 ^ 32 = 4294967296 from rfl, r3]
  rw [h6, e3]
  clear r1 r2 r3 h3 h4 h5 h6 g3 l2 l3 b2 b3
  omega
