/-! ===== pure: a wave, waves, a round ===== -/
theorem encV_le {w h : Nat} {x : Int64} {c : Nat} : encV w h x c ≤ 49 := by
  unfold encV
  split
  · exact ct_le _ _
  · omega
noncomputable def wA (w h : Nat) (f : Nat → Int32) : Nat → Nat := encV w h (outF f (w * h) 0)
noncomputable def wB (w h : Nat) (f : Nat → Int32) : Nat → Nat := encV w h (outF f (w * h) 1)
theorem wA_le {w h : Nat} {f : Nat → Int32} {c : Nat} : wA w h f c ≤ 49 := encV_le
theorem wB_le {w h : Nat} {f : Nat → Int32} {c : Nat} : wB w h f c ≤ 49 := encV_le
/-- a cell c of a wave that is numbered k: cp is the number of the player who gets it -/
def wvC (k : Int32) (f : Nat → Int32) (c p : Nat) : Nat → Int32 := becF (va_up f (147 + p) (f (147 + p) + (if f c = nI (2 - p) then nI 1 else nI 0))) c (nI (3 + p)) k
def wvS (A B : Nat → Nat) (k : Int32) (f : Nat → Int32) (c : Nat) : Nat → Int32 := if A c = B c then f else wvC k f c (if B c < A c then 0 else 1)
def wvF (A B : Nat → Nat) (k : Int32) (f : Nat → Int32) : Nat → Nat → Int32
  | 0 => f
  | c + 1 => wvS A B k (wvF A B k f c) c
def wvN (A B : Nat → Nat) (n : Nat) : Nat := ct (fun i => decide (A i ≠ B i)) n
noncomputable def wnm (w h : Nat) (f : Nat → Int32) : Nat := wvN (wA w h f) (wB w h f) (w * h)
noncomputable def wst (w h k : Nat) (f : Nat → Int32) : Nat → Int32 := wvF (wA w h f) (wB w h f) (nI k) f (w * h)
noncomputable def wen (w h : Nat) (f g : Nat → Int32) : Nat → Int32 := encB (encB g (wA w h f) 0) (wB w h f) 1
theorem wen_a {w h : Nat} {f g : Nat → Int32} {c : Nat} (hc : c < 49) : wen w h f g c = nI (wA w h f c) := by
  rw [wen, encB, if_neg (by omega), encB, if_pos (by omega), Nat.mul_zero, Nat.sub_zero]
theorem wen_b {w h : Nat} {f g : Nat → Int32} {c : Nat} (hc : c < 49) : wen w h f g (49 + c) = nI (wB w h f c) := encB_at (p := 1) hc
theorem wvF_eq {A B : Nat → Nat} {k : Int32} {f : Nat → Int32} {c : Nat} (h : A c = B c) : wvF A B k f c = wvF A B k f (c + 1) := by rw [wvF, wvS, if_pos h]
theorem wvF_ne {A B : Nat → Nat} {k : Int32} {f : Nat → Int32} {c p : Nat} (h : ¬ A c = B c) (hp : p = if B c < A c then 0 else 1) : wvC k (wvF A B k f c) c p = wvF A B k f (c + 1) := by rw [wvF, wvS, if_neg h, hp]
theorem wvN_eq {A B : Nat → Nat} {c : Nat} (h : A c = B c) : wvN A B c = wvN A B (c + 1) := by simp [wvN, ct, h]
theorem wvN_ne {A B : Nat → Nat} {c : Nat} (h : ¬ A c = B c) : wvN A B c + 1 = wvN A B (c + 1) := by simp [wvN, ct, h]
theorem wvN_le {A B : Nat → Nat} {c : Nat} : wvN A B c ≤ c := ct_le _ _
/-- the waves of a round, from f on -/
noncomputable def wit (w h : Nat) (f : Nat → Int32) : Nat → Nat → Int32
  | 0 => f
  | k + 1 => wst w h k (wit w h f k)
/-- how many waves of the first k change a cell, if those before did -/
noncomputable def wgo (w h : Nat) (f : Nat → Int32) (k : Nat) : Prop := ∀ j, j < k → wnm w h (wit w h f j) ≠ 0
theorem wgo_s {w h : Nat} {f : Nat → Int32} {k : Nat} (h1 : wgo w h f k) (h2 : wnm w h (wit w h f k) ≠ 0) : wgo w h f (k + 1) := fun j hj => by
  by_cases e : j = k
  · rw [e]; exact h2
  · exact h1 j (by omega)
/-- W is the number of waves -/
def wcn (w h : Nat) (f : Nat → Int32) (W : Nat) : Prop := W ≤ 8 ∧ wgo w h f W ∧ (W = 8 ∨ wnm w h (wit w h f W) = 0)
theorem wcn_one {w h : Nat} {f : Nat → Int32} {a b : Nat} (h1 : wcn w h f a) (h2 : wcn w h f b) : a = b := by
  rcases Nat.lt_trichotomy a b with h | h | h
  · exact absurd (h1.2.2.resolve_left (by have := h2.1; omega)) (h2.2.1 a h)
  · exact h
  · exact absurd (h2.2.2.resolve_left (by have := h1.1; omega)) (h1.2.1 b h)
noncomputable def wsm (w h : Nat) (f : Nat → Int32) : Nat → Nat
  | 0 => 0
  | k + 1 => wsm w h f k + wnm w h (wit w h f k)
theorem wnm_le {w h : Nat} {f : Nat → Int32} : wnm w h f ≤ w * h := ct_le _ _
theorem wsm_le {w h : Nat} {f : Nat → Int32} : ∀ k, wsm w h f k ≤ k * (w * h)
  | 0 => Nat.zero_le _
  | k + 1 => by have h1 := wsm_le (w := w) (h := h) (f := f) k; have h2 := wnm_le (w := w) (h := h) (f := wit w h f k); rw [wsm, Nat.succ_mul]; omega
theorem wvF_id {A B : Nat → Nat} {k : Int32} {f : Nat → Int32} : ∀ n, wvN A B n = 0 → wvF A B k f n = f
  | 0, _ => rfl
  | n + 1, h => by
    have h2 : A n = B n := by
      by_cases e : A n = B n
      · exact e
      · have := wvN_ne e; omega
    rw [wvN, ct] at h
    rw [← wvF_eq h2]
    exact wvF_id n (by simp only [wvN]; omega)
theorem wst_id {w h k : Nat} {f : Nat → Int32} (h0 : wnm w h f = 0) : wst w h k f = f := wvF_id _ h0
/-- where a clash or two choices put what -/
def plP (f : Nat → Int32) (a : Int32) (x : Int32) : Nat → Int32 := if a = -1 then f else becF f a.toNatClampNeg x (-1)
def plC (rule s0 s1 : Int32) (f : Nat → Int32) (a b : Int32) : Nat → Int32 :=
  if a = b ∧ a ≠ -1 then (if rule = 0 ∨ (rule = nI 2 ∧ s0 = s1) then becF f a.toNatClampNeg (nI 5) (-1) else if rule = nI 2 then becF f a.toNatClampNeg (if s0 < s1 then nI 1 else nI 2) (-1) else f)
  else plP (plP f a (nI 1)) b (nI 2)
def plK (f : Nat → Int32) (a b : Int32) (cl : Nat) : Nat → Int32 := va_up (va_up (va_up f 149 (f 149 + (if a = -1 then nI 1 else nI 0))) 150 (f 150 + (if b = -1 then nI 1 else nI 0))) 151 (f 151 + nI cl)
def plQ (f : Nat → Int32) (a b : Int32) (W : Nat) : Nat → Int32 := va_up (va_up (va_up f 152 (f 152 + nI W)) 154 (if a = -1 ∧ b = -1 then nI 1 else nI 0)) 153 (f 153 + nI 1)
def clN (a b : Int32) : Nat := if a = b ∧ a ≠ -1 then 1 else 0
/-- the position, its clash made, before its waves -/
def plM (rule : Int32) (n : Nat) (f g : Nat → Int32) (a b : Int32) : Nat → Int32 := plK (plC rule (scF f g n 0) (scF f g n 1) f a b) a b (clN a b)
theorem va_up_same {α : Type} (f : Nat → α) (k : Nat) : va_up f k (f k) = f := by
  funext i
  by_cases e : i = k
  · rw [e, va_up_self]
  · rw [va_up_ne _ _ e]
def scS (sc : Nat → Int32) (x y u : Int32) : Nat → Int32 := va_up (va_up (va_up sc 22 x) 23 y) 24 u
def arS (ar : Nat → Nat → Int32) (v e cb : Nat → Int32) : Nat → Nat → Int32 := va_up (va_up (va_up ar 20 e) 21 cb) 5 v
theorem arS_0 (ar : Nat → Nat → Int32) (v : Nat → Int32) : va_up ar 5 v = arS ar v (ar 20) (ar 21) := by
  rw [arS, va_up_same, va_up_same]
theorem arS_w {ar : Nat → Nat → Int32} {v e cb v2 e2 : Nat → Int32} : va_up (va_up (arS ar v e cb) 20 e2) 5 v2 = arS ar v2 e2 cb := by
  funext i
  by_cases h1 : i = 5 <;> by_cases h2 : i = 20 <;> by_cases h3 : i = 21 <;> simp [arS, va_up, h1, h2, h3] <;> omega
theorem arS_c {ar : Nat → Nat → Int32} {v e cb c2 : Nat → Int32} : va_up (arS ar v e cb) 21 c2 = arS ar v e c2 := by
  funext i
  by_cases h1 : i = 5 <;> by_cases h2 : i = 20 <;> by_cases h3 : i = 21 <;> simp [arS, va_up, h1, h2, h3] <;> omega
theorem arS_v {ar : Nat → Nat → Int32} {v e cb v2 : Nat → Int32} : va_up (arS ar v e cb) 5 v2 = arS ar v2 e cb := by rw [arS, bx_uu, arS]
theorem scS_cw {sc : Nat → Int32} {x y u y2 u2 : Int32} : va_up (va_up (scS sc x y u) 24 u2) 23 y2 = scS sc x y2 u2 := by
  funext i
  by_cases h1 : i = 22 <;> by_cases h2 : i = 23 <;> by_cases h3 : i = 24 <;> simp [scS, va_up, h1, h2, h3] <;> omega
theorem scS_scS {sc : Nat → Int32} {x y u x2 y2 u2 : Int32} : scS (scS sc x y u) x2 y2 u2 = scS sc x2 y2 u2 := by
  funext i
  by_cases h1 : i = 22 <;> by_cases h2 : i = 23 <;> by_cases h3 : i = 24 <;> simp [scS, va_up, h1, h2, h3] <;> omega
theorem arS_arS {ar : Nat → Nat → Int32} {v e cb v2 e2 cb2 : Nat → Int32} : arS (arS ar v e cb) v2 e2 cb2 = arS ar v2 e2 cb2 := by
  funext i
  by_cases h1 : i = 5 <;> by_cases h2 : i = 20 <;> by_cases h3 : i = 21 <;> simp [arS, va_up, h1, h2, h3] <;> omega
/-- a round has been played from f by a and b: g is the position after it, W its waves, u the cells that they changed -/
def plR (w h : Nat) (rule : Int32) (f g : Nat → Int32) (a b : Int32) (W : Nat) (f2 : Nat → Int32) : Prop := wcn w h (plM rule (w * h) f g a b) W ∧ f2 = plQ (wit w h (plM rule (w * h) f g a b) W) a b W
theorem nI20 : (nI 2 = 0) = False := by simp only [eq_iff_iff, iff_false]; decide
