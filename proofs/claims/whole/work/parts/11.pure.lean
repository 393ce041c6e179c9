/-! ===== pure: counts, sets of cells as bits, floods ===== -/
def ct (p : Nat → Bool) : Nat → Nat
  | 0 => 0
  | n + 1 => ct p n + (if p n then 1 else 0)
theorem ct_le (p : Nat → Bool) : ∀ n, ct p n ≤ n
  | 0 => Nat.le_refl _
  | n + 1 => by have := ct_le p n; simp only [ct]; split <;> omega
theorem ct_cong {p q : Nat → Bool} : ∀ {n : Nat}, (∀ k, k < n → p k = q k) → ct p n = ct q n
  | 0, _ => rfl
  | n + 1, h => by rw [ct, ct, ct_cong (n := n) (fun k hk => h k (by omega)), h n (by omega)]
theorem ct_sub {p q : Nat → Bool} : ∀ {n : Nat}, (∀ k, k < n → p k = true → q k = true) → ct p n ≤ ct q n
  | 0, _ => Nat.le_refl _
  | n + 1, h => by
    have h1 := ct_sub (n := n) (fun k hk => h k (by omega))
    have h2 := h n (by omega)
    simp only [ct]
    by_cases hp : p n = true
    · simp [hp, h2 hp]; exact h1
    · by_cases hq : q n = true <;> simp [hp, hq] <;> omega
theorem ct_lt {p q : Nat → Bool} : ∀ {n i : Nat}, (∀ k, k < n → p k = true → q k = true) → i < n → p i = false → q i = true → ct p n < ct q n
  | 0, _, _, hi, _, _ => absurd hi (Nat.not_lt_zero _)
  | n + 1, i, h, hi, hp, hq => by
    simp only [ct]
    by_cases e : i = n
    · subst e
      have h1 := ct_sub (n := i) (fun k hk => h k (by omega))
      simp [hp, hq]; omega
    · have h1 := ct_lt (n := n) (i := i) (fun k hk => h k (by omega)) (by omega) hp hq
      have h2 := h n (by omega)
      by_cases hn : p n = true
      · simp [hn, h2 hn]; exact h1
      · by_cases hq : q n = true <;> simp [hn, hq] <;> omega
theorem ct_0 {p : Nat → Bool} : ∀ {n : Nat}, ct p n = 0 ↔ ∀ k, k < n → p k = false
  | 0 => by simp [ct]
  | n + 1 => by
    simp only [ct]
    constructor
    · intro h k hk
      by_cases hp : p n = true
      · simp [hp] at h
      · have h0 : ct p n = 0 := by omega
        by_cases e : k = n
        · subst e; simpa using hp
        · exact ct_0.mp h0 k (by omega)
    · intro h
      rw [ct_0.mpr (fun k hk => h k (by omega)), h n (by omega)]
      rfl
theorem ct_or {p q : Nat → Bool} : ∀ {n : Nat}, (∀ k, k < n → ¬ (p k = true ∧ q k = true)) → ct (fun k => p k || q k) n = ct p n + ct q n
  | 0, _ => rfl
  | n + 1, h => by
    have h1 := ct_or (n := n) (fun k hk => h k (by omega))
    have h2 := h n (by omega)
    simp only [ct]
    rw [h1]
    by_cases hp : p n = true <;> by_cases hq : q n = true <;> simp [hp, hq] at h2 ⊢ <;> omega
/-- the set of the cells under n with p -/
def bitsF (p : Nat → Bool) : Nat → Int64
  | 0 => 0
  | n + 1 => bitsF p n ||| (if p n then sl 1 n else 0)
theorem tb_bitsF (p : Nat → Bool) : ∀ n, n ≤ 64 → ∀ i, tb (bitsF p n) i = (decide (i < n) && p i)
  | 0, _, i => by simp [bitsF, tb_0]
  | n + 1, h, i => by
    rw [bitsF, tb_or, tb_bitsF p n (by omega) i]
    by_cases e : i = n
    · subst e
      cases hp : p i
      · simp [tb_0]
      · simp [tb_one, show i < 64 by omega]
    · cases hp : p n
      · by_cases h2 : i < n
        · simp [tb_0, h2, show i < n + 1 by omega]
        · simp [tb_0, h2, show ¬ i < n + 1 by omega]
      · by_cases h2 : i < n
        · simp [tb_one, e, h2, show i < n + 1 by omega]
        · simp [tb_one, e, h2, show ¬ i < n + 1 by omega]
def allF (n : Nat) : Int64 := bitsF (fun _ => true) n
theorem allF_eq : ∀ n, n < 50 → sl 1 n - 1 = allF n := by decide +kernel
theorem tb_all {n : Nat} (h : n ≤ 64) (i : Nat) : tb (allF n) i = decide (i < n) := by rw [allF, tb_bitsF _ n h]; simp
/-- a column of w by h cells -/
def colF (w k : Nat) : Nat → Int64
  | 0 => 0
  | r + 1 => colF w k r ||| sl 1 (r * w + k)
theorem tb_colF {w k : Nat} (hk : k < w) : ∀ h, h * w ≤ 64 → ∀ i, tb (colF w k h) i = (decide (i < h * w) && decide (i % w = k))
  | 0, _, i => by simp [colF, tb_0]
  | r + 1, hr, i => by
    have e1 : (r + 1) * w = r * w + w := Nat.succ_mul r w
    rw [colF, tb_or, tb_colF hk r (by omega) i, tb_one]
    by_cases h1 : i < r * w
    · simp [h1, show i < (r + 1) * w by omega, show i ≠ r * w + k by omega]
    · by_cases h2 : i < (r + 1) * w
      · obtain ⟨j, rfl⟩ : ∃ j, i = r * w + j := ⟨i - r * w, by omega⟩
        have hj : j < w := by omega
        have hm : (r * w + j) % w = j := by rw [Nat.add_comm, Nat.add_mul_mod_self_right, Nat.mod_eq_of_lt hj]
        rw [hm]
        simp [h2, show r * w + j < 64 by omega]
      · simp [h1, h2, show i ≠ r * w + k by omega]
/-- one step of a flood; a row, the edge -/
def five (w h : Nat) (s : Int64) : Int64 := s ||| su (s &&& (colF w 0 h ^^^ (-1))) 1 ||| sl (s &&& (colF w (w - 1) h ^^^ (-1))) 1 ||| su s w ||| sl s w
def stp (w h : Nat) (within s : Int64) : Int64 := five w h s &&& within
def itr {α : Type} (f : α → α) : Nat → α → α
  | 0, a => a
  | n + 1, a => f (itr f n a)
def fld (w h : Nat) (within s : Int64) : Int64 := itr (stp w h within) (w * h) s
def edgF (w h : Nat) : Int64 := colF w 0 h ||| colF w (w - 1) h ||| allF w ||| sl (allF w) ((h - 1) * w)
def sub (x y : Int64) : Prop := ∀ i, tb x i = true → tb y i = true
/-- cells side by side -/
def nb (w a b : Nat) : Prop := (b = a + 1 ∧ a % w ≠ w - 1) ∨ (a = b + 1 ∧ b % w ≠ w - 1) ∨ b = a + w ∨ a = b + w
theorem nb_symm {w a b : Nat} (h : nb w a b) : nb w b a := by
  rcases h with h | h | h | h
  · exact Or.inr (Or.inl h)
  · exact Or.inl h
  · exact Or.inr (Or.inr (Or.inr h))
  · exact Or.inr (Or.inr (Or.inl h))
theorem tb_five {w h : Nat} (hw : 1 ≤ w) (hn : w * h ≤ 64) {s : Int64} (hs : ∀ j, tb s j = true → j < w * h) {i : Nat} (hi : i < w * h) : tb (five w h s) i = true ↔ tb s i = true ∨ ∃ j, tb s j = true ∧ nb w j i := by
  have hn' : h * w ≤ 64 := by rw [Nat.mul_comm]; exact hn
  have hi' : i < h * w := by rw [Nat.mul_comm]; exact hi
  have c0 : ∀ j, tb (colF w 0 h) j = (decide (j < h * w) && decide (j % w = 0)) := tb_colF (by omega) h hn'
  have c1 : ∀ j, tb (colF w (w - 1) h) j = (decide (j < h * w) && decide (j % w = w - 1)) := tb_colF (by omega) h hn'
  have key : ∀ j : Nat, (j + 1) % w = 0 ↔ j % w = w - 1 := by
    intro j
    have h1 := Nat.mod_add_div j w
    have h2 := Nat.mod_lt j (show 0 < w by omega)
    constructor
    · intro h3
      have h4 : (j + 1) % w = (j % w + 1) % w := by rw [Nat.add_mod, Nat.add_mod (j % w)]; simp
      rw [h3] at h4
      by_cases h5 : j % w + 1 < w
      · rw [Nat.mod_eq_of_lt h5] at h4; omega
      · omega
    · intro h3
      have h4 : (j + 1) % w = (j % w + 1) % w := by rw [Nat.add_mod, Nat.add_mod (j % w)]; simp
      rw [h4, h3, show w - 1 + 1 = w by omega, Nat.mod_self]
  simp only [five, tb_or, tb_su, tb_sl, tb_and, tb_not, c0, c1, Bool.or_eq_true, Bool.and_eq_true, Bool.not_eq_true', decide_eq_true_eq, Bool.and_eq_false_iff, decide_eq_false_iff_not]
  constructor
  · rintro ((((h1 | ⟨h1, h2, h3⟩) | ⟨h1, h2, h3, h4, h5⟩) | h1) | ⟨h1, h2, h3⟩)
    · exact Or.inl h1
    · refine Or.inr ⟨1 + i, h1, Or.inr (Or.inl ⟨by omega, fun e => ?_⟩)⟩
      have := hs _ h1
      rcases h3 with h3 | h3
      · exact h3 (by rw [Nat.mul_comm]; exact this)
      · exact h3 (by rw [Nat.add_comm]; exact (key i).mpr e)
    · refine Or.inr ⟨i - 1, h3, Or.inl ⟨by omega, fun e => ?_⟩⟩
      have := hs _ h3
      rcases h5 with h5 | h5
      · exact h5 (by rw [Nat.mul_comm]; exact this)
      · exact h5 e
    · exact Or.inr ⟨w + i, h1, Or.inr (Or.inr (Or.inr (by omega)))⟩
    · exact Or.inr ⟨i - w, h3, Or.inr (Or.inr (Or.inl (by omega)))⟩
  · rintro (h1 | ⟨j, h1, h2 | h2 | h2 | h2⟩)
    · exact Or.inl (Or.inl (Or.inl (Or.inl h1)))
    · refine Or.inl (Or.inl (Or.inr ⟨by omega, by omega, ?_, by omega, ?_⟩))
      · rw [show i - 1 = j by omega]; exact h1
      · rw [show i - 1 = j by omega]; exact Or.inr h2.2
    · have hj := hs _ h1
      refine Or.inl (Or.inl (Or.inl (Or.inr ⟨?_, by omega, ?_⟩)))
      · rw [show 1 + i = j by omega]; exact h1
      · refine Or.inr (fun e => h2.2 ?_)
        rw [Nat.add_comm] at e
        exact (key i).mp e
    · refine Or.inr ⟨by omega, by omega, ?_⟩
      rw [show i - w = j by omega]; exact h1
    · refine Or.inl (Or.inr ?_)
      rw [show w + i = j by omega]; exact h1
