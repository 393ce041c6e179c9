/-! ===== the two games, one history: a round more ===== -/
section CW
variable {A B : Nat → Nat} {k : Int32} {f : Nat → Int32}
theorem wvF_149 {i : Nat} (hi : 149 ≤ i) : ∀ m, m ≤ 49 → wvF A B k f m i = f i
  | 0, _ => rfl
  | m + 1, hm => by
    rw [wvF, wvS]
    split
    · exact wvF_149 hi m (by omega)
    · have hp : (if B m < A m then 0 else 1) ≤ 1 := by split <;> omega
      rw [wvC, becF_at (by omega) (by omega) (by omega), va_up_ne _ _ (by omega)]
      exact wvF_149 hi m (by omega)
theorem wvF_w : ∀ m, m ≤ 49 → ∀ c, c < 49 → wvF A B k f m (98 + c) = (if c < m ∧ A c ≠ B c then k else f (98 + c)) ∧ wvF A B k f m (49 + c) = (if c < m ∧ A c ≠ B c then f 153 else f (49 + c))
  | 0, _, c, _ => by rw [if_neg (by omega), if_neg (by omega), wvF]; exact ⟨rfl, rfl⟩
  | m + 1, hm, c, hc => by
    obtain ⟨ih1, ih2⟩ := wvF_w m (by omega) c hc
    rw [wvF, wvS]
    by_cases e : A m = B m
    · rw [if_pos e, ih1, ih2]
      have : (c < m ∧ A c ≠ B c) ↔ (c < m + 1 ∧ A c ≠ B c) := by
        constructor
        · rintro ⟨h1, h2⟩; exact ⟨by omega, h2⟩
        · rintro ⟨h1, h2⟩
          refine ⟨?_, h2⟩
          rcases Nat.lt_or_ge c m with q | q
          · exact q
          · exact absurd (by rw [show c = m by omega]; exact e) h2
      simp only [this, and_self]
    · have hp : (if B m < A m then 0 else 1) ≤ 1 := by split <;> omega
      rw [if_neg e, wvC]
      by_cases e2 : c = m
      · subst e2
        refine ⟨?_, ?_⟩
        · rw [becF, va_up_self]; exact (if_pos ⟨Nat.lt_succ_self c, e⟩).symm
        · rw [becF, va_up_ne _ _ (by omega), va_up_self, va_up_ne _ _ (by omega), wvF_149 (by omega) c (by omega)]
          exact (if_pos ⟨Nat.lt_succ_self c, e⟩).symm
      · have : (c < m ∧ A c ≠ B c) ↔ (c < m + 1 ∧ A c ≠ B c) := by constructor <;> (rintro ⟨h1, h2⟩; exact ⟨by omega, h2⟩)
        refine ⟨?_, ?_⟩
        · rw [becF_at (by omega) (by omega) (by omega), va_up_ne _ _ (by omega), ih1]; simp only [this]
        · rw [becF_at (by omega) (by omega) (by omega), va_up_ne _ _ (by omega), ih2]; simp only [this]
end CW
section CX
variable {w h : Nat} {F : Nat → Int32}
theorem wit_149 (hn : w * h ≤ 49) {i : Nat} (hi : 149 ≤ i) : ∀ k, wit w h F k i = F i
  | 0 => rfl
  | k + 1 => by rw [wit, wst, wvF_149 hi _ hn]; exact wit_149 hn hi k
theorem tb_chM (hn : w * h ≤ 49) {f : Nat → Int32} {c : Nat} (hc : c < w * h) : tb (chM w h f) c = decide (wA w h f c ≠ wB w h f c) := by
  rw [chM, tb_bitsF _ _ (by omega)]; simp [hc]
theorem wit_w (hn : w * h ≤ 49) {W : Nat} {c : Nat} (hc : c < w * h) : ∀ k, k ≤ W → k < 1000 → wit w h F k (98 + c) = (if lwv (wvU w h F W) c k < 0 then F (98 + c) else lwv (wvU w h F W) c k) ∧ wit w h F k (49 + c) = (if lwv (wvU w h F W) c k < 0 then F (49 + c) else F 153)
  | 0, _, _ => by rw [lwv, if_pos (by decide), if_pos (by decide)]; exact ⟨rfl, rfl⟩
  | k + 1, hk, hk2 => by
    obtain ⟨h1, h2⟩ := wit_w hn (W := W) hc k (by omega) (by omega)
    obtain ⟨h3, h4⟩ := wvF_w (A := wA w h (wit w h F k)) (B := wB w h (wit w h F k)) (k := nI k) (f := wit w h F k) (w * h) hn c (by omega)
    have eu : wvU w h F W k = chM w h (wit w h F k) := if_pos (by omega)
    have e9 := tb_chM hn (f := wit w h F k) hc
    have ew : wit w h F (k + 1) = wvF (wA w h (wit w h F k)) (wB w h (wit w h F k)) (nI k) (wit w h F k) (w * h) := rfl
    rw [ew, h3, h4, lwv, eu, e9, wit_149 hn (i := 153) (by omega)]
    by_cases e : wA w h (wit w h F k) c ≠ wB w h (wit w h F k) c
    · have hz : ¬ nI k < 0 := by rw [Int32.lt_iff_toInt_lt, nI_toInt (by omega)]; show ¬ (k : Int) < 0; omega
      have hh : c < w * h ∧ wA w h (wit w h F k) c ≠ wB w h (wit w h F k) c := ⟨hc, e⟩
      simp only [if_pos hh, decide_eq_true e, if_true, if_neg hz, and_self]
    · have hh : ¬ (c < w * h ∧ wA w h (wit w h F k) c ≠ wB w h (wit w h F k) c) := fun q => e q.2
      simp only [if_neg hh, decide_eq_false e, Bool.false_eq_true, if_false]
      exact ⟨h1, h2⟩
theorem lwv_W {u : Nat → Int64} {q W : Nat} (hu : ∀ j, W ≤ j → u j = 0) : ∀ k, W ≤ k → lwv u q k = lwv u q W
  | 0, hk => by rw [show W = 0 by omega]
  | k + 1, hk => by
    rcases Nat.lt_or_ge k W with q1 | q1
    · rw [show W = k + 1 by omega]
    · rw [lwv, hu k q1, tb_0, if_neg (by decide)]; exact lwv_W hu k q1
theorem wvU_z {W : Nat} : ∀ j, W ≤ j → wvU w h F W j = 0 := fun j hj => if_neg (by omega)
theorem wvn_W (hn : w * h ≤ 49) {W : Nat} (hW : wcn w h F W) : wvn (wvU w h F W) 8 = W := by
  have h8 : ∀ k, k ≤ W → wvn (wvU w h F W) k = k := fun k => by
    induction k with
    | zero => intro _; rfl
    | succ k ih =>
      intro hk
      have e : wvU w h F W k = chM w h (wit w h F k) := if_pos (by omega)
      rw [← wvn_t (by rw [e]; exact fun q => hW.2.1 k (by omega) ((chM_0 hn).mp q)), ih (by omega)]
  have h9 : ∀ k, W ≤ k → wvn (wvU w h F W) k = W := fun k => by
    induction k with
    | zero => intro hk; rw [show W = 0 by omega]; rfl
    | succ k ih =>
      intro hk
      rcases Nat.lt_or_ge k W with q | q
      · rw [h8 (k + 1) (by omega)]; omega
      · rw [← wvn_f (wvU_z k q), ih q, Nat.add_zero]
  exact h9 8 hW.1
theorem ct_chM (hn : w * h ≤ 49) {f : Nat → Int32} : ct (tb (chM w h f)) 64 = wnm w h f := by
  rw [ct_64 (n := w * h) (by omega) (fun i hi => by rw [chM, tb_bitsF _ _ (by omega)] at hi; simp at hi; exact hi.1), wnm, wvN]
  exact ct_cong (fun i hi => tb_chM hn hi)
theorem cbw_W (hn : w * h ≤ 49) {W : Nat} (hW : W ≤ 8) : cbw (wvU w h F W) 8 = wsm w h F W := by
  have h8 : ∀ k, k ≤ W → cbw (wvU w h F W) k = wsm w h F k := fun k => by
    induction k with
    | zero => intro _; rfl
    | succ k ih =>
      intro hk
      have e : wvU w h F W k = chM w h (wit w h F k) := if_pos (by omega)
      rw [cbw, wsm, ih (by omega), e, ct_chM hn]
  have h9 : ∀ k, W ≤ k → cbw (wvU w h F W) k = wsm w h F W := fun k => by
    induction k with
    | zero => intro hk; rw [show W = 0 by omega]; rfl
    | succ k ih =>
      intro hk
      rcases Nat.lt_or_ge k W with q | q
      · rw [h8 (k + 1) (by omega), show W = k + 1 by omega]
      · rw [cbw, ih q, wvU_z k q, show ct (tb 0) 64 = 0 from ct_0.mpr (fun i _ => tb_0 i), Nat.add_zero]
  exact h9 8 hW
end CX
section CM
variable {n : Nat} {ru : Int32} {f g : Nat → Int32} {a b : Int32} {c : Nat}
theorem plP_w {x : Int32} (ha : chOK n a) (hn : n ≤ 49) (hc : c < n) : plP f a x (98 + c) = (if a = nI c then -1 else f (98 + c)) ∧ plP f a x (49 + c) = (if a = nI c then f 153 else f (49 + c)) := by
  rw [plP]
  rcases ha with rfl | ⟨j, hj, rfl⟩
  · have hz : ¬ (-1 : Int32) = nI c := fun q => by
      have h9 : (nI c).toInt = -1 := by rw [← q]; decide
      rw [nI_toInt (by omega)] at h9; omega
    rw [if_pos rfl, if_neg hz, if_neg hz]; exact ⟨rfl, rfl⟩
  · have hz : ¬ nI j = -1 := fun q => by
      have h9 : (nI j).toInt = -1 := by rw [q]; decide
      rw [nI_toInt (by omega)] at h9; omega
    rw [if_neg hz, nI_clamp (by omega)]
    by_cases e : j = c
    · subst e
      rw [if_pos rfl, if_pos rfl]
      refine ⟨va_up_self _ _ _, ?_⟩
      rw [becF, va_up_ne _ _ (by omega), va_up_self]
    · have e2 : ¬ nI j = nI c := fun q => e ((nI_eq (by omega) (by omega)).mp q)
      rw [if_neg e2, if_neg e2]
      exact ⟨becF_at (by omega) (by omega) (by omega), becF_at (by omega) (by omega) (by omega)⟩
theorem givX_tb {s : Nat} (ha : chOK n a) (hn : n ≤ 49) (hc : c < n) : tb (givX a s) c = true ↔ (a = nI c ∧ s ≠ 0) := by
  rw [givX]
  rcases ha with rfl | ⟨j, hj, rfl⟩
  · have hz : ¬ (-1 : Int32) = nI c := fun q => by
      have h9 : (nI c).toInt = -1 := by rw [← q]; decide
      rw [nI_toInt (by omega)] at h9; omega
    rw [if_pos (Or.inl rfl), tb_0]
    exact ⟨fun q => (by cases q), fun q => absurd q.1 hz⟩
  · have hz : ¬ nI j = -1 := fun q => by
      have h9 : (nI j).toInt = -1 := by rw [q]; decide
      rw [nI_toInt (by omega)] at h9; omega
    by_cases e : s = 0
    · rw [if_pos (Or.inr e), tb_0]
      exact ⟨fun q => (by cases q), fun q => absurd e q.2⟩
    · rw [if_neg (fun q => q.elim hz e), nI_clamp (by omega), tb_one, nI_eq (by omega) (by omega)]
      simp only [Bool.and_eq_true, decide_eq_true_eq]
      exact ⟨fun q => ⟨q.2.symm, e⟩, fun q => ⟨by omega, q.1.symm⟩⟩
end CM
