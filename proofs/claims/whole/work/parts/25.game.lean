/-! ===== pure: what a round keeps; a round as a function of the arrays ===== -/
def clP (n : Nat) (P : (Nat → Int32) → Prop) : Prop := (∀ (f : Nat → Int32) (c : Nat) (x y : Int32), c < n → (y = -1 ∨ ∃ k, k < 8 ∧ y = nI k) → (∃ s, s ≤ 5 ∧ x = nI s) → P f → P (becF f c x y)) ∧ (∀ (f : Nat → Int32) (i : Nat) (x : Int32), 147 ≤ i → i ≤ 152 → P f → P (va_up f i x))
section CL
variable {w h n : Nat} {P : (Nat → Int32) → Prop}
theorem cl_wvF (hc : clP n P) {A B : Nat → Nat} {k : Nat} (hk : k < 8) {f : Nat → Int32} (h1 : P f) : ∀ m, m ≤ n → P (wvF A B (nI k) f m)
  | 0, _ => h1
  | m + 1, hm => by
    have h2 := cl_wvF hc (A := A) (B := B) hk h1 m (by omega)
    rw [wvF, wvS]
    split
    · exact h2
    · refine hc.1 _ _ _ _ (by omega) (Or.inr ⟨k, hk, rfl⟩) ⟨3 + if B m < A m then 0 else 1, by split <;> omega, rfl⟩ (hc.2 _ _ _ (by omega) (by split <;> omega) h2)
theorem cl_wit (hc : clP (w * h) P) {f : Nat → Int32} (h1 : P f) : ∀ k, k ≤ 8 → P (wit w h f k)
  | 0, _ => h1
  | k + 1, hk => cl_wvF hc (by omega) (cl_wit hc h1 k (by omega)) _ (Nat.le_refl _)
theorem cl_plP (hc : clP n P) (hn : n ≤ 49) {f : Nat → Int32} {a : Int32} {s : Nat} (hs : s ≤ 5) (ha : chOK n a) (h1 : P f) : P (plP f a (nI s)) := by
  rw [plP]
  split
  · exact h1
  · next hne =>
    obtain ⟨j, hj, rfl⟩ := ha.resolve_left hne
    rw [nI_clamp (by omega)]
    exact hc.1 _ _ _ _ hj (Or.inl rfl) ⟨s, hs, rfl⟩ h1
theorem cl_plM (hc : clP n P) (hn : n ≤ 49) {rule : Int32} {f g : Nat → Int32} {a b : Int32} (ha : chOK n a) (hb : chOK n b) (h1 : P f) : P (plM rule n f g a b) := by
  refine hc.2 _ _ _ (by omega) (by omega) (hc.2 _ _ _ (by omega) (by omega) (hc.2 _ _ _ (by omega) (by omega) ?_))
  rw [plC]
  split
  · next q =>
    obtain ⟨j, hj, rfl⟩ := ha.resolve_left q.2
    rw [nI_clamp (by omega)]
    split
    · exact hc.1 _ _ _ _ hj (Or.inl rfl) ⟨5, by omega, rfl⟩ h1
    · split
      · split
        · exact hc.1 _ _ _ _ hj (Or.inl rfl) ⟨1, by omega, rfl⟩ h1
        · exact hc.1 _ _ _ _ hj (Or.inl rfl) ⟨2, by omega, rfl⟩ h1
      · exact h1
  · exact cl_plP hc hn (by omega) hb (cl_plP hc hn (by omega) ha h1)
end CL
theorem becF_at {f : Nat → Int32} {c i : Nat} {x y : Int32} (h1 : i ≠ c) (h2 : i ≠ 49 + c) (h3 : i ≠ 98 + c) : becF f c x y i = f i := by rw [becF, va_up_ne _ _ h3, va_up_ne _ _ h2, va_up_ne _ _ h1]
theorem cl_153 {n : Nat} (hn : n ≤ 49) (v : Int32) : clP n (fun f => f 153 = v) := ⟨fun f c x y hc _ _ h => (becF_at (by omega) (by omega) (by omega)).trans h, fun f i x h1 h2 h => (va_up_ne _ _ (by omega)).trans h⟩
/-- since and wave of every cell are such as a round before the sixtieth leaves them -/
def wvA (n : Nat) (f : Nat → Int32) : Prop := ∀ c, c < n → wvOK f c
theorem wvOK_eq {f g : Nat → Int32} {c : Nat} (h1 : g (49 + c) = f (49 + c)) (h2 : g (98 + c) = f (98 + c)) (h : wvOK f c) : wvOK g c := by
  rcases h with q | ⟨sn, wn, q1, q2, q3, q4⟩
  · exact Or.inl (h2.trans q)
  · exact Or.inr ⟨sn, wn, q1, q2, h1.trans q3, h2.trans q4⟩
theorem cl_wv {n : Nat} (hn : n ≤ 49) {pl : Nat} (hp : pl < 60) : clP n (fun f => f 153 = nI pl ∧ wvA n f) := by
  refine ⟨fun f c x y hc hy _ h => ⟨(cl_153 hn _).1 f c x y hc hy ‹_› h.1, fun d hd => ?_⟩, fun f i x h1 h2 h => ⟨(cl_153 hn _).2 f i x h1 h2 h.1, fun d hd => wvOK_eq (va_up_ne _ _ (by omega)) (va_up_ne _ _ (by omega)) (h.2 d hd)⟩⟩
  by_cases e : d = c
  · subst e
    have e1 : becF f d x y (98 + d) = y := va_up_self _ _ _
    have e2 : becF f d x y (49 + d) = f 153 := by rw [becF, va_up_ne _ _ (by omega), va_up_self]
    rcases hy with rfl | ⟨k, hk, rfl⟩
    · exact Or.inl e1
    · exact Or.inr ⟨pl, k, hp, hk, e2.trans h.1, e1⟩
  · exact wvOK_eq (becF_at (by omega) (by omega) (by omega)) (becF_at (by omega) (by omega) (by omega)) (h.2 d hd)
/-- every cell has a state -/
def stA (n : Nat) (f : Nat → Int32) : Prop := ∀ c, c < n → ∃ s, s ≤ 5 ∧ f c = nI s
theorem cl_st {n : Nat} (hn : n ≤ 49) : clP n (stA n) := by
  refine ⟨fun f c x y hc hy hx h d hd => ?_, fun f i x h1 h2 h d hd => ?_⟩
  · by_cases e : d = c
    · subst e
      obtain ⟨s, hs, rfl⟩ := hx
      exact ⟨s, hs, by rw [becF, va_up_ne _ _ (by omega), va_up_ne _ _ (by omega), va_up_self]⟩
    · obtain ⟨s, hs, e2⟩ := h d hd
      exact ⟨s, hs, (becF_at (by omega) (by omega) (by omega)).trans e2⟩
  · obtain ⟨s, hs, e2⟩ := h d hd
    exact ⟨s, hs, (va_up_ne _ _ (by omega)).trans e2⟩
section PV
variable {w h pl : Nat} {rule : Int32} {f g : Nat → Int32} {a b : Int32}
theorem plQ_lo {W i : Nat} (hi : i < 152) : plQ f a b W i = f i := by rw [plQ, va_up_ne _ _ (by omega), va_up_ne _ _ (by omega), va_up_ne _ _ (by omega)]
theorem plV_lo (hn : w * h ≤ 49) {i : Nat} (hi : i < 152) : plV w h rule f g a b i = wit w h (plM rule (w * h) f g a b) (wC w h (plM rule (w * h) f g a b)) i := plQ_lo hi
theorem plV_153 (hn : w * h ≤ 49) (ha : chOK (w * h) a) (hb : chOK (w * h) b) (hp : f 153 = nI pl) : plV w h rule f g a b 153 = nI (pl + 1) := by
  have h1 := cl_wit (cl_153 hn (nI pl)) (cl_plM (rule := rule) (g := g) (cl_153 hn (nI pl)) hn ha hb hp) _ (wC_ok w h (plM rule (w * h) f g a b)).1
  rw [plV, plQ, va_up_self, h1, nI_add]
theorem plV_wv (hn : w * h ≤ 49) (ha : chOK (w * h) a) (hb : chOK (w * h) b) (hp : f 153 = nI pl) (hp60 : pl < 60) (hw : wvA (w * h) f) : wvA (w * h) (plV w h rule f g a b) := fun c hc => by
  have h1 := cl_wit (cl_wv hn hp60) (cl_plM (rule := rule) (g := g) (cl_wv hn hp60) hn ha hb ⟨hp, hw⟩) _ (wC_ok w h (plM rule (w * h) f g a b)).1
  exact wvOK_eq (plV_lo hn (by omega)) (plV_lo hn (by omega)) (h1.2 c hc)
theorem plV_st (hn : w * h ≤ 49) (ha : chOK (w * h) a) (hb : chOK (w * h) b) (hs : stA (w * h) f) : stA (w * h) (plV w h rule f g a b) := fun c hc => by
  obtain ⟨s, h2, h3⟩ := cl_wit (cl_st hn) (cl_plM (rule := rule) (g := g) (cl_st hn) hn ha hb hs) _ (wC_ok w h (plM rule (w * h) f g a b)).1 c hc
  exact ⟨s, h2, (plV_lo hn (by omega)).trans h3⟩
end PV
/-- how many waves, how many cells they change, and wave by wave -/
noncomputable def goW (w h : Nat) (rule : Int32) (f g : Nat → Int32) (a b : Int32) : Nat := wC w h (plM rule (w * h) f g a b)
noncomputable def goU (w h : Nat) (rule : Int32) (f g : Nat → Int32) (a b : Int32) : Nat := wsm w h (plM rule (w * h) f g a b) (goW w h rule f g a b)
noncomputable def goB (w h : Nat) (rule : Int32) (f g : Nat → Int32) (a b : Int32) : Nat → Int32 := fun j => nI (wnm w h (wit w h (plM rule (w * h) f g a b) j))
noncomputable def goC (w h : Nat) (rule : Int32) (ar : Nat → Nat → Int32) (pl : Nat) (a b : Int32) : Nat → Nat → Int32 := va_up (va_up (va_up (va_up ar 8 (putF (ar 5) (155 * pl) (ar 8) 155)) 5 (plV w h rule (ar 5) (ar 4) a b)) 9 (infR (ar 9) (7 * pl) a b (nI (clN a b)) (nI (goW w h rule (ar 5) (ar 4) a b)) (nI (goU w h rule (ar 5) (ar 4) a b)) (scF (plV w h rule (ar 5) (ar 4) a b) (ar 4) (w * h) 0) (scF (plV w h rule (ar 5) (ar 4) a b) (ar 4) (w * h) 1))) 10 (putF (goB w h rule (ar 5) (ar 4) a b) (8 * pl) (ar 10) (goW w h rule (ar 5) (ar 4) a b))
def arE (ar : Nat → Nat → Int32) (e cb : Nat → Int32) : Nat → Nat → Int32 := va_up (va_up ar 20 e) 21 cb
theorem putF_c {g q f : Nat → Int32} {o n : Nat} (h : ∀ j, j < n → g j = q j) : putF g o f n = putF q o f n := by
  funext k
  simp only [putF]
  by_cases e : o ≤ k ∧ k < o + n
  · rw [if_pos e, if_pos e]; exact h _ (by omega)
  · rw [if_neg e, if_neg e]
theorem goA_C {w h : Nat} {rule : Int32} {ar : Nat → Nat → Int32} {pl : Nat} {a b : Int32} {W : Nat} {e cb f2 : Nat → Int32} (hR : plR w h rule (ar 5) (ar 4) a b W f2) (hcb : ∀ j, j < W → cb j = nI (wnm w h (wit w h (plM rule (w * h) (ar 5) (ar 4) a b) j))) : W = goW w h rule (ar 5) (ar 4) a b ∧ wsm w h (plM rule (w * h) (ar 5) (ar 4) a b) W = goU w h rule (ar 5) (ar 4) a b ∧ goA w h ar pl a b W (wsm w h (plM rule (w * h) (ar 5) (ar 4) a b) W) e cb f2 = arE (goC w h rule ar pl a b) e cb := by
  obtain ⟨hW, hf⟩ := plR_V hR
  have hW2 : W = goW w h rule (ar 5) (ar 4) a b := hW
  refine ⟨hW2, by rw [hW2]; rfl, ?_⟩
  have hp : putF cb (8 * pl) (ar 10) W = putF (goB w h rule (ar 5) (ar 4) a b) (8 * pl) (ar 10) (goW w h rule (ar 5) (ar 4) a b) := by rw [← hW2]; exact putF_c hcb
  funext i
  rw [goA_0, hp, hf, hW2]
  simp only [arE, goC, arS, goU]
  by_cases e1 : i = 5 <;> by_cases e2 : i = 8 <;> by_cases e3 : i = 9 <;> by_cases e4 : i = 10 <;> by_cases e5 : i = 20 <;> by_cases e6 : i = 21 <;> simp [va_up, e1, e2, e3, e4, e5, e6] <;> omega
theorem goC_v {w h : Nat} {rule : Int32} {ar : Nat → Nat → Int32} {pl : Nat} {a b : Int32} : goC w h rule ar pl a b 5 = plV w h rule (ar 5) (ar 4) a b := rfl
