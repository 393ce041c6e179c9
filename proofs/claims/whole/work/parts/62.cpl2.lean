section CR
variable {w h n : Nat} {ru x y : Int32} {f g : Nat → Int32} {a b : Int32} {c : Nat}
theorem plP_153 {v : Int32} (ha : chOK n a) (hn : n ≤ 49) {i : Nat} (hi : 147 ≤ i) : plP f a v i = f i := by
  rw [plP]
  rcases ha with rfl | ⟨j, hj, rfl⟩
  · rw [if_pos rfl]
  · split
    · rfl
    · rw [nI_clamp (by omega)]; exact becF_at (by omega) (by omega) (by omega)
theorem stK_0 {d : Int32} : stK ru d = 0 ↔ ru = nI 1 := by
  rw [stK]
  by_cases e : ru = nI 1
  · simp [e]
  · rw [if_neg e]
    constructor
    · intro q; split at q
      · omega
      · split at q <;> omega
    · intro q; exact absurd q e
theorem plC_pl {s0 s1 : Int32} (hru : ∃ r0, r0 ≤ 2 ∧ ru = nI r0) (hab : a = b) (h1 : a ≠ -1) (h2 : ru ≠ nI 1) : ∃ v, plC ru s0 s1 f a b = plP f a v := by
  rw [plC, if_pos ⟨hab, h1⟩]
  have e : ∀ v, plP f a v = becF f a.toNatClampNeg v (-1) := fun v => if_neg h1
  split
  · exact ⟨_, (e _).symm⟩
  · next q =>
    have h3 : ru = nI 2 := by
      obtain ⟨r0, q1, rfl⟩ := hru
      rcases (show r0 = 0 ∨ r0 = 1 ∨ r0 = 2 by omega) with rfl | rfl | rfl
      · exact absurd (Or.inl nI_0) q
      · exact absurd rfl h2
      · rfl
    rw [if_pos h3]; exact ⟨_, (e _).symm⟩
theorem plC_n {s0 s1 : Int32} (hab : a = b) (h1 : a ≠ -1) (h2 : ru = nI 1) : plC ru s0 s1 f a b = f := by
  subst h2
  rw [plC, if_pos ⟨hab, h1⟩, if_neg (fun q => q.elim (by decide) (fun z => absurd z.1 (by decide))), if_neg (by decide)]
theorem plM_w {d : Int32} (hru : ∃ r0, r0 ≤ 2 ∧ ru = nI r0) (hn : n ≤ 49) (ha : chOK n a) (hb : chOK n b) (hc : c < n) : plM ru n f g a b (98 + c) = (if tb (mkX a b (stK ru d)) c = true then -1 else f (98 + c)) ∧ plM ru n f g a b (49 + c) = (if tb (mkX a b (stK ru d)) c = true then f 153 else f (49 + c)) := by
  rw [plM_lo (by omega), plM_lo (by omega)]
  by_cases hab : a = b
  · rw [mkX, if_pos hab]
    have e1 := givX_tb (s := stK ru d) ha hn hc
    by_cases h1 : a = -1
    · have e2 : ¬ a = nI c := fun q => by
        have h9 : (nI c).toInt = -1 := by rw [← q, h1]; decide
        rw [nI_toInt (by omega)] at h9; omega
      rw [if_neg (fun q => e2 (e1.mp q).1), if_neg (fun q => e2 (e1.mp q).1), plC, if_neg (fun q => q.2 h1), plP, if_pos (hab ▸ h1), plP, if_pos h1]
      exact ⟨rfl, rfl⟩
    · by_cases h2 : ru = nI 1
      · have e3 : ¬ tb (givX a (stK ru d)) c = true := fun q => (e1.mp q).2 (stK_0.mpr h2)
        rw [if_neg e3, if_neg e3, plC_n hab h1 h2]; exact ⟨rfl, rfl⟩
      · obtain ⟨v, hv⟩ := plC_pl (f := f) (s0 := scF f g n 0) (s1 := scF f g n 1) hru hab h1 h2
        have e4 : tb (givX a (stK ru d)) c = true ↔ a = nI c := e1.trans ⟨fun q => q.1, fun q => ⟨q, fun z => h2 (stK_0.mp z)⟩⟩
        obtain ⟨p1, p2⟩ := plP_w (f := f) (x := v) ha hn hc
        rw [hv, p1, p2]
        simp only [e4, and_self]
  · rw [mkX, if_neg hab, plC, if_neg (fun q => hab q.1)]
    obtain ⟨p1, p2⟩ := plP_w (f := plP f a (nI 1)) (x := nI 2) hb hn hc
    obtain ⟨q1, q2⟩ := plP_w (f := f) (x := nI 1) ha hn hc
    have e1 := givX_tb (s := 1) ha hn hc
    have e2 := givX_tb (s := 2) hb hn hc
    rw [p1, p2, q1, q2, plP_153 ha hn (by omega)]
    have e3 : tb (givX a 1 ||| givX b 2) c = true ↔ (b = nI c ∨ a = nI c) := by
      rw [tb_or, Bool.or_eq_true, e1, e2]
      constructor
      · rintro (q | q)
        · exact Or.inr q.1
        · exact Or.inl q.1
      · rintro (q | q)
        · exact Or.inr ⟨q, by omega⟩
        · exact Or.inl ⟨q, by omega⟩
    simp only [e3]
    by_cases u1 : b = nI c
    · simp [u1]
    · by_cases u2 : a = nI c <;> simp [u1, u2]
theorem plM_153 (hn : n ≤ 49) (ha : chOK n a) (hb : chOK n b) {i : Nat} (hi : 152 ≤ i) : plM ru n f g a b i = f i := by
  rw [plM, plK, va_up_ne _ _ (by omega), va_up_ne _ _ (by omega), va_up_ne _ _ (by omega), plC_hi hn ha hb (by omega)]
theorem plV_w {d : Int32} {c9 : Nat → Int32} {f9 : Nat → Int32} (hru : ∃ r0, r0 ≤ 2 ∧ ru = nI r0) (hn : w * h ≤ 49) (ha : chOK (w * h) a) (hb : chOK (w * h) b) (hc : c < w * h) :
    plV w h ru f g a b (98 + c) = @ite _ (chX (rdOf (w * h) c9 (mkX a b (stK ru d)) (wvU w h (plM ru (w * h) f g a b) (goW w h ru f g a b)) f9) c) (Classical.propDecidable _) (lwv (wvU w h (plM ru (w * h) f g a b) (goW w h ru f g a b)) c 8) (f (98 + c)) ∧
    plV w h ru f g a b (49 + c) = @ite _ (chX (rdOf (w * h) c9 (mkX a b (stK ru d)) (wvU w h (plM ru (w * h) f g a b) (goW w h ru f g a b)) f9) c) (Classical.propDecidable _) (f 153) (f (49 + c)) := by
  have hW := wC_ok w h (plM ru (w * h) f g a b)
  obtain ⟨h1, h2⟩ := wit_w (F := plM ru (w * h) f g a b) hn (W := goW w h ru f g a b) hc (goW w h ru f g a b) (Nat.le_refl _) (by have := hW.1; rw [goW]; omega)
  obtain ⟨h3, h4⟩ := plM_w (d := d) (f := f) (g := g) hru hn ha hb hc
  have h5 := lwv_W (q := c) (wvU_z (w := w) (h := h) (F := plM ru (w * h) f g a b) (W := goW w h ru f g a b)) 8 hW.1
  have h6 := plM_153 (ru := ru) (f := f) (g := g) hn ha hb (i := 153) (by omega)
  rw [plV_lo hn (by omega), plV_lo hn (by omega)]
  rw [goW] at h1 h2 h5 ⊢
  rw [h1, h2, h3, h4, h5, h6]
  have ec : chX (rdOf (w * h) c9 (mkX a b (stK ru d)) (wvU w h (plM ru (w * h) f g a b) (wC w h (plM ru (w * h) f g a b))) f9) c ↔ (tb (mkX a b (stK ru d)) c = true ∨ ¬ lwv (wvU w h (plM ru (w * h) f g a b) (wC w h (plM ru (w * h) f g a b))) c (wC w h (plM ru (w * h) f g a b)) < 0) := by
    rw [← h5]; exact Iff.rfl
  by_cases u1 : lwv (wvU w h (plM ru (w * h) f g a b) (wC w h (plM ru (w * h) f g a b))) c (wC w h (plM ru (w * h) f g a b)) < 0
  · have u3 : lwv (wvU w h (plM ru (w * h) f g a b) (wC w h (plM ru (w * h) f g a b))) c (wC w h (plM ru (w * h) f g a b)) = -1 := by
      rcases lwv_c (u := wvU w h (plM ru (w * h) f g a b) (wC w h (plM ru (w * h) f g a b))) (q := c) (wC w h (plM ru (w * h) f g a b)) with z | ⟨j, z1, z2⟩
      · exact z
      · rw [z2, Int32.lt_iff_toInt_lt, nI_toInt (by have := hW.1; omega)] at u1
        exact absurd u1 (by show ¬ (j : Int) < 0; omega)
    by_cases u2 : tb (mkX a b (stK ru d)) c = true
    · rw [if_pos u1, if_pos u1, if_pos u2, if_pos u2, if_pos (ec.mpr (Or.inl u2)), if_pos (ec.mpr (Or.inl u2)), u3]; exact ⟨rfl, rfl⟩
    · have u4 := mt ec.mp (fun q => q.elim u2 (fun z => z u1))
      rw [if_pos u1, if_pos u1, if_neg u2, if_neg u2, if_neg u4, if_neg u4]; exact ⟨rfl, rfl⟩
  · rw [if_neg u1, if_neg u1, if_pos (ec.mpr (Or.inr u1)), if_pos (ec.mpr (Or.inr u1))]; exact ⟨rfl, rfl⟩
theorem plV_149 (hn : w * h ≤ 49) (ha : chOK (w * h) a) (hb : chOK (w * h) b) : plV w h ru f g a b 149 = f 149 + (if a = -1 then nI 1 else nI 0) ∧ plV w h ru f g a b 150 = f 150 + (if b = -1 then nI 1 else nI 0) ∧ plV w h ru f g a b 151 = f 151 + nI (clN a b) ∧ plV w h ru f g a b 152 = f 152 + nI (goW w h ru f g a b) ∧ plV w h ru f g a b 154 = (if a = -1 ∧ b = -1 then nI 1 else nI 0) := by
  have e : ∀ i, 149 ≤ i → wit w h (plM ru (w * h) f g a b) (wC w h (plM ru (w * h) f g a b)) i = plM ru (w * h) f g a b i := fun i hi => wit_149 hn hi _
  refine ⟨?_, ?_, ?_, ?_, ?_⟩
  · rw [plV_lo hn (by omega), e _ (by omega), plM, plK, va_up_ne _ _ (by omega), va_up_ne _ _ (by omega), va_up_self, plC_hi hn ha hb (by omega)]
  · rw [plV_lo hn (by omega), e _ (by omega), plM, plK, va_up_ne _ _ (by omega), va_up_self, plC_hi hn ha hb (by omega)]
  · rw [plV_lo hn (by omega), e _ (by omega), plM, plK, va_up_self, plC_hi hn ha hb (by omega)]
  · rw [plV, plQ, va_up_ne _ _ (by omega), va_up_ne _ _ (by omega), va_up_self, e _ (by omega), plM_153 hn ha hb (by omega), goW]
  · rw [plV, plQ, va_up_ne _ _ (by omega), va_up_self]
end CR
