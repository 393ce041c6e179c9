section HI
variable {D D2 : Nat → RD} {r : Nat}
theorem smX_c : ∀ r, (∀ i, i < r → D2 i = D i) → smX D2 r = smX D r
  | 0, _ => rfl
  | r + 1, h => by rw [smX, smX, smX_c r (fun i hi => h i (by omega)), h r (by omega)]
theorem rtX_e {q : Nat} : ∀ r, (∀ i, i < r → D2 i = D i) → rtX D2 q r = rtX D q r ∧ wtX D2 q r = wtX D q r
  | 0, _ => ⟨rfl, rfl⟩
  | r + 1, h => by
    obtain ⟨h1, h2⟩ := rtX_e (q := q) r (fun i hi => h i (by omega))
    rw [rtX, rtX, wtX, wtX, h1, h2, h r (by omega)]; exact ⟨rfl, rfl⟩
theorem paX_e {p : Nat} (h : ∀ i, i < r → D2 i = D i) : paX D2 p r = paX D p r := ct_cong (fun i hi => by rw [h i hi])
theorem clX_e (h : ∀ i, i < r → D2 i = D i) : clX D2 r = clX D r := ct_cong (fun i hi => by rw [h i hi])
/-- both sides keep the same history -/
def hisI (w h pl : Nat) (D : Nat → RD) (rows : Nat → Nat → Int32) : Prop := ∀ r, r ≤ pl → rows r 153 = nI r ∧ rows r 149 = nI (paX D 0 r) ∧ rows r 150 = nI (paX D 1 r) ∧ rows r 151 = nI (clX D r) ∧ rows r 152 = nI (smX D r) ∧ rows r 154 = (if 0 < r ∧ (D (r - 1)).1 0 = -1 ∧ (D (r - 1)).1 1 = -1 then nI 1 else nI 0) ∧ stA (w * h) (rows r) ∧ cpB (rows r) (392 * r) ∧ ∀ c, c < w * h → rows r (49 + c) = rtX D c r ∧ rows r (98 + c) = wtX D c r
theorem stA_c {n : Nat} {f f2 : Nat → Int32} (hn : n ≤ 49) (he : ∀ k, k < 155 → f2 k = f k) (h : stA n f) : stA n f2 := fun c hc => by rw [he c (by omega)]; exact h c hc
theorem cpB_c {m : Nat} {f f2 : Nat → Int32} (he : ∀ k, k < 155 → f2 k = f k) (h : cpB f m) : cpB f2 m := by
  obtain ⟨a, b, h1, h2, h3, h4⟩ := h
  exact ⟨a, b, h1, h2, by rw [he _ (by omega)]; exact h3, by rw [he _ (by omega)]; exact h4⟩
/-- the history depends on what is kept of the rows and of the rounds played -/
theorem his_cong {w h pl : Nat} {rows rows2 : Nat → Nat → Int32} (hn : w * h ≤ 49) (hd : ∀ i, i < pl → D2 i = D i) (he : ∀ r, r ≤ pl → ∀ k, k < 155 → rows2 r k = rows r k) (hI : hisI w h pl D rows) : hisI w h pl D2 rows2 := fun r hr => by
  obtain ⟨h1, h2, h3, h4, h5, h6, h7, h8, h9⟩ := hI r hr
  have hd2 : ∀ i, i < r → D2 i = D i := fun i hi => hd i (by omega)
  have he2 := he r hr
  refine ⟨by rw [he2 _ (by omega)]; exact h1, by rw [he2 _ (by omega), paX_e hd2]; exact h2, by rw [he2 _ (by omega), paX_e hd2]; exact h3, by rw [he2 _ (by omega), clX_e hd2]; exact h4, by rw [he2 _ (by omega), smX_c r hd2]; exact h5, ?_, stA_c hn he2 h7, cpB_c he2 h8, fun c hc => ?_⟩
  · rw [he2 _ (by omega), h6]
    by_cases e : 0 < r
    · rw [hd2 (r - 1) (by omega)]
    · rw [if_neg (fun q => e q.1), if_neg (fun q => e q.1)]
  · rw [he2 _ (by omega), he2 _ (by omega), (rtX_e r hd2).1, (rtX_e r hd2).2]; exact h9 c hc
theorem gmP_c {n pl : Nat} {rows rows2 : Nat → Nat → Int32} (hn : n ≤ 49) (he : ∀ r, r ≤ pl → ∀ k, k < 155 → rows2 r k = rows r k) (hP : gmP n pl D rows) : gmP n pl D rows2 := by
  have e : ∀ d r, r ≤ pl → psM n d (rows r) → psM n d (rows2 r) := fun d r hr h => by
    obtain ⟨h1, h2, h3⟩ := h
    exact ⟨by rw [he r hr _ (by omega)]; exact h1, by rw [he r hr _ (by omega)]; exact h2, by rw [h3]; exact psS_cong (fun c hc => (he r hr c (by omega)).symm)⟩
  exact ⟨hP.1, e _ 0 (by omega) hP.2.1, fun r hr => e _ _ (by omega) (hP.2.2 r hr)⟩
theorem his_le {w h pl pl2 : Nat} {rows : Nat → Nat → Int32} (hl : pl2 ≤ pl) (hI : hisI w h pl D rows) : hisI w h pl2 D rows := fun r hr => hI r (by omega)
theorem ct_s {p : Nat → Bool} {k : Nat} : ct p (k + 1) = ct p k + (if p k = true then 1 else 0) := by
  by_cases e : p k = true
  · rw [if_pos e, ix_s e]
  · rw [if_neg e, ix_n (by simpa using e)]
theorem paX_s {p r : Nat} : paX D p (r + 1) = paX D p r + (if (D r).1 p = -1 then 1 else 0) := by
  rw [paX, ct_s]; simp only [decide_eq_true_eq]; rfl
theorem clX_s {r : Nat} : clX D (r + 1) = clX D r + (if (D r).1 0 = (D r).1 1 ∧ (D r).1 0 ≠ -1 then 1 else 0) := by
  rw [clX, ct_s]; simp only [decide_eq_true_eq]; rfl
/-- a round more -/
theorem his_add {w h pl : Nat} {rows : Nat → Nat → Int32} {ru x y a b : Int32} (hn : w * h ≤ 49) (hI : hisI w h pl D rows) (hru : ∃ r0, r0 ≤ 2 ∧ ru = nI r0) (ha : chOK (w * h) a) (hb : chOK (w * h) b) : hisI w h (pl + 1) (s1D w h ru x y pl D rows a b) (s1R w h ru x y pl rows a b) := fun r hr => by
  have hd : ∀ k, k ≤ pl → ∀ i, i < k → s1D w h ru x y pl D rows a b i = D i := fun k hk i hi => va_up_ne _ _ (by omega)
  by_cases e : r = pl + 1
  · subst e
    obtain ⟨h1, h2, h3, h4, h5, h6, h7, h8, h9⟩ := hI pl (Nat.le_refl _)
    have er : s1R w h ru x y pl rows a b (pl + 1) = plV w h ru (rows pl) (bnO x y) a b := va_up_self _ _ _
    have ed : s1D w h ru x y pl D rows a b pl = rdOf (w * h) (scC a b (scF (plV w h ru (rows pl) (bnO x y) a b) (bnO x y) (w * h) 0) (scF (plV w h ru (rows pl) (bnO x y) a b) (bnO x y) (w * h) 1) (D pl).1) (mkX a b (stK ru (ldF (rows pl) (w * h) x y))) (wvU w h (plM ru (w * h) (rows pl) (bnO x y) a b) (goW w h ru (rows pl) (bnO x y) a b)) (plV w h ru (rows pl) (bnO x y) a b) := va_up_self _ _ _
    have e0 : (s1D w h ru x y pl D rows a b pl).1 0 = a := by rw [ed]; simp [rdOf, scC, ccF, va_up]
    have e1 : (s1D w h ru x y pl D rows a b pl).1 1 = b := by rw [ed]; simp [rdOf, scC, ccF, va_up]
    have eu : (s1D w h ru x y pl D rows a b pl).2.2.1 = wvU w h (plM ru (w * h) (rows pl) (bnO x y) a b) (goW w h ru (rows pl) (bnO x y) a b) := by rw [ed]; rfl
    obtain ⟨p1, p2, p3, p4, p5⟩ := plV_149 (ru := ru) (f := rows pl) (g := bnO x y) hn ha hb
    have hdp := hd pl (Nat.le_refl _)
    rw [er]
    refine ⟨plV_153 hn ha hb h1, ?_, ?_, ?_, ?_, ?_, plV_st hn ha hb h7, ?_, fun c hc => ?_⟩
    · rw [p1, h2, paX_s, paX_e hdp, e0]
      by_cases q : a = -1
      · rw [if_pos q, if_pos q, nI_add]
      · rw [if_neg q, if_neg q, nI_add]
    · rw [p2, h3, paX_s, paX_e hdp, e1]
      by_cases q : b = -1
      · rw [if_pos q, if_pos q, nI_add]
      · rw [if_neg q, if_neg q, nI_add]
    · rw [p3, h4, clX_s, clX_e hdp, e0, e1, nI_add, clN]
    · have hw9 : wcn w h (plM ru (w * h) (rows pl) (bnO x y) a b) (goW w h ru (rows pl) (bnO x y) a b) := wC_ok w h _
      rw [p4, h5, smX, smX_c pl hdp, eu, wvn_W hn hw9, nI_add]
    · rw [p5, Nat.add_sub_cancel, e0, e1]
      by_cases q : a = -1 ∧ b = -1
      · rw [if_pos q, if_pos ⟨by omega, q⟩]
      · rw [if_neg q, if_neg (fun z => q z.2)]
    · rw [show 392 * (pl + 1) = 392 * pl + 392 by omega]; exact cp_plV hn ha hb h8
    · obtain ⟨v1, v2⟩ := plV_w (d := ldF (rows pl) (w * h) x y) (f := rows pl) (g := bnO x y) (c9 := scC a b (scF (plV w h ru (rows pl) (bnO x y) a b) (bnO x y) (w * h) 0) (scF (plV w h ru (rows pl) (bnO x y) a b) (bnO x y) (w * h) 1) (D pl).1) (f9 := plV w h ru (rows pl) (bnO x y) a b) hru hn ha hb hc
      rw [v1, v2, rtX, wtX, (rtX_e pl hdp).1, (rtX_e pl hdp).2, (h9 c hc).1, (h9 c hc).2, h1, ed]
      exact ⟨rfl, rfl⟩
  · have e2 : s1R w h ru x y pl rows a b r = rows r := va_up_ne _ _ e
    exact his_cong (pl := pl) hn (hd pl (Nat.le_refl _)) (fun r9 hr9 k hk => by rw [show s1R w h ru x y pl rows a b r9 = rows r9 from va_up_ne _ _ (by omega)]) hI r (by omega)
/-- the end, on both sides -/
theorem his_end {w h pl : Nat} {rows : Nat → Nat → Int32} (hp : pl ≤ 60) (h0 : mny (rows 0) (w * h) (nI 0) ≠ 0) (hI : hisI w h pl D rows) : endP pl (w * h) D rows ↔ ovF (rows pl) (w * h) := by
  obtain ⟨h1, h2, h3, h4, h5, h6, _⟩ := hI pl (Nat.le_refl _)
  rw [endP, ovF, h1, h6]
  have e : (nI pl = nI 60) ↔ 60 ≤ pl := by rw [nI_eq (by omega) (by omega)]; omega
  have e2 : (if 0 < pl ∧ (D (pl - 1)).1 0 = -1 ∧ (D (pl - 1)).1 1 = -1 then nI 1 else nI 0) = nI 1 ↔ (0 < pl ∧ (D (pl - 1)).1 0 = -1 ∧ (D (pl - 1)).1 1 = -1) := by
    by_cases q : 0 < pl ∧ (D (pl - 1)).1 0 = -1 ∧ (D (pl - 1)).1 1 = -1
    · rw [if_pos q]; exact ⟨fun _ => q, fun _ => rfl⟩
    · rw [if_neg q]; exact ⟨fun z => absurd z (by decide), fun z => absurd z q⟩
  rw [e, e2]
  constructor
  · rintro ⟨q0, q | q | q⟩
    · exact Or.inl ⟨q0, q⟩
    · exact Or.inr (Or.inr q)
    · exact Or.inr (Or.inl q)
  · rintro (q | q | q)
    · exact ⟨q.1, Or.inl q.2⟩
    · exact ⟨by omega, Or.inr (Or.inr q)⟩
    · refine ⟨?_, Or.inr (Or.inl q)⟩
      rcases Nat.eq_zero_or_pos pl with z | z
      · subst z; exact absurd q h0
      · exact z
end HI
