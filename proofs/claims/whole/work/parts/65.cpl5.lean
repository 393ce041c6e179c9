section UN
variable {w h pl pl2 : Nat} {D D2 : Nat → RD} {ru x y a b : Int32} {ar ar2 : Nat → Nat → Int32}
/-- what the coupling of a game with its past depends on -/
theorem cpl_cong (hn : w * h ≤ 49) (hC : cplI w h ru x y pl D ar) (h5 : ∀ k, k < 155 → ar2 5 k = ar 5 k) (h8 : ∀ k, k < 155 * pl → ar2 8 k = ar 8 k) (h9 : ∀ k, k < 7 * pl → ar2 9 k = ar 9 k) (h10 : ∀ k, k < 8 * pl → ar2 10 k = ar 10 k) (h4 : ar2 4 0 = x ∧ ar2 4 1 = y) (hd : ∀ i, i < pl → D2 i = D i) (hd60 : D2 60 = D 60) (hT : gmT D2) : cplI w h ru x y pl D2 ar2 := by
  obtain ⟨c1, c2, c3, c4, c5, c6⟩ := hC
  have he : ∀ r, r ≤ pl → ∀ k, k < 155 → hisR ar2 pl r k = hisR ar pl r k := fun r hr k hk => by
    rw [hisR, hisR]
    by_cases e : r = pl
    · rw [if_pos e, if_pos e]; exact h5 k hk
    · rw [if_neg e, if_neg e]; exact h8 _ (by omega)
  have c2' := gmP_c hn he c2
  refine ⟨his_cong hn hd he c1, ⟨c2'.1, by rw [hd60]; exact c2'.2.1, fun r hr => by rw [hd r hr]; exact c2'.2.2 r hr⟩, hT, fun r hr => ?_, by rw [mny_c hn (he 0 (by omega))]; exact c5, h4⟩
  obtain ⟨i0, i1, i2, i3, i4, i5, i6, i7, i8⟩ := c4 r hr
  rw [hd r hr]
  refine ⟨i0, (h9 _ (by omega)).trans i1, (h9 _ (by omega)).trans i2, (h9 _ (by omega)).trans i3, (h9 _ (by omega)).trans i4, (h9 _ (by omega)).trans i5, (h9 _ (by omega)).trans i6, (h9 _ (by omega)).trans i7, fun k hk hu => (h10 _ (by omega)).trans (i8 k hk hu)⟩
/-- back to an earlier round -/
theorem cpl_back (hn : w * h ≤ 49) (hC : cplI w h ru x y pl D ar) (hl : pl2 < pl) (h5 : ∀ k, k < 155 → ar2 5 k = ar 8 (155 * pl2 + k)) (h8 : ar2 8 = ar 8) (h9 : ar2 9 = ar 9) (h10 : ar2 10 = ar 10) (h4 : ar2 4 = ar 4) : cplI w h ru x y pl2 D ar2 := by
  obtain ⟨c1, c2, c3, c4, c5, c6⟩ := hC
  have he : ∀ r, r ≤ pl2 → ∀ k, k < 155 → hisR ar2 pl2 r k = hisR ar pl r k := fun r hr k hk => by
    rw [hisR, hisR, if_neg (show ¬ r = pl by omega)]
    by_cases e : r = pl2
    · rw [if_pos e, e]; exact h5 k hk
    · rw [if_neg e, h8]
  have c2l : gmP (w * h) pl2 D (hisR ar pl) := ⟨by have := c2.1; omega, c2.2.1, fun r hr => c2.2.2 r (by omega)⟩
  refine ⟨his_cong hn (fun _ _ => rfl) he (his_le (by omega) c1), gmP_c hn he c2l, c3, fun r hr => ?_, by rw [mny_c hn (he 0 (by omega))]; exact c5, by rw [h4]; exact c6⟩
  rw [h9, h10]; exact c4 r (by omega)
theorem cpl_undo (hn : w * h ≤ 49) (hC : cplI w h ru x y pl D ar) (hp : pl ≠ 0) : cplI w h ru x y (pl - 1) D (va_up ar 5 (rowF (ar 8) (155 * (pl - 1)) (ar 5) 155)) :=
  cpl_back hn hC (by omega) (fun k hk => by rw [va_up_self, rowF, if_pos hk]) (va_up_ne _ _ (by omega)) (va_up_ne _ _ (by omega)) (va_up_ne _ _ (by omega)) (va_up_ne _ _ (by omega))
theorem hd_bg (hw : 4 ≤ w) (hh : 4 ≤ h) (hn : w * h ≤ 49) {f : Nat → Int32} : ∀ k, (∀ c, c < w * h → hdF (w * h) w h k c = bgF w h f k c) ∧ hdF (w * h) w h k 147 = nI 0 ∧ hdF (w * h) w h k 148 = nI 0 ∧ ∀ i, 49 ≤ i → i < 155 → bgF w h f k i = (if i < 147 then -1 else nI 0)
  | 0 => ⟨fun c hc => by rw [hdF, bgF, bg0, if_pos (by omega), if_neg (by omega)], rfl, rfl, fun i h1 h2 => by
      rw [bgF, bg0, if_pos h2]
      by_cases e : i < 147
      · rw [if_pos ⟨h1, e⟩, if_pos e]
      · rw [if_neg (fun q => e q.2), if_neg e]⟩
  | k + 1 => by
    obtain ⟨h1, h2, h3, h4⟩ := hd_bg hw hh hn (f := f) k
    have hc9 := hcC_lt (w := w) (h := h) (i := k) hw hh
    have hv : chOK (w * h) (nI (hcC w h k)) := Or.inr ⟨_, hc9, rfl⟩
    have hne : ¬ nI (hcC w h k) = -1 := fun q => by
      have h9 : (nI (hcC w h k)).toInt = -1 := by rw [q]; decide
      rw [nI_toInt (by omega)] at h9; omega
    have hge : ∀ i, w * h ≤ i → givF (w * h) (nI (hcC w h k)) 2 (hdF (w * h) w h k) i = hdF (w * h) w h k i := fun i hi => by
      rw [givF]; split
      · rfl
      · rw [turF, if_neg (fun q => absurd q.1 (by omega))]
    refine ⟨fun c hc => ?_, (hge _ (by omega)).trans h2, (hge _ (by omega)).trans h3, fun i q1 q2 => ?_⟩
    · rw [hdF, giv_c hv hn hc (by omega), bgF]
      by_cases e : hcC w h k = c
      · rw [e, if_pos rfl, va_up_self]
      · rw [if_neg (fun q => e ((nI_eq (by omega) (by omega)).mp q)), va_up_ne _ _ (fun q => e q.symm)]; exact h1 c hc
    · rw [bgF, va_up_ne _ _ (by omega)]; exact h4 i q1 q2
theorem bg_st (hw : 4 ≤ w) (hh : 4 ≤ h) (hn : w * h ≤ 49) {f : Nat → Int32} : ∀ k c, c < w * h → bgF w h f k c = nI 0 ∨ bgF w h f k c = nI 2
  | 0, c, hc => Or.inl (by rw [bgF, bg0, if_pos (by omega), if_neg (by omega)])
  | k + 1, c, hc => by
    rw [bgF]
    by_cases e : c = hcC w h k
    · subst e; rw [va_up_self]; exact Or.inr rfl
    · rw [va_up_ne _ _ e]; exact bg_st hw hh hn k c hc
theorem bg_c0 (hw : 4 ≤ w) (hh : 4 ≤ h) (hn : w * h ≤ 49) {f : Nat → Int32} : ∀ k, bgF w h f k 0 = nI 0
  | 0 => by rw [bgF, bg0, if_pos (by omega), if_neg (by omega)]
  | k + 1 => by
    have h1 : 1 ≤ hcR h k := by rw [hcR]; split <;> omega
    have h2 : 1 * w ≤ hcR h k * w := Nat.mul_le_mul_right w h1
    rw [bgF, va_up_ne _ _ (by rw [hcC]; omega)]; exact bg_c0 hw hh hn k
/-- a game that begins -/
theorem cpl_start {k : Nat} (hw : 4 ≤ w) (hh : 4 ≤ h) (hn : w * h ≤ 49) {f : Nat → Int32} (hn16 : 16 ≤ w * h) (hT : gmT D) (h60 : psM (w * h) (D 60) (hdF (w * h) w h k)) (h5 : ∀ i, i < 155 → ar2 5 i = bgF w h f k i) (h4 : ar2 4 0 = x ∧ ar2 4 1 = y) : cplI w h ru x y 0 D ar2 := by
  obtain ⟨e1, e2, e3, e4⟩ := hd_bg hw hh hn (f := f) k
  have er : hisR ar2 0 0 = ar2 5 := hisR_pl
  have eq9 : ∀ i, 49 ≤ i → i < 155 → ar2 5 i = (if i < 147 then -1 else nI 0) := fun i q1 q2 => (h5 i q2).trans (e4 i q1 q2)
  obtain ⟨p1, p2, p3⟩ := h60
  refine ⟨fun r hr => ?_, ⟨by omega, ⟨?_, ?_, ?_⟩, fun r hr => absurd hr (by omega)⟩, hT, fun r hr => absurd hr (by omega), ?_, h4⟩
  · obtain rfl : r = 0 := by omega
    rw [er]
    refine ⟨eq9 _ (by omega) (by omega), eq9 _ (by omega) (by omega), eq9 _ (by omega) (by omega), eq9 _ (by omega) (by omega), eq9 _ (by omega) (by omega), ?_, fun c hc => ?_, ⟨0, 0, by omega, by omega, eq9 _ (by omega) (by omega), eq9 _ (by omega) (by omega)⟩, fun c hc => ⟨?_, ?_⟩⟩
    · rw [if_neg (by omega)]; exact eq9 _ (by omega) (by omega)
    · rw [h5 c (by omega)]
      rcases bg_st hw hh hn (f := f) k c hc with q | q
      · exact ⟨0, by omega, q⟩
      · exact ⟨2, by omega, q⟩
    · rw [eq9 _ (by omega) (by omega), if_pos (by omega)]; rfl
    · rw [eq9 _ (by omega) (by omega), if_pos (by omega)]; rfl
  · rw [er, p1, e2]; exact (eq9 147 (by omega) (by omega)).symm
  · rw [er, p2, e3]; exact (eq9 148 (by omega) (by omega)).symm
  · rw [er, p3]; exact psS_cong (fun c hc => (e1 c hc).trans (h5 c (by omega)).symm)
  · rw [er]
    intro q
    have := ct_0.mp q 0 (by omega)
    rw [h5 0 (by omega), bg_c0 hw hh hn k] at this
    exact absurd this (by decide)
end UN
