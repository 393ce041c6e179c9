/-! ===== what the class's data and the reference's have in common ===== -/
def cG (w h : Nat) (ru : Int32) (pl : Nat) (x y : Int32) (D : Nat → RD) (sc : Nat → Int32) (ar : Nat → Nat → Int32) : Prop := mB sc w h ∧ sc 3 = ru ∧ (∃ r0, r0 ≤ 2 ∧ ru = nI r0) ∧ bnB (bnO x y) ∧ cplI w h ru x y pl D ar
def scK (sc : Nat → Int32) : Nat → Int32 := fun i => sc (if i = 1 then 16 else if i = 2 then 17 else if i = 3 then 18 else i)
def arK (ar : Nat → Nat → Int32) : Nat → Nat → Int32 := fun j => ar (if j = 4 then 15 else if j = 5 then 11 else if j = 8 then 12 else if j = 9 then 13 else if j = 10 then 14 else j)
def cK (hk : Int32) (wk h9 : Nat) (ruk : Int32) (plk : Nat) (xk yk : Int32) (Dk : Nat → RD) (sc : Nat → Int32) (ar : Nat → Nat → Int32) : Prop := (hk = 0 ∧ sc 19 = 0 ∧ ar 11 153 = nI 0) ∨ (¬ hk = 0 ∧ ¬ sc 19 = 0 ∧ cG wk h9 ruk plk xk yk Dk (scK sc) (arK ar))
def cT (tn : Nat) (tx : Nat → Int32) (sc : Nat → Int32) (ar : Nat → Nat → Int32) : Prop := sc 29 = nI tn ∧ tn ≤ 80 ∧ tx = ar 28
def cAll (hk : Int32) (w h : Nat) (ru : Int32) (pl : Nat) (x y : Int32) (D : Nat → RD) (wk h9 : Nat) (ruk : Int32) (plk : Nat) (xk yk : Int32) (Dk : Nat → RD) (rk : Nat) (cd dt : Nat → Int32) (tn : Nat) (tx : Nat → Int32) (sc : Nat → Int32) (ar : Nat → Nat → Int32) : Prop := cG w h ru pl x y D sc ar ∧ cK hk wk h9 ruk plk xk yk Dk sc ar ∧ rpC rk cd dt sc ar ∧ cT tn tx sc ar
def wI (K : GK) (a : Nat) (th : Int32) (z : Nat) (L : List Nat) (σ : GS) : Prop := ∃ (hk : Int32) (w h b : Nat) (ru : Int32) (pl : Nat) (x y : Int32) (D : Nat → RD) (wk h9 bk : Nat) (ruk : Int32) (plk : Nat) (xk yk : Int32) (Dk : Nat → RD) (rk : Nat) (cd dt : Nat → Int32) (tn : Nat) (tx sc : Nat → Int32) (ar : Nat → Nat → Int32), wX K a L σ hk w h b ru pl x y D wk h9 bk ruk plk xk yk Dk rk cd dt tn tx ∧ wY K a L σ sc ar ∧ cAll hk w h ru pl x y D wk h9 ruk plk xk yk Dk rk cd dt tn tx sc ar ∧ sc 0 = th ∧ (∀ q, q ∈ L → q < z) ∧ a + 526 ≤ z
def qS (sc2 sc : Nat → Int32) : Prop := ∀ i, (i = 1 ∨ i = 2 ∨ i = 3 ∨ i = 16 ∨ i = 17 ∨ i = 18 ∨ i = 19 ∨ i = 27 ∨ i = 29) → sc2 i = sc i
def qA (ar2 ar : Nat → Nat → Int32) : Prop := ∀ j, j ≠ 6 → j ≠ 7 → j ≠ 20 → j ≠ 21 → ar2 j = ar j
section CP
variable {hk : Int32} {w h : Nat} {ru : Int32} {pl : Nat} {x y : Int32} {D : Nat → RD} {wk h9 : Nat} {ruk : Int32} {plk : Nat} {xk yk : Int32} {Dk : Nat → RD} {rk : Nat} {cd dt : Nat → Int32} {tn : Nat} {tx : Nat → Int32} {sc sc2 : Nat → Int32} {ar ar2 : Nat → Nat → Int32}
theorem cpl_ar (e : ∀ j, (j = 4 ∨ j = 5 ∨ j = 8 ∨ j = 9 ∨ j = 10) → ar2 j = ar j) (hC : cplI w h ru x y pl D ar) : cplI w h ru x y pl D ar2 := by
  have e1 : hisR ar2 pl = hisR ar pl := by unfold hisR; rw [e 5 (by omega), e 8 (by omega)]
  unfold cplI at hC ⊢
  rw [e1, e 9 (by omega), e 10 (by omega), e 4 (by omega)]
  exact hC
theorem cG_eq (hs : ∀ i, (i = 1 ∨ i = 2 ∨ i = 3) → sc2 i = sc i) (e : ∀ j, (j = 4 ∨ j = 5 ∨ j = 8 ∨ j = 9 ∨ j = 10) → ar2 j = ar j) (hC : cG w h ru pl x y D sc ar) : cG w h ru pl x y D sc2 ar2 := ⟨⟨(hs 1 (by omega)).trans hC.1.1, (hs 2 (by omega)).trans hC.1.2.1, hC.1.2.2⟩, (hs 3 (by omega)).trans hC.2.1, hC.2.2.1, hC.2.2.2.1, cpl_ar e hC.2.2.2.2⟩
theorem cK_eq (hs : ∀ i, (i = 16 ∨ i = 17 ∨ i = 18 ∨ i = 19) → sc2 i = sc i) (e : ∀ j, (j = 11 ∨ j = 12 ∨ j = 13 ∨ j = 14 ∨ j = 15) → ar2 j = ar j) (hC : cK hk wk h9 ruk plk xk yk Dk sc ar) : cK hk wk h9 ruk plk xk yk Dk sc2 ar2 := by
  rcases hC with ⟨h1, h2, h3⟩ | ⟨h1, h2, h3⟩
  · exact Or.inl ⟨h1, (hs 19 (by omega)).trans h2, by rw [e 11 (by omega)]; exact h3⟩
  · refine Or.inr ⟨h1, fun q => h2 ((hs 19 (by omega)).symm.trans q), cG_eq (fun i hi => ?_) (fun j hj => ?_) h3⟩
    · rcases hi with rfl | rfl | rfl
      · exact hs 16 (by omega)
      · exact hs 17 (by omega)
      · exact hs 18 (by omega)
    · rcases hj with rfl | rfl | rfl | rfl | rfl
      · exact e 15 (by omega)
      · exact e 11 (by omega)
      · exact e 12 (by omega)
      · exact e 13 (by omega)
      · exact e 14 (by omega)
theorem rpC_eq (hs : sc2 27 = sc 27) (e : ∀ j, (j = 25 ∨ j = 26) → ar2 j = ar j) (hC : rpC rk cd dt sc ar) : rpC rk cd dt sc2 ar2 := ⟨hs.trans hC.1, hC.2.1, fun k hk => by rw [e 25 (by omega), e 26 (by omega)]; exact hC.2.2 k hk⟩
theorem cT_eq (hs : sc2 29 = sc 29) (e : ar2 28 = ar 28) (hC : cT tn tx sc ar) : cT tn tx sc2 ar2 := ⟨hs.trans hC.1, hC.2.1, hC.2.2.trans e.symm⟩
theorem cAll_q (hs : qS sc2 sc) (e : qA ar2 ar) (hC : cAll hk w h ru pl x y D wk h9 ruk plk xk yk Dk rk cd dt tn tx sc ar) : cAll hk w h ru pl x y D wk h9 ruk plk xk yk Dk rk cd dt tn tx sc2 ar2 := ⟨cG_eq (fun i hi => hs i (by omega)) (fun j hj => e j (by omega) (by omega) (by omega) (by omega)) hC.1, cK_eq (fun i hi => hs i (by omega)) (fun j hj => e j (by omega) (by omega) (by omega) (by omega)) hC.2.1, rpC_eq (hs 27 (by omega)) (fun j hj => e j (by omega) (by omega) (by omega) (by omega)) hC.2.2.1, cT_eq (hs 29 (by omega)) (e 28 (by omega) (by omega) (by omega) (by omega)) hC.2.2.2⟩
theorem qS_0 {v : Int32} : qS (va_up sc 0 v) sc := fun i hi => va_up_ne _ _ (by omega)
theorem qA_r : qA ar ar := fun _ _ _ _ _ => rfl
theorem cG_n (hC : cG w h ru pl x y D sc ar) : w * h ≤ 49 := Nat.mul_le_mul hC.1.2.2.2.1 hC.1.2.2.2.2.2
theorem cG_P (hC : cG w h ru pl x y D sc ar) : gmP (w * h) pl D (hisR ar pl) := hC.2.2.2.2.2.1
theorem cG_60 (hC : cG w h ru pl x y D sc ar) : pl ≤ 60 := (cG_P hC).1
theorem cG_153 (hC : cG w h ru pl x y D sc ar) : ar 5 153 = nI pl := by
  have e := (hC.2.2.2.2.1 pl (Nat.le_refl _)).1
  rw [hisR_pl] at e; exact e
theorem cG_st (hC : cG w h ru pl x y D sc ar) : stA (w * h) (hisR ar pl pl) := (hC.2.2.2.2.1 pl (Nat.le_refl _)).2.2.2.2.2.2.1
theorem cG_cp (hC : cG w h ru pl x y D sc ar) : cpB (hisR ar pl pl) 24000 := by
  obtain ⟨a, b, h1, h2, h3, h4⟩ := (hC.2.2.2.2.1 pl (Nat.le_refl _)).2.2.2.2.2.2.2.1
  have := cG_60 hC
  exact ⟨a, b, by omega, by omega, h3, h4⟩
theorem cG_end (hC : cG w h ru pl x y D sc ar) : endP pl (w * h) D (hisR ar pl) ↔ ovF (ar 5) (w * h) := by
  have e := his_end (cG_60 hC) hC.2.2.2.2.2.2.2.2.1 hC.2.2.2.2.1
  rw [hisR_pl] at e; exact e
theorem cG_wv (hC : cG w h ru pl x y D sc ar) : wvA (w * h) (ar 5) := fun c hc => by
  have e := (hC.2.2.2.2.1 pl (Nat.le_refl _)).2.2.2.2.2.2.2.2 c hc
  rw [hisR_pl] at e
  have := cG_60 hC
  rcases rtX_c D c pl with ⟨h1, h2⟩ | ⟨i, h1, h2, h3⟩
  · exact Or.inl (e.2.trans h2)
  · rcases lwv_c (u := (D i).2.2.1) (q := c) 8 with q | ⟨j, q1, q2⟩
    · exact Or.inl ((e.2.trans h3).trans q)
    · exact Or.inr ⟨i, j, by omega, q1, e.1.trans h2, (e.2.trans h3).trans q2⟩
theorem inR_N {n : Nat} {v : Int32} (hn : 0 < n) : inR 0 (n - 1) v ↔ inN n v := ⟨fun ⟨j, _, h, e⟩ => ⟨j, by omega, e⟩, fun ⟨j, h, e⟩ => ⟨j, by omega, by omega, e⟩⟩
theorem ni {a b : Nat} (h : nI a = nI b) (ha : a < 2 ^ 31 := by omega) (hb : b < 2 ^ 31 := by omega) : a = b := (nI_eq ha hb).mp h
end CP
/-- between the class's step and the reference's -/
def wMid (K : GK) (a : Nat) (yM : MethodName) (cM : ByteArray) (nM : Nat) (rM : Option FieldType) (dM : Nat) (av : List Value) (k : Nat) (R : Option Value → Int64 → Prop) (z : Nat) (L : List Nat) (σ : GS) : Prop :=
  (a + 506 ∈ L ∧ ∃ fs, σ (a + 506) = .inr (8, fs)) ∧ gM K yM cM nM rM dM 0 0 (.ref (a + 506) :: av) z L σ (fun r z2 L2 σ2 => (∃ u, R r u ∧ (k = 0 → ∃ f, σ2 (a + 524) = lA K 1 f ∧ f 0 = u)) ∧ wI K a (nI k) z2 L2 σ2)
def RI (r : Option Value) (u : Int64) : Prop := ∃ v : Int32, r = some (.int v) ∧ u = v.toInt64
def RJ (r : Option Value) (u : Int64) : Prop := r = some (.long u)
section MD
variable {K : GK} {a : Nat} {L : List Nat} {σ : GS} {hk : Int32} {w h b : Nat} {ru : Int32} {pl : Nat} {x y : Int32} {D : Nat → RD} {wk h9 bk : Nat} {ruk : Int32} {plk : Nat} {xk yk : Int32} {Dk : Nat → RD} {rk : Nat} {cd dt : Nat → Int32} {tn : Nat} {tx : Nat → Int32} {sc : Nat → Int32} {ar : Nat → Nat → Int32} {z : Nat} {yM : MethodName} {cM : ByteArray} {nM : Nat} {rM : Option FieldType} {dM : Nat} {av : List Value} {k : Nat} {R : Option Value → Int64 → Prop} {Po : GP} {fo : Nat → Int64} {th : Int32}
theorem mid_of (so : σ (a + 524) = lA K 1 fo) (hX : wX K a L σ hk w h b ru pl x y D wk h9 bk ruk plk xk yk Dk rk cd dt tn tx) (hY : wY K a L σ sc ar) (hz : ∀ q, q ∈ L → q < z) (haz : a + 526 ≤ z) (hM : gM K yM cM nM rM dM 0 0 (.ref (a + 506) :: av) z L (mdl K (a + 506) sc ar σ) Po)
    (hp : ∀ r z2 L2 σ2, Po r z2 L2 σ2 → z2 = z ∧ L2 = L ∧ ∃ u sc2 ar2, R r u ∧ (k = 0 → fo 0 = u) ∧ σ2 = mdl K (a + 506) sc2 ar2 σ ∧ sc2 0 = nI k ∧ cAll hk w h ru pl x y D wk h9 ruk plk xk yk Dk rk cd dt tn tx sc2 ar2) : wMid K a yM cM nM rM dM av k R z L σ := by
  have hm := hY.2.2
  rw [← hm] at hM
  refine ⟨⟨hY.2.1 0 (by omega), mfl (a + 506) sc, by rw [hm]; exact mdl_0⟩, gM_mono hM (fun r z2 L2 σ2 q => ?_)⟩
  obtain ⟨e1, e2, u, sc2, ar2, h1, h2, h3, h4, h5⟩ := hp r z2 L2 σ2 q
  rw [e1, e2, h3]
  refine ⟨⟨u, h1, fun e => ⟨fo, by rw [mdl_out (by omega)]; exact so, h2 e⟩⟩, hk, w, h, b, ru, pl, x, y, D, wk, h9, bk, ruk, plk, xk, yk, Dk, rk, cd, dt, tn, tx, sc2, ar2, wX_M hX, wY_M hY, h5, h4, hz, haz⟩
/-- .. where the reference notes only that it threw or didn't -/
theorem mid_s (so : σ (a + 524) = lA K 1 fo) (hX : wX K a L σ hk w h b ru pl x y D wk h9 bk ruk plk xk yk Dk rk cd dt tn tx) (hY : wY K a L σ sc ar) (hC : cAll hk w h ru pl x y D wk h9 ruk plk xk yk Dk rk cd dt tn tx sc ar) (hz : ∀ q, q ∈ L → q < z) (haz : a + 526 ≤ z) (hM : gM K yM cM nM rM dM 0 0 (.ref (a + 506) :: av) z L (mdl K (a + 506) sc ar σ) Po)
    (hp : ∀ r z2 L2 σ2, Po r z2 L2 σ2 → z2 = z ∧ L2 = L ∧ ∃ u, R r u ∧ (k = 0 → fo 0 = u) ∧ σ2 = mdl K (a + 506) (va_up sc 0 (nI k)) ar σ) : wMid K a yM cM nM rM dM av k R z L σ :=
  mid_of so hX hY hz haz hM (fun r z2 L2 σ2 q => by
    obtain ⟨e1, e2, u, h1, h2, h3⟩ := hp r z2 L2 σ2 q
    exact ⟨e1, e2, u, _, _, h1, h2, h3, va_up_self _ _ _, cAll_q qS_0 qA_r hC⟩)
theorem wI_th (hI : wI K a th z L σ) : gT K yX8_thrown cX8_thrown 1 (some .int) 0 [.ref (a + 506)] z L σ (some (.int th)) σ := by
  obtain ⟨hk, w, h, b, ru, pl, x, y, D, wk, h9, bk, ruk, plk, xk, yk, Dk, rk, cd, dt, tn, tx, sc, ar, hX, hY, hC, h0, hz, haz⟩ := hI
  have hM := M_thrown K (sc := sc) (ar := ar) (σ0 := σ) (z := z) hY.2.1
  rw [← hY.2.2, h0] at hM
  exact hM
theorem wI_S (hI : wI K a th z L σ) : (a ∈ L ∧ ∃ fs, σ a = .inr (7, fs)) ∧ (a + 506 ∈ L ∧ ∃ fs, σ (a + 506) = .inr (8, fs)) ∧ wS K a L σ := by
  obtain ⟨hk, w, h, b, ru, pl, x, y, D, wk, h9, bk, ruk, plk, xk, yk, Dk, rk, cd, dt, tn, tx, sc, ar, hX, hY, hC, h0, hz, haz⟩ := hI
  exact ⟨⟨hX.1.1, _, hX.1.2⟩, ⟨hY.2.1 0 (by omega), mfl (a + 506) sc, by rw [hY.2.2]; exact mdl_0⟩, hY.1⟩
theorem jk {E E2 : String} {j k : Nat} (h : E = E2 ∧ j = k) : j = k := h.2
end MD
