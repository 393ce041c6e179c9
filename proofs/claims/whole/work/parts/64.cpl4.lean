/-- the rows that the reference keeps: those of the past, then the one of now -/
def hisR (ar : Nat → Nat → Int32) (pl : Nat) : Nat → Nat → Int32 := fun r => if r = pl then ar 5 else fun k => ar 8 (155 * r + k)
theorem hisR_pl {ar : Nat → Nat → Int32} {pl : Nat} : hisR ar pl pl = ar 5 := if_pos rfl
/-- the scores behind a round are small -/
def scB (d : RD) : Prop := ∃ p q, p ≤ 60000 ∧ q ≤ 60000 ∧ d.1 2 = nI p ∧ d.1 3 = nI q
/-- what the reference notes of a round is what the class's round says -/
def infI (n pl : Nat) (D : Nat → RD) (io wc : Nat → Int32) : Prop := ∀ r, r < pl → ((chOK n ((D r).1 0) ∧ chOK n ((D r).1 1)) ∧ scB (D r)) ∧ io (7 * r) = (D r).1 0 ∧ io (7 * r + 1) = (D r).1 1 ∧ io (7 * r + 2) = nI (clN ((D r).1 0) ((D r).1 1)) ∧ io (7 * r + 3) = nI (wvn (D r).2.2.1 8) ∧ io (7 * r + 4) = nI (cbw (D r).2.2.1 8) ∧ io (7 * r + 5) = (D r).1 2 ∧ io (7 * r + 6) = (D r).1 3 ∧ ∀ k, k < 8 → (D r).2.2.1 k ≠ 0 → wc (8 * r + k) = nI (ct (tb ((D r).2.2.1 k)) 64)
section IN
variable {w h n pl : Nat} {D : Nat → RD} {rows : Nat → Nat → Int32} {io wc : Nat → Int32} {ru x y a b : Int32} {ar : Nat → Nat → Int32}
theorem infR_o {g : Nat → Int32} {o i : Nat} {v0 v1 v2 v3 v4 v5 v6 : Int32} (h : i < o) : infR g o v0 v1 v2 v3 v4 v5 v6 i = g i := by
  rw [infR, va_up_ne _ _ (by omega), va_up_ne _ _ (by omega), va_up_ne _ _ (by omega), va_up_ne _ _ (by omega), va_up_ne _ _ (by omega), va_up_ne _ _ (by omega), va_up_ne _ _ (by omega)]
theorem inf_add {m : Nat} (hn : w * h ≤ 49) (hcp : cpB (rows pl) m) (hm : m ≤ 24000) (hbb : bnB (bnO x y)) (hI : infI (w * h) pl D io wc) (ha : chOK (w * h) a) (hb : chOK (w * h) b) : infI (w * h) (pl + 1) (s1D w h ru x y pl D rows a b) (infR io (7 * pl) a b (nI (clN a b)) (nI (goW w h ru (rows pl) (bnO x y) a b)) (nI (goU w h ru (rows pl) (bnO x y) a b)) (scF (plV w h ru (rows pl) (bnO x y) a b) (bnO x y) (w * h) 0) (scF (plV w h ru (rows pl) (bnO x y) a b) (bnO x y) (w * h) 1)) (putF (goB w h ru (rows pl) (bnO x y) a b) (8 * pl) wc (goW w h ru (rows pl) (bnO x y) a b)) := fun r hr => by
  by_cases e : r = pl
  · subst e
    have hw9 : wcn w h (plM ru (w * h) (rows r) (bnO x y) a b) (goW w h ru (rows r) (bnO x y) a b) := wC_ok w h _
    have ed : s1D w h ru x y r D rows a b r = rdOf (w * h) (scC a b (scF (plV w h ru (rows r) (bnO x y) a b) (bnO x y) (w * h) 0) (scF (plV w h ru (rows r) (bnO x y) a b) (bnO x y) (w * h) 1) (D r).1) (mkX a b (stK ru (ldF (rows r) (w * h) x y))) (wvU w h (plM ru (w * h) (rows r) (bnO x y) a b) (goW w h ru (rows r) (bnO x y) a b)) (plV w h ru (rows r) (bnO x y) a b) := va_up_self _ _ _
    have e0 : (s1D w h ru x y r D rows a b r).1 0 = a := by rw [ed]; simp [rdOf, scC, ccF, va_up]
    have e1 : (s1D w h ru x y r D rows a b r).1 1 = b := by rw [ed]; simp [rdOf, scC, ccF, va_up]
    have e2 : (s1D w h ru x y r D rows a b r).1 2 = scF (plV w h ru (rows r) (bnO x y) a b) (bnO x y) (w * h) 0 := by rw [ed]; simp [rdOf, scC, va_up]
    have e3 : (s1D w h ru x y r D rows a b r).1 3 = scF (plV w h ru (rows r) (bnO x y) a b) (bnO x y) (w * h) 1 := by rw [ed]; simp [rdOf, scC, va_up]
    have eu : (s1D w h ru x y r D rows a b r).2.2.1 = wvU w h (plM ru (w * h) (rows r) (bnO x y) a b) (goW w h ru (rows r) (bnO x y) a b) := by rw [ed]; rfl
    have h784 : 69 + 2 * (m + 392) ≤ 60000 := by clear hI hcp; omega
    have hsc : scB (s1D w h ru x y r D rows a b r) := by
      obtain ⟨p, hp, ep⟩ := sc_nat (p := 0) hn (cp_plV (ru := ru) (g := bnO x y) hn ha hb hcp) hbb (by omega)
      obtain ⟨q, hq, eq⟩ := sc_nat (p := 1) hn (cp_plV (ru := ru) (g := bnO x y) hn ha hb hcp) hbb (by omega)
      exact ⟨p, q, Nat.le_trans hp h784, Nat.le_trans hq h784, e2.trans ep, e3.trans eq⟩
    rw [e0, e1, e2, e3, eu, wvn_W hn hw9, cbw_W hn hw9.1]
    refine ⟨⟨⟨ha, hb⟩, hsc⟩, ?_, ?_, ?_, ?_, ?_, ?_, va_up_self _ _ _, fun k hk hu => ?_⟩
    · rw [infR, va_up_ne _ _ (by omega), va_up_ne _ _ (by omega), va_up_ne _ _ (by omega), va_up_ne _ _ (by omega), va_up_ne _ _ (by omega), va_up_ne _ _ (by omega), va_up_self]
    · rw [infR, va_up_ne _ _ (by omega), va_up_ne _ _ (by omega), va_up_ne _ _ (by omega), va_up_ne _ _ (by omega), va_up_ne _ _ (by omega), va_up_self]
    · rw [infR, va_up_ne _ _ (by omega), va_up_ne _ _ (by omega), va_up_ne _ _ (by omega), va_up_ne _ _ (by omega), va_up_self]
    · rw [infR, va_up_ne _ _ (by omega), va_up_ne _ _ (by omega), va_up_ne _ _ (by omega), va_up_self]
    · rw [infR, va_up_ne _ _ (by omega), va_up_ne _ _ (by omega), va_up_self]; rfl
    · rw [infR, va_up_ne _ _ (by omega), va_up_self]
    · have hk2 : k < goW w h ru (rows r) (bnO x y) a b := by
        rcases Nat.lt_or_ge k (goW w h ru (rows r) (bnO x y) a b) with q | q
        · exact q
        · exact absurd (wvU_z k q) hu
      rw [putF, if_pos (by omega), wv_ct hn hk2, goB, show 8 * r + k - 8 * r = k by omega]
  · have ed : s1D w h ru x y pl D rows a b r = D r := va_up_ne _ _ e
    obtain ⟨h0, h1, h2, h3, h4, h5, h6, h7, h8⟩ := hI r (by omega)
    rw [ed]
    refine ⟨h0, (infR_o (by omega)).trans h1, (infR_o (by omega)).trans h2, (infR_o (by omega)).trans h3, (infR_o (by omega)).trans h4, (infR_o (by omega)).trans h5, (infR_o (by omega)).trans h6, (infR_o (by omega)).trans h7, fun k hk hu => ?_⟩
    rw [putF, if_neg (by omega)]; exact h8 k hk hu
section BG
variable {g f : Nat → Int32} {p : Nat}
theorem scF_g (h4 : g 0 = x ∧ g 1 = y) (hp : p ≤ 1) : scF f g n p = scF f (bnO x y) n p := by
  have e : g p = bnO x y p := by
    rcases (show p = 0 ∨ p = 1 by omega) with rfl | rfl
    · exact h4.1
    · exact h4.2
  simp only [scF, e]
theorem plM_g (h4 : g 0 = x ∧ g 1 = y) : plM ru n f g a b = plM ru n f (bnO x y) a b := by rw [plM, plM, scF_g h4 (by omega), scF_g h4 (by omega)]
theorem plV_g (h4 : g 0 = x ∧ g 1 = y) : plV w h ru f g a b = plV w h ru f (bnO x y) a b := by rw [plV, plV, plM_g h4]
theorem goW_g (h4 : g 0 = x ∧ g 1 = y) : goW w h ru f g a b = goW w h ru f (bnO x y) a b := by rw [goW, goW, plM_g h4]
theorem goU_g (h4 : g 0 = x ∧ g 1 = y) : goU w h ru f g a b = goU w h ru f (bnO x y) a b := by rw [goU, goU, goW_g h4, plM_g h4]
theorem goB_g (h4 : g 0 = x ∧ g 1 = y) : goB w h ru f g a b = goB w h ru f (bnO x y) a b := by unfold goB; rw [plM_g h4]
end BG
theorem hisR_go (h4 : ar 4 0 = x ∧ ar 4 1 = y) : hisR (goC w h ru ar pl a b) (pl + 1) (pl + 1) = s1R w h ru x y pl (hisR ar pl) a b (pl + 1) ∧ ∀ r, r ≤ pl + 1 → ∀ k, k < 155 → hisR (goC w h ru ar pl a b) (pl + 1) r k = s1R w h ru x y pl (hisR ar pl) a b r k := by
  have e5 : goC w h ru ar pl a b 5 = plV w h ru (ar 5) (ar 4) a b := by rw [goC, va_up_ne _ _ (by omega), va_up_ne _ _ (by omega), va_up_self]
  have e8 : goC w h ru ar pl a b 8 = putF (ar 5) (155 * pl) (ar 8) 155 := by rw [goC, va_up_ne _ _ (by omega), va_up_ne _ _ (by omega), va_up_ne _ _ (by omega), va_up_self]
  have e1 : hisR (goC w h ru ar pl a b) (pl + 1) (pl + 1) = s1R w h ru x y pl (hisR ar pl) a b (pl + 1) := by rw [hisR_pl, e5, s1R, va_up_self, hisR_pl, plV_g h4]
  refine ⟨e1, fun r hr k hk => ?_⟩
  by_cases e : r = pl + 1
  · subst e; rw [e1]
  · rw [s1R, va_up_ne _ _ e, hisR, if_neg e, e8, putF]
    show (if 155 * pl ≤ 155 * r + k ∧ 155 * r + k < 155 * pl + 155 then ar 5 (155 * r + k - 155 * pl) else ar 8 (155 * r + k)) = _
    by_cases e2 : r = pl
    · subst e2
      rw [if_pos (by omega), hisR_pl, show 155 * r + k - 155 * r = k by omega]
    · rw [if_neg (by omega), hisR, if_neg e2]
/-- the class's game and the reference's -/
def cplI (w h : Nat) (ru x y : Int32) (pl : Nat) (D : Nat → RD) (ar : Nat → Nat → Int32) : Prop := hisI w h pl D (hisR ar pl) ∧ gmP (w * h) pl D (hisR ar pl) ∧ gmT D ∧ infI (w * h) pl D (ar 9) (ar 10) ∧ mny (hisR ar pl 0) (w * h) (nI 0) ≠ 0 ∧ ar 4 0 = x ∧ ar 4 1 = y
theorem mny_c {n : Nat} {f f2 : Nat → Int32} {v : Int32} (hn : n ≤ 49) (he : ∀ k, k < 155 → f2 k = f k) : mny f2 n v = mny f n v := ct_cong (fun c hc => by rw [he c (by omega)])
theorem cpl_go (hn : w * h ≤ 49) (hbb : bnB (bnO x y)) (hC : cplI w h ru x y pl D ar) (hpl : pl < 60) (hru : ∃ r0, r0 ≤ 2 ∧ ru = nI r0) (ha : chOK (w * h) a) (hb : chOK (w * h) b) : cplI w h ru x y (pl + 1) (s1D w h ru x y pl D (hisR ar pl) a b) (goC w h ru ar pl a b) := by
  obtain ⟨h1, h2, h3, h4, h5, h6⟩ := hC
  obtain ⟨e1, e2⟩ := hisR_go (w := w) (h := h) (ru := ru) (pl := pl) (a := a) (b := b) h6
  have e4 : goC w h ru ar pl a b 4 = ar 4 := by rw [goC, va_up_ne _ _ (by omega), va_up_ne _ _ (by omega), va_up_ne _ _ (by omega), va_up_ne _ _ (by omega)]
  have e9 := inf_add (rows := hisR ar pl) (ru := ru) (x := x) (y := y) hn (h1 pl (Nat.le_refl _)).2.2.2.2.2.2.2.1 (by omega) hbb h4 ha hb
  rw [hisR_pl] at e9
  refine ⟨his_cong hn (fun _ _ => rfl) e2 (his_add hn h1 hru ha hb), gmP_c hn e2 (gmP_add h2 hpl), s1_T h3, ?_, ?_, by rw [e4]; exact h6⟩
  · rw [show goC w h ru ar pl a b 9 = infR (ar 9) (7 * pl) a b (nI (clN a b)) (nI (goW w h ru (ar 5) (ar 4) a b)) (nI (goU w h ru (ar 5) (ar 4) a b)) (scF (plV w h ru (ar 5) (ar 4) a b) (ar 4) (w * h) 0) (scF (plV w h ru (ar 5) (ar 4) a b) (ar 4) (w * h) 1) from by rw [goC, va_up_ne _ _ (by omega), va_up_self], show goC w h ru ar pl a b 10 = putF (goB w h ru (ar 5) (ar 4) a b) (8 * pl) (ar 10) (goW w h ru (ar 5) (ar 4) a b) from by rw [goC, va_up_self], goW_g h6, goU_g h6, goB_g h6, plV_g h6, scF_g h6 (by omega), scF_g h6 (by omega)]
    exact e9
  · rw [mny_c hn (e2 0 (by omega)), s1R, va_up_ne _ _ (by omega)]; exact h5
/-- rounds one after another, on both sides -/
theorem cpl_seq {tx : Nat → Int32} {tn : Nat} (hn : w * h ≤ 49) (hbb : bnB (bnO x y)) (hC : cplI w h ru x y pl D ar) (hru : ∃ r0, r0 ≤ 2 ∧ ru = nI r0) : ∀ i, (∀ j, j < i → chOK (w * h) (txA w h tx tn j) ∧ chOK (w * h) (txB w h tx tn j)) → (∀ j, j < i → okX w h ru x y (txA w h tx tn) (txB w h tx tn) pl D (hisR ar pl) j) → cplI w h ru x y (pl + i) (sq w h ru x y (txA w h tx tn) (txB w h tx tn) pl D (hisR ar pl) i).1 (itG w h ru tx tn ar pl i) ∧ (sq w h ru x y (txA w h tx tn) (txB w h tx tn) pl D (hisR ar pl) i).2 (pl + i) = itG w h ru tx tn ar pl i 5
  | 0, _, _ => ⟨hC, hisR_pl⟩
  | i + 1, hc, ho => by
    obtain ⟨h1, h2⟩ := cpl_seq hn hbb hC hru i (fun j hj => hc j (by omega)) (fun j hj => ho j (by omega))
    have h60 := end_60 (ho i (by omega)).1
    have hg := cpl_go hn hbb h1 h60 hru (hc i (by omega)).1 (hc i (by omega)).2
    have e4 : itG w h ru tx tn ar pl i 4 0 = x ∧ itG w h ru tx tn ar pl i 4 1 = y := by rw [itG_o (by omega) (by omega) (by omega) (by omega) i]; exact hC.2.2.2.2.2
    have es : s1D w h ru x y (pl + i) (sq w h ru x y (txA w h tx tn) (txB w h tx tn) pl D (hisR ar pl) i).1 (hisR (itG w h ru tx tn ar pl i) (pl + i)) (txA w h tx tn i) (txB w h tx tn i) = s1D w h ru x y (pl + i) (sq w h ru x y (txA w h tx tn) (txB w h tx tn) pl D (hisR ar pl) i).1 (sq w h ru x y (txA w h tx tn) (txB w h tx tn) pl D (hisR ar pl) i).2 (txA w h tx tn i) (txB w h tx tn i) := by rw [s1D, s1D, hisR_pl, h2]
    rw [es] at hg
    refine ⟨hg, ?_⟩
    show s1R w h ru x y (pl + i) (sq w h ru x y (txA w h tx tn) (txB w h tx tn) pl D (hisR ar pl) i).2 (txA w h tx tn i) (txB w h tx tn i) (pl + i + 1) = _
    rw [s1R, va_up_self, h2, itG, goC, va_up_ne _ _ (by omega), va_up_ne _ _ (by omega), va_up_self, plV_g e4]
/-- whether a round of the text can be played is one question -/
theorem ok_iff {tx : Nat → Int32} {tn i : Nat} (hn : w * h ≤ 49) (hbb : bnB (bnO x y)) (hC : cplI w h ru x y pl D ar) (hru : ∃ r0, r0 ≤ 2 ∧ ru = nI r0) (hc : ∀ j, j < i → chOK (w * h) (txA w h tx tn j) ∧ chOK (w * h) (txB w h tx tn j)) (ho : ∀ j, j < i → okX w h ru x y (txA w h tx tn) (txB w h tx tn) pl D (hisR ar pl) j) : (endP (pl + i) (w * h) (sq w h ru x y (txA w h tx tn) (txB w h tx tn) pl D (hisR ar pl) i).1 (sq w h ru x y (txA w h tx tn) (txB w h tx tn) pl D (hisR ar pl) i).2 ↔ ovF (itG w h ru tx tn ar pl i 5) (w * h)) ∧ (okX w h ru x y (txA w h tx tn) (txB w h tx tn) pl D (hisR ar pl) i ↔ okI w h ru tx tn ar pl i) := by
  obtain ⟨h1, h2⟩ := cpl_seq hn hbb hC hru i hc ho
  have he := his_end h1.2.1.1 h1.2.2.2.2.1 h1.1
  rw [hisR_pl] at he
  have e1 : endP (pl + i) (w * h) (sq w h ru x y (txA w h tx tn) (txB w h tx tn) pl D (hisR ar pl) i).1 (sq w h ru x y (txA w h tx tn) (txB w h tx tn) pl D (hisR ar pl) i).2 ↔ ovF (itG w h ru tx tn ar pl i 5) (w * h) := by
    rw [← he, endP, endP, h2, hisR_pl]
  exact ⟨e1, by rw [okX, okI, e1, h2]⟩
end IN
