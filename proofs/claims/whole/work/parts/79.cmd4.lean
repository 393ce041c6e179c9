/-! ===== isOver, levels, save, readRecord ===== -/
theorem C_isOver (K : GK) {a : Nat} {th : Int32} {z : Nat} {L : List Nat} {σ : GS} (hI : wI K a th z L σ) : ∃ v σ2, gT K yX7_isOver cX7_isOver 1 (some .boolean) 3 [.ref a] z L σ (some (.int v)) σ ∧ gT K yX8_isOver cX8_isOver 1 (some .boolean) 4 [.ref (a + 506)] z L σ (some (.int v)) σ2 ∧ wI K a (nI 0) z L σ2 := by
  obtain ⟨hk, w, h, b, ru, pl, x, y, D, wk, h9, bk, ruk, plk, xk, yk, Dk, rk, cd, dt, tn, tx, sc, ar, hX, hY, hC, h0, hz, haz⟩ := hI
  have hB := hC.1.1
  have hn := cG_n hC.1
  have hP := cG_P hC.1
  have hw1 := hB.2.2.1
  have hw2 := hB.2.2.2.1
  have hh1 := hB.2.2.2.2.1
  have hh2 := hB.2.2.2.2.2
  have hpl := cG_60 hC.1
  have h53 := cG_153 hC.1
  have hCp := hC.1.2.2.2.2
  have hX0 := hX.1.1
  have hX1 := hX.1.2
  obtain ⟨mo, fo, so⟩ := hY.1.1
  have hF := F_isOver K hX.2.1.1 hX.2.1.2.2.1 hw1 hw2 hh1 hh2 hP hX0 hX1 (by omega) (z := z)
  have hM := M_isOver K (z := z) (σ0 := σ) (sc := sc) (ar := ar) hY.2.1 hB
  rw [propext (cG_end hC.1)] at hF
  rw [← hY.2.2] at hM
  exact ⟨_, _, hF, hM, hk, w, h, b, ru, pl, x, y, D, wk, h9, bk, ruk, plk, xk, yk, Dk, rk, cd, dt, tn, tx, _, ar, wX_M hX, wY_M hY, cAll_q qS_0 qA_r hC, va_up_self _ _ _, hz, haz⟩
theorem C_levels (K : GK) {a : Nat} {th : Int32} {z : Nat} {L : List Nat} {σ : GS} (hI : wI K a th z L σ) : ∃ v σ2, gT K yX7_levels cX7_levels 1 (some .int) 0 [.ref a] z L σ (some (.int v)) σ ∧ gT K yX8_levels cX8_levels 1 (some .int) 0 [.ref (a + 506)] z L σ (some (.int v)) σ2 ∧ wI K a (nI 0) z L σ2 := by
  obtain ⟨hk, w, h, b, ru, pl, x, y, D, wk, h9, bk, ruk, plk, xk, yk, Dk, rk, cd, dt, tn, tx, sc, ar, hX, hY, hC, h0, hz, haz⟩ := hI
  have hB := hC.1.1
  have hn := cG_n hC.1
  have hP := cG_P hC.1
  have hw1 := hB.2.2.1
  have hw2 := hB.2.2.2.1
  have hh1 := hB.2.2.2.2.1
  have hh2 := hB.2.2.2.2.2
  have hpl := cG_60 hC.1
  have h53 := cG_153 hC.1
  have hCp := hC.1.2.2.2.2
  have hX0 := hX.1.1
  have hX1 := hX.1.2
  obtain ⟨mo, fo, so⟩ := hY.1.1
  have hF := F_levels K hX.2.1.1 hX.2.1.2.2.1 hw1 hw2 hh1 hh2 hP hX0 hX1 (by omega) hX.2.2.2.1.1.1 hX.2.2.2.1.2.1 (z := z)
  have hM := M_levels K (z := z) (σ0 := σ) (sc := sc) (ar := ar) hY.2.1
  rw [← hY.2.2, hC.2.2.1.1] at hM
  exact ⟨_, _, hF, hM, hk, w, h, b, ru, pl, x, y, D, wk, h9, bk, ruk, plk, xk, yk, Dk, rk, cd, dt, tn, tx, _, ar, wX_M hX, wY_M hY, cAll_q qS_0 qA_r hC, va_up_self _ _ _, hz, haz⟩
theorem C_save (K : GK) {a : Nat} {th : Int32} {z : Nat} {L : List Nat} {σ : GS} (hI : wI K a th z L σ) : ∃ v σ1 σ2, gT K yX7_save cX7_save 1 (some .int) 4 [.ref a] z L σ (some (.int v)) σ1 ∧ (a + 506 ∈ L ∧ ∃ fs, σ1 (a + 506) = .inr (8, fs)) ∧ gT K yX8_save cX8_save 1 (some .int) 1 [.ref (a + 506)] z L σ1 (some (.int v)) σ2 ∧ wI K a (nI 0) z L σ2 := by
  obtain ⟨hk, w, h, b, ru, pl, x, y, D, wk, h9, bk, ruk, plk, xk, yk, Dk, rk, cd, dt, tn, tx, sc, ar, hX, hY, hC, h0, hz, haz⟩ := hI
  have hB := hC.1.1
  have hn := cG_n hC.1
  have hP := cG_P hC.1
  have hw1 := hB.2.2.1
  have hw2 := hB.2.2.2.1
  have hh1 := hB.2.2.2.2.1
  have hh2 := hB.2.2.2.2.2
  have hpl := cG_60 hC.1
  have h53 := cG_153 hC.1
  have hCp := hC.1.2.2.2.2
  have hX0 := hX.1.1
  have hX1 := hX.1.2
  obtain ⟨mo, fo, so⟩ := hY.1.1
  have hF := F_save K hX.2.1.1 hX.2.1.2.2.1 hw1 hw2 hh1 hh2 hP hX0 hX1 (by omega) hX.2.2.1.1 hX.2.2.1.2.1 hX.2.1.2.1 (by omega) (z := z)
  have hc9 := gm_copy hX.2.2.1.1 hP hX.2.1.1.1.2.2.2.2 (x2 := x) (y2 := y) (ru2 := ru) rfl
  have hTn := gmT_copy (pl2 := pl) hX.2.2.1.2.1 hX.2.1.2.1
  generalize hσ1 : va_up (cpW K (va_up (psU K σ (a + 246 + 3) (w * h) (hisR ar pl 0)) (a + 246) (gmO (a + 246) b ru pl x y)) (a + 246) (w * h) D (hisR ar pl) pl) a (xOg (a + 1) (a + 246) (nI 1) (a + 491) (a + 494) (a + 497)) = σ1 at hF
  have hfr : ∀ q, q ≠ a → (q < a + 246 ∨ q = a + 247 ∨ a + 491 ≤ q) → σ1 q = σ q := fun q h1 h2 => by rw [← hσ1, va_up_ne _ _ h1]; exact hc9.2 q (by omega)
  have hX3 := wX_kept (σ2 := σ1) (hk2 := nI 1) (by rw [← hσ1, va_up_self]) hfr ⟨gm_eq (fun q h1 h2 h3 => by rw [← hσ1, va_up_ne _ _ (by omega)]) hc9.1, hTn, (hfr b (by rcases hX.2.1.2.2.2 with q | q | q <;> omega) (by rcases hX.2.1.2.2.2 with q | q | q <;> omega)).trans hX.2.1.2.2.1, hX.2.1.2.2.2⟩ hX
  have hY3 : wY K a L σ1 sc ar := wY_eq (fun q hq => hq) (fun q hq => hfr q (by omega) (by omega)) hY
  have hM := M_save K (z := z) (σ0 := σ1) (sc := sc) (ar := ar) hY.2.1 hB h53 hpl
  have hm := hY3.2.2
  rw [← hm] at hM
  refine ⟨_, _, _, hF, ⟨hY.2.1 0 (by omega), mfl (a + 506) sc, by rw [hm]; exact mdl_0⟩, hM, nI 1, w, h, b, ru, pl, x, y, D, w, h, b, ru, pl, x, y, _, rk, cd, dt, tn, tx, _, _, wX_M hX3, wY_M hY3, ⟨cG_eq (fun i hi => ?_) (fun j hj => ?_) hC.1, Or.inr ⟨by decide, ?_, ⟨⟨?_, ?_, hB.2.2⟩, ?_, hC.1.2.2.1, hC.1.2.2.2.1, cpl_cong hn hCp ?_ ?_ ?_ ?_ ?_ ?_ ?_ hTn⟩⟩, rpC_eq ?_ (fun j hj => ?_) hC.2.2.1, cT_eq ?_ ?_ hC.2.2.2⟩, ?_, hz, haz⟩
  · rw [va_up_ne _ _ (by omega), va_up_ne _ _ (by omega), va_up_ne _ _ (by omega), va_up_ne _ _ (by omega), va_up_ne _ _ (by omega)]
  · rw [va_up_ne _ _ (by omega), va_up_ne _ _ (by omega), va_up_ne _ _ (by omega), va_up_ne _ _ (by omega), va_up_ne _ _ (by omega)]
  · rw [va_up_self]; decide
  · show va_up (va_up (va_up (va_up (va_up sc 0 (nI 0)) 16 (nI w)) 17 (nI h)) 18 (sc 3)) 19 (nI 1) 16 = nI w
    rw [va_up_ne _ _ (by decide), va_up_ne _ _ (by decide), va_up_ne _ _ (by decide), va_up_self]
  · show va_up (va_up (va_up (va_up (va_up sc 0 (nI 0)) 16 (nI w)) 17 (nI h)) 18 (sc 3)) 19 (nI 1) 17 = nI h
    rw [va_up_ne _ _ (by decide), va_up_ne _ _ (by decide), va_up_self]
  · show va_up (va_up (va_up (va_up (va_up sc 0 (nI 0)) 16 (nI w)) 17 (nI h)) 18 (sc 3)) 19 (nI 1) 18 = ru
    rw [va_up_ne _ _ (by decide), va_up_self]; exact hC.1.2.1
  · intro k hk9
    show va_up (va_up (va_up (va_up (va_up ar 11 _) 12 _) 13 _) 14 _) 15 _ 11 k = _
    rw [va_up_ne _ _ (by decide), va_up_ne _ _ (by decide), va_up_ne _ _ (by decide), va_up_ne _ _ (by decide), va_up_self, cpF, if_pos hk9]
  · intro k hk9
    show va_up (va_up (va_up (va_up (va_up ar 11 _) 12 _) 13 _) 14 _) 15 _ 12 k = _
    rw [va_up_ne _ _ (by decide), va_up_ne _ _ (by decide), va_up_ne _ _ (by decide), va_up_self, cpF, if_pos hk9]
  · intro k hk9
    show va_up (va_up (va_up (va_up (va_up ar 11 _) 12 _) 13 _) 14 _) 15 _ 13 k = _
    rw [va_up_ne _ _ (by decide), va_up_ne _ _ (by decide), va_up_self, cpF, if_pos hk9]
  · intro k hk9
    show va_up (va_up (va_up (va_up (va_up ar 11 _) 12 _) 13 _) 14 _) 15 _ 14 k = _
    rw [va_up_ne _ _ (by decide), va_up_self, cpF, if_pos hk9]
  · show va_up (va_up (va_up (va_up (va_up ar 11 _) 12 _) 13 _) 14 _) 15 _ 15 0 = _ ∧ va_up (va_up (va_up (va_up (va_up ar 11 _) 12 _) 13 _) 14 _) 15 _ 15 1 = _
    rw [va_up_self, cpF, cpF, if_pos (by decide), if_pos (by decide)]
    exact hCp.2.2.2.2.2
  · intro i hi; exact if_pos (Or.inl hi)
  · exact if_pos (Or.inr rfl)
  · rw [va_up_ne _ _ (by omega), va_up_ne _ _ (by omega), va_up_ne _ _ (by omega), va_up_ne _ _ (by omega), va_up_ne _ _ (by omega)]
  · rw [va_up_ne _ _ (by omega), va_up_ne _ _ (by omega), va_up_ne _ _ (by omega), va_up_ne _ _ (by omega), va_up_ne _ _ (by omega)]
  · rw [va_up_ne _ _ (by omega), va_up_ne _ _ (by omega), va_up_ne _ _ (by omega), va_up_ne _ _ (by omega), va_up_ne _ _ (by omega)]
  · rw [va_up_ne _ _ (by omega), va_up_ne _ _ (by omega), va_up_ne _ _ (by omega), va_up_ne _ _ (by omega), va_up_ne _ _ (by omega)]
  · rw [va_up_ne _ _ (by omega), va_up_ne _ _ (by omega), va_up_ne _ _ (by omega), va_up_ne _ _ (by omega), va_up_self]
section RR
variable {w h : Nat} {tx : Nat → Int32} {tn n rn : Nat}
theorem rr_ok (c1 : ∀ i, i < n → txI w h tx tn i < tn) (c3 : tn ≤ txI w h tx tn n ∨ ¬ okP w h tx tn n) (t : txN w h tx tn rn) : n = rn ∧ okP w h tx tn n := by
  obtain ⟨t1, t2⟩ := t
  have h1 : n ≤ rn := by
    rcases Nat.lt_or_ge rn n with q | q
    · have := c1 rn q; omega
    · exact q
  have h2 : okP w h tx tn n := by
    rcases Nat.eq_zero_or_pos n with q | q
    · exact Or.inl q
    · exact Or.inr (t2 (n - 1) (by omega))
  refine ⟨?_, h2⟩
  rcases c3 with q | q
  · rcases Nat.lt_or_ge n rn with q2 | q2
    · have h3 := rdT_3 (t2 n q2)
      have h4 := txI_le w h tx tn (n + 1)
      rw [txI] at h4; omega
    · omega
  · exact absurd h2 q
theorem rr_err {i t : Nat} (c2 : ∀ i, i + 1 < n → rdO w h tx tn (txI w h tx tn i)) (c3 : tn ≤ txI w h tx tn n ∨ ¬ okP w h tx tn n) (e : errT w h tx tn i t) : ¬ okP w h tx tn n ∧ txI w h tx tn n = t := by
  obtain ⟨e1, e2, e3, e4⟩ := e
  have h1 : n ≤ i + 1 := by
    rcases Nat.lt_or_ge (i + 1) n with q | q
    · exact absurd (c2 i q) e2
    · exact q
  have h2 : ¬ n ≤ i := fun q => by
    have ho : okP w h tx tn n := by
      rcases Nat.eq_zero_or_pos n with q | q
      · exact Or.inl q
      · exact Or.inr (e1 (n - 1) (by omega))
    rcases c3 with q3 | q3
    · by_cases q4 : n = i
      · rw [q4] at q3; omega
      · have h3 := rdT_3 (e1 n (by omega))
        have h4 := txI_le w h tx tn (n + 1)
        rw [txI] at h4; omega
    · exact q3 ho
  have h3 : n = i + 1 := by omega
  subst h3
  refine ⟨fun q => ?_, e3⟩
  rcases q with q | q
  · omega
  · exact e2 q
theorem tlR_r {K : GK} {σ σ2 : GS} {rf : Nat} {cd dt : Nat → Int32} {D : Nat → RD} {rows rows2 : Nat → Nat → Int32} {pl who q : Nat} (e : rows pl = rows2 pl) (hp : tlR K σ rf cd dt D rows pl who q σ2) : tlR K σ rf cd dt D rows2 pl who q σ2 := by
  rw [tlR] at hp ⊢
  rw [← e]; exact hp
theorem cAll_L {hk : Int32} {ru : Int32} {pl : Nat} {x y : Int32} {D : Nat → RD} {wk h9 : Nat} {ruk : Int32} {plk : Nat} {xk yk : Int32} {Dk : Nat → RD} {rk : Nat} {cd dt : Nat → Int32} {sc sc2 : Nat → Int32} {ar ar2 : Nat → Nat → Int32} {th pl2 : Nat} {D2 : Nat → RD} (hs : scL sc sc2 th 0) (hp : cplI w h ru x y pl2 D2 ar2) (e : ∀ j, (j = 11 ∨ j = 12 ∨ j = 13 ∨ j = 14 ∨ j = 15 ∨ j = 25 ∨ j = 26 ∨ j = 28) → ar2 j = ar j) (hC : cAll hk w h ru pl x y D wk h9 ruk plk xk yk Dk rk cd dt tn tx sc ar) : cAll hk w h ru pl2 x y D2 wk h9 ruk plk xk yk Dk rk cd dt 0 tx sc2 ar2 :=
  ⟨⟨scL_mB hC.1.1 hs, (scL_o hs 3 (by omega)).trans hC.1.2.1, hC.1.2.2.1, hC.1.2.2.2.1, hp⟩, cK_eq (fun i hi => scL_o hs i (by omega)) (fun j hj => e j (by omega)) hC.2.1, rpC_eq (scL_o hs 27 (by omega)) (fun j hj => e j (by omega)) hC.2.2.1, hs.2.1, by omega, hC.2.2.2.2.2.trans (e 28 (by omega)).symm⟩
end RR

set_option maxHeartbeats 2000000 in
theorem C_readRecord (K : GK) {a : Nat} {th : Int32} {z : Nat} {L : List Nat} {σ : GS} (hI : wI K a th z L σ) : gHM K yL_readRecord cL_readRecord 3 (some .int) [(0, 8, 11, 30)] 9 1 7 [.ref a, .ref (a + 524)] z L σ (fun r z1 L1 σ1 => ∃ k, k ≤ 3 ∧ r = some (.int (nI k)) ∧ wMid K a yX8_readRecord cX8_readRecord 5 (some .int) 8 [] k RI z1 L1 σ1) := by
  obtain ⟨hk, w, h, b, ru, pl, x, y, D, wk, h9, bk, ruk, plk, xk, yk, Dk, rk, cd, dt, tn, tx, sc, ar, hX, hY, hC, h0, hz, haz⟩ := hI
  have hB := hC.1.1
  have hn := cG_n hC.1
  have hP := cG_P hC.1
  have hw1 := hB.2.2.1
  have hw2 := hB.2.2.2.1
  have hh1 := hB.2.2.2.2.1
  have hh2 := hB.2.2.2.2.2
  have hpl := cG_60 hC.1
  have h53 := cG_153 hC.1
  have hCp := hC.1.2.2.2.2
  have hX0 := hX.1.1
  have hX1 := hX.1.2
  obtain ⟨mo, fo, so⟩ := hY.1.1
  obtain ⟨⟨i0, i1, i2⟩, cr, gc, t0, t1, t2⟩ := hX.2.2.2.2.1
  obtain ⟨u0, u1, u2⟩ := hC.2.2.2
  have hM := fun (z9 : Nat) (σ9 : GS) => M_readRecord K (z := z9) (σ0 := σ9) (sc := sc) (ar := ar) hY.2.1 hB u0 u1 h53 hpl (cG_wv hC.1)
  have hF := F_readRecord K hX.2.1.1 hX.2.1.2.2.1 hw1 hw2 hh1 hh2 hP hX0 hX1 (by omega) hX.2.2.2.1.1.1 hX.2.2.2.1.1.2.1 hX.2.2.2.1.1.2.2 hX.2.2.2.1.2.1 hX.2.2.2.1.2.2.1 hX.2.2.2.1.2.2.2 (by omega) (by rcases hX.2.1.2.2.2 with q | q | q <;> omega) (cG_st hC.1) i0 i1 i2 t0 t1 t2 u1 (by omega) (by rcases hX.2.1.2.2.2 with q | q | q <;> omega) (by omega) hX.2.1.2.1 (by rcases hX.2.1.2.2.2 with q | q | q <;> omega) hC.1.2.2.1 (mm8 := 24000) (by omega) (cG_cp hC.1) hC.1.2.2.2.1 (z := z)
  have hin : ∀ c9 g9, wX K a L (va_up (va_up σ (a + 494 + 2) (iA K 80 g9)) (a + 494) (inpO (a + 494) 0 c9)) hk w h b ru pl x y D wk h9 bk ruk plk xk yk Dk rk cd dt 0 tx := fun c9 g9 => wX_in (fun q hq => by rw [va_up_ne _ _ (by omega), va_up_ne _ _ (by omega)]) ⟨c9, g9, va_up_self _ _ _, by rw [va_up_ne _ _ (by omega), va_up_ne _ _ (by omega)]; exact t1, by rw [va_up_ne _ _ (by omega), va_up_self]⟩ hX
  have hif : ∀ c9 g9 q, q ≠ a + 494 + 2 → q ≠ a + 494 → va_up (va_up σ (a + 494 + 2) (iA K 80 g9)) (a + 494) (inpO (a + 494) 0 c9) q = σ q := fun c9 g9 q h1 h2 => by rw [va_up_ne _ _ h2, va_up_ne _ _ h1]
  have hch : ∀ rn, txN w h tx tn rn → ∀ j, j < rn → chOK (w * h) (txA w h tx tn j) ∧ chOK (w * h) (txB w h tx tn j) := fun rn hx j hj => ⟨(chV_ok (by omega) hw2 hh2).resolve_right (hx.2 j hj).1, (chV_ok (by omega) hw2 hh2).resolve_right (hx.2 j hj).2.1⟩
  have hgo : ∀ c9 g9 σ9 rn i, txN w h tx tn rn → i ≤ rn → (∀ j, j < i → okX w h ru x y (txA w h tx tn) (txB w h tx tn) pl D (hisR ar pl) j) → rrS K L (va_up (va_up σ (a + 494 + 2) (iA K 80 g9)) (a + 494) (inpO (a + 494) 0 c9)) σ9 (a + 1) b w h ru x y (txA w h tx tn) (txB w h tx tn) pl D (hisR ar pl) i → wX K a L σ9 hk w h b ru (pl + i) x y (sq w h ru x y (txA w h tx tn) (txB w h tx tn) pl D (hisR ar pl) i).1 wk h9 bk ruk plk xk yk Dk rk cd dt 0 tx ∧ (∀ q, (q < a + 1 ∨ q = a + 2 ∨ a + 246 ≤ q) → q ≠ a + 494 + 2 → q ≠ a + 494 → σ9 q = σ q) ∧ cplI w h ru x y (pl + i) (sq w h ru x y (txA w h tx tn) (txB w h tx tn) pl D (hisR ar pl) i).1 (itG w h ru tx tn ar pl i) ∧ (sq w h ru x y (txA w h tx tn) (txB w h tx tn) pl D (hisR ar pl) i).2 (pl + i) = itG w h ru tx tn ar pl i 5 := fun c9 g9 σ9 rn i hx hi ho hr => by
    have hq := cpl_seq hn hC.1.2.2.2.1 hCp hC.1.2.2.1 i (fun j hj => hch rn hx j (by omega)) ho
    have hfr : ∀ q, (q < a + 1 ∨ q = a + 2 ∨ a + 246 ≤ q) → q ≠ a + 494 + 2 → q ≠ a + 494 → σ9 q = σ q := fun q h1 h2 h3 => (hr.2 q (by omega)).trans (hif c9 g9 q h2 h3)
    exact ⟨wX_game hz haz (fun q hq => hq) (fun q h1 h2 => hr.2 q (by omega)) ⟨hr.1, hq.1.2.2.1, (hfr b (by rcases hX.2.1.2.2.2 with q | q | q <;> omega) (by rcases hX.2.1.2.2.2 with q | q | q <;> omega) (by rcases hX.2.1.2.2.2 with q | q | q <;> omega)).trans hX.2.1.2.2.1, hX.2.1.2.2.2⟩ (hin c9 g9), hfr, hq⟩
  have hfail : ∀ rn i, txN w h tx tn rn → i < rn → (∀ j, j < i → okX w h ru x y (txA w h tx tn) (txB w h tx tn) pl D (hisR ar pl) j) → ((endP (pl + i) (w * h) (sq w h ru x y (txA w h tx tn) (txB w h tx tn) pl D (hisR ar pl) i).1 (sq w h ru x y (txA w h tx tn) (txB w h tx tn) pl D (hisR ar pl) i).2 ↔ ovF (itG w h ru tx tn ar pl i 5) (w * h)) ∧ (okX w h ru x y (txA w h tx tn) (txB w h tx tn) pl D (hisR ar pl) i ↔ okI w h ru tx tn ar pl i)) := fun rn i hx hi ho => ok_iff hn hC.1.2.2.2.1 hCp hC.1.2.2.1 (fun j hj => hch rn hx j (by omega)) ho
  refine gHM_mono (W_readRecord K hF hX0 hX1 (o := a + 524) (fun rv z1 L1 σ1 hp => ?_) (fun E z1 L1 σ1 hp => hp.2.2.1)) (fun r z1 L1 σ1 hp => ?_)
  · rcases hp with ⟨t, c9, g9, i9, _, _, e3, e4, e5, e6⟩ | ⟨c9, g9, rn, hx, ho, e3, e4, e5, hr⟩
    · exact ⟨_, fo, e3, by rw [e5]; exact mo, by rw [e6, hif _ _ _ (by omega) (by omega)]; exact so⟩
    · have hg := hgo c9 g9 σ1 rn rn hx (Nat.le_refl _) ho hr
      exact ⟨_, fo, e3, by rw [e5]; exact mo, by rw [hg.2.1 _ (by omega) (by omega) (by omega)]; exact so⟩
  · rcases hp with ⟨v, f, σ3, ⟨t, c9, g9, i9, ht, he, e3, e4, e5, e6⟩ | ⟨c9, g9, rn, hx, ho, e3, e4, e5, hr⟩, so2, e7, e8⟩ | ⟨E, j, ⟨e4, e5, eE, c9, g9, rn, i, σ9, hx, hi, ho, hr, hq⟩, hj, e7⟩
    · have hX3 := hin c9 g9
      rw [← e6] at hX3
      have hY3 : wY K a L σ3 sc ar := wY_eq (fun q hq => hq) (fun q hq => by rw [e6]; exact hif _ _ _ (by omega) (by omega)) hY
      refine ⟨0, by omega, e7, ?_⟩
      rw [e4, e5, e8]
      refine mid_of (va_up_self _ _ _) (wX_out hX3) (wY_out hY3) hz haz (hM _ _) (fun r2 z2 L2 σ9 q => ⟨q.1, q.2.1, ?_⟩)
      obtain ⟨n, sc1, ee, cb, c1, c2, c3, hcase⟩ := q.2.2
      rw [← u2] at c1 c2 c3 hcase
      obtain ⟨k1, k2⟩ := rr_err c2 c3 he
      rcases hcase with ⟨_, n8, hs, n9⟩ | ⟨n1, _⟩ | ⟨n1, _⟩
      · rw [k2] at n8
        exact ⟨_, _, _, ⟨_, n8, rfl⟩, fun _ => okv (vI e3), n9, hs.1, cAll_L hs (cpl_ar (fun j hj => arE_o (by omega) (by omega)) hCp) (fun j hj => arE_o (by omega) (by omega)) hC⟩
      · exact absurd n1 k1
      · exact absurd n1 k1
    · have hg := hgo c9 g9 σ3 rn rn hx (Nat.le_refl _) ho hr
      have hY3 : wY K a L σ3 sc ar := wY_eq (fun q hq => hq) (fun q hq => hg.2.1 q (by omega) (by omega) (by omega)) hY
      refine ⟨0, by omega, e7, ?_⟩
      rw [e4, e5, e8]
      refine mid_of (va_up_self _ _ _) (wX_out hg.1) (wY_out hY3) hz haz (hM _ _) (fun r2 z2 L2 σ9 q => ⟨q.1, q.2.1, ?_⟩)
      obtain ⟨n, sc1, ee, cb, c1, c2, c3, hcase⟩ := q.2.2
      rw [← u2] at c1 c2 c3 hcase
      rw [hC.1.2.1] at hcase
      obtain ⟨k1, k2⟩ := rr_ok c1 c3 hx
      rcases hcase with ⟨n1, _⟩ | ⟨_, n1, n8, hs, n9⟩ | ⟨_, i, n1, n2, n8, hs, n9⟩
      · exact absurd k2 n1
      · rw [k1] at n8 n9
        exact ⟨_, _, _, ⟨_, n8, rfl⟩, fun _ => okv (vI e3), n9, hs.1, cAll_L hs (cpl_ar (fun j hj => arE_o (by omega) (by omega)) hg.2.2.1) (fun j hj => (arE_o (by omega) (by omega)).trans (itG_o (by omega) (by omega) (by omega) (by omega) _)) hC⟩
      · exfalso
        have hk9 := ((hfail rn i hx (by omega) (fun j hj => ho j (by omega))).2).mp (ho i (by omega))
        rcases n9 with ⟨n9, _⟩ | ⟨_, who, c, (⟨_, n9, _⟩ | ⟨_, _, n9, _⟩), _⟩
        · exact hk9.1 n9
        · exact n9 hk9.2.1
        · exact n9 hk9.2.2
    · have hz1 : ∀ q, q ∈ L → q < z1 := fun q hq9 => Nat.lt_of_lt_of_le (hz q hq9) e4
      have haz1 : a + 526 ≤ z1 := Nat.le_trans haz e4
      have hg := hgo c9 g9 σ9 rn i hx (by omega) ho hr
      obtain ⟨hfe, hfo⟩ := hfail rn i hx hi ho
      have hs5 := hg.2.2.2
      have hY9 : wY K a L σ9 sc ar := wY_eq (fun q hq => hq) (fun q hq => hg.2.1 q (by omega) (by omega) (by omega)) hY
      rw [hs5] at hq
      have hnk : ¬ okI w h ru tx tn ar pl i := fun q => by
        rcases hq with ⟨q1, _⟩ | ⟨q1, ⟨q2, _⟩ | ⟨⟨q2, q3⟩, _⟩⟩
        · exact q.1 (hfe.mp q1)
        · exact q2 q.2.1
        · exact q3 q.2.2
      have hsame : ∀ n sc1 i2, (∀ j, j < n → okI w h ru tx tn ar pl j) → (i2 = n) → sc1 = sc → n ≤ i := fun n sc1 i2 h1 _ _ => by
        rcases Nat.lt_or_ge i n with q | q
        · exact absurd (h1 i q) hnk
        · exact q
      have hi2 : ∀ i2, ¬ okI w h ru tx tn ar pl i2 → (∀ j, j < i2 → okI w h ru tx tn ar pl j) → i2 = i := fun i2 h1 h2 => by
        rcases Nat.lt_or_ge i2 i with q | q
        · exact absurd (((hfail rn i2 hx (by omega) (fun j hj => ho j (by omega))).2).mp (ho i2 q)) h1
        · have := hsame i2 sc i2 h2 rfl rfl; omega
      have hσ1 : wY K a L σ1 sc ar := by
        rcases hq with ⟨_, q2⟩ | ⟨_, ⟨_, c, _, _, q2⟩ | ⟨_, c, _, _, q2⟩⟩
        · rw [q2]; exact hY9
        · obtain ⟨_, _, _, eS⟩ := tl_o q2
          rw [eS]; exact wY_eq (fun q hq => hq) (fun q hq => rfU_o (by omega)) hY9
        · obtain ⟨_, _, _, eS⟩ := tl_o q2
          rw [eS]; exact wY_eq (fun q hq => hq) (fun q hq => rfU_o (by omega)) hY9
      refine ⟨1, by omega, by rw [e7, hj.2], ?_⟩
      rw [e5]
      refine mid_x (k := 1) hσ1 (hM _ _) (fun r2 z2 L2 σ8 q => ?_)
      obtain ⟨n, sc1, ee, cb, c1, c2, c3, hcase⟩ := q.2.2
      rw [← u2] at c1 c2 c3 hcase
      rw [hC.1.2.1] at hcase
      obtain ⟨k1, k2⟩ := rr_ok c1 c3 hx
      rcases hcase with ⟨n1, _⟩ | ⟨_, n1, _⟩ | ⟨_, i2, n1, n2, n8, hs, n9⟩
      · exact absurd k2 n1
      · exact absurd (n1 i (by omega)) hnk
      · have hei : i2 = i := hi2 i2 (fun q => by
          rcases n9 with ⟨n9, _⟩ | ⟨_, who, c, (⟨_, n9, _⟩ | ⟨_, _, n9, _⟩), _⟩
          · exact q.1 n9
          · exact n9 q.2.1
          · exact n9 q.2.2) n2
        subst hei
        have hcp9 : cplI w h ru x y (pl + i2) (sq w h ru x y (txA w h tx tn) (txB w h tx tn) pl D (hisR ar pl) i2).1 (arE (itG w h ru tx tn ar pl i2) ee cb) := cpl_ar (fun j hj => arE_o (by omega) (by omega)) hg.2.2.1
        have hcA := cAll_L hs hcp9 (fun j hj => (arE_o (by omega) (by omega)).trans (itG_o (by omega) (by omega) (by omega) (by omega) _)) hC
        have hfin : ∀ who c, c < w * h → tlR K σ9 (a + 491) cd dt (sq w h ru x y (txA w h tx tn) (txB w h tx tn) pl D (hisR ar pl) i2).1 (sq w h ru x y (txA w h tx tn) (txB w h tx tn) pl D (hisR ar pl) i2).2 (pl + i2) who c σ1 → rpP K (a + 506) sc1 (arE (itG w h ru tx tn ar pl i2) ee cb) σ1 who c σ8 → wI K a (nI 1) z2 L2 σ8 := fun who c hc h1 h2 => by
          obtain ⟨rk3, cd3, dt3, sc3, ar3, t1, t2, t3, t4, t5⟩ := tl_rp hcp9 hc (tlR_r (by rw [hisR_pl, arE_o (by omega) (by omega)]; exact hs5) h1) h2
          rw [q.1, q.2.1, t2]
          exact ⟨hk, w, h, b, ru, pl + i2, x, y, _, wk, h9, bk, ruk, plk, xk, yk, Dk, rk3, cd3, dt3, 0, tx, sc3, ar3, wX_M (by rw [t1]; exact wX_rf hg.1), wY_M hσ1, cAll_rp t3 (fun i hi => t4 i (by omega)) (fun j h1 h2 _ _ => t5 j h1 h2) hcA, (t4 0 (by decide)).trans hs.1, hz1, haz1⟩
        refine ⟨⟨_, ⟨_, n8, rfl⟩, fun q9 => absurd q9 (by decide)⟩, ?_⟩
        rcases hq with ⟨g1, g2⟩ | ⟨g1, g2⟩
        · rcases n9 with ⟨_, n9⟩ | ⟨n9, _⟩
          · rw [q.1, q.2.1, n9]
            exact ⟨hk, w, h, b, ru, pl + i2, x, y, _, wk, h9, bk, ruk, plk, xk, yk, Dk, rk, cd, dt, 0, tx, sc1, _, wX_M (by rw [g2]; exact hg.1), wY_M hσ1, hcA, hs.1, hz1, haz1⟩
          · exact absurd (hfe.mp g1) n9
        · rcases n9 with ⟨n9, _⟩ | ⟨_, who, c2, hw, hc2, n9⟩
          · exact absurd (hfe.mpr n9) g1
          · rcases g2 with ⟨g2, c, hc, g3, g4⟩ | ⟨⟨g2, g2b⟩, c, hc, g3, g4⟩
            · rcases hw with ⟨w1, w2, w3⟩ | ⟨_, w2, _⟩
              · have ec : c = c2 := ni (g3.symm.trans w3)
                subst ec
                rw [w1] at n9
                exact hfin 0 c hc g4 n9
              · exact absurd w2 g2
            · rcases hw with ⟨_, w2, _⟩ | ⟨w1, _, w2, w3⟩
              · exact absurd g2 w2
              · have ec : c = c2 := ni (g3.symm.trans w3)
                subst ec
                rw [w1] at n9
                exact hfin 1 c hc g4 n9
