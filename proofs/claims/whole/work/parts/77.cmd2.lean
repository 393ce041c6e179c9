/-! ===== the commands that change something ===== -/
section GO
variable {K : GK} {a : Nat} {L : List Nat} {σ σ2 : GS} {g b b2 : Nat} {ru ru2 : Int32} {pl pl2 : Nat} {x y x2 y2 : Int32} {D : Nat → RD}
theorem gm_o (hG : gmI K L σ g b ru pl x y D) (hb2 : b2 ∈ L) : gmI K L (va_up σ g (gmO g b2 ru2 pl2 x2 y2)) g b2 ru2 pl2 x2 y2 D := by
  obtain ⟨⟨m0, m2, m3, m4, mb⟩, s0, s2, s3, s4, hd9⟩ := hG
  exact ⟨⟨m0, m2, m3, m4, hb2⟩, va_up_self _ _ _, by rw [va_up_ne _ _ (by omega)]; exact s2, by rw [va_up_ne _ _ (by omega)]; exact s3, by rw [va_up_ne _ _ (by omega)]; exact s4, fun r hr => rdD_eq (fun c h1 h2 => va_up_ne _ _ (by omega)) (hd9 r hr)⟩
theorem tl_o {K : GK} {σ σ2 : GS} {rf : Nat} {cd dt : Nat → Int32} {D : Nat → RD} {rows : Nat → Nat → Int32} {pl who q : Nat} (h : tlR K σ rf cd dt D rows pl who q σ2) : ∃ rk cd2 dt2, σ2 = rfU K σ rf rk cd2 dt2 := by
  rcases h with ⟨_, h⟩ | ⟨_, _, _, _, _, _, h⟩
  · exact ⟨_, _, _, h⟩
  · exact ⟨_, _, _, h⟩
end GO
section WW2
variable {K : GK} {a : Nat} {L L2 : List Nat} {σ σ2 : GS} {hk : Int32} {w h b : Nat} {ru : Int32} {pl : Nat} {x y : Int32} {D : Nat → RD} {wk h9 bk : Nat} {ruk : Int32} {plk : Nat} {xk yk : Int32} {Dk : Nat → RD} {rk : Nat} {cd dt : Nat → Int32} {tn : Nat} {tx : Nat → Int32} {sc sc2 : Nat → Int32} {ar ar2 : Nat → Nat → Int32} {g z : Nat} {ru2 : Int32} {pl2 : Nat} {x2 y2 : Int32}
theorem wX_gm (hz : ∀ q, q ∈ L → q < z) (haz : a + 526 ≤ z) (hX : wX K a L σ hk w h b ru pl x y D wk h9 bk ruk plk xk yk Dk rk cd dt tn tx) : wX K a L (va_up σ (a + 1) (gmO (a + 1) b ru2 pl2 x2 y2)) hk w h b ru2 pl2 x2 y2 D wk h9 bk ruk plk xk yk Dk rk cd dt tn tx :=
  wX_game hz haz (fun q hq => hq) (fun q h1 h2 => va_up_ne _ _ (by omega)) ⟨gm_o hX.2.1.1 hX.2.1.1.1.2.2.2.2, hX.2.1.2.1, by rw [va_up_ne _ _ (by rcases hX.2.1.2.2.2 with q | q | q <;> omega)]; exact hX.2.1.2.2.1, hX.2.1.2.2.2⟩ hX
theorem wY_ge {e : va_E} {q0 : Nat} (h1 : a ≤ q0) (h2 : q0 < a + 506) (hY : wY K a L σ sc ar) : wY K a L (va_up σ q0 e) sc ar := wY_eq (fun q hq => hq) (fun q hq => va_up_ne _ _ (by omega)) hY
theorem cAll_g {w2 h2 : Nat} {D2 : Nat → RD} (hG : cG w2 h2 ru2 pl2 x2 y2 D2 sc2 ar2) (hs : ∀ i, (i = 16 ∨ i = 17 ∨ i = 18 ∨ i = 19 ∨ i = 27 ∨ i = 29) → sc2 i = sc i) (e : ∀ j, (j = 11 ∨ j = 12 ∨ j = 13 ∨ j = 14 ∨ j = 15 ∨ j = 25 ∨ j = 26 ∨ j = 28) → ar2 j = ar j) (hC : cAll hk w h ru pl x y D wk h9 ruk plk xk yk Dk rk cd dt tn tx sc ar) : cAll hk w2 h2 ru2 pl2 x2 y2 D2 wk h9 ruk plk xk yk Dk rk cd dt tn tx sc2 ar2 :=
  ⟨hG, cK_eq (fun i hi => hs i (by omega)) (fun j hj => e j (by omega)) hC.2.1, rpC_eq (hs 27 (by omega)) (fun j hj => e j (by omega)) hC.2.2.1, cT_eq (hs 29 (by omega)) (e 28 (by omega)) hC.2.2.2⟩
theorem cAll_rp {rk2 : Nat} {cd2 dt2 : Nat → Int32} (hR : rpC rk2 cd2 dt2 sc2 ar2) (hs : ∀ i, (i = 1 ∨ i = 2 ∨ i = 3 ∨ i = 16 ∨ i = 17 ∨ i = 18 ∨ i = 19 ∨ i = 29) → sc2 i = sc i) (e : ∀ j, j ≠ 25 → j ≠ 26 → j ≠ 20 → j ≠ 21 → ar2 j = ar j) (hC : cAll hk w h ru pl x y D wk h9 ruk plk xk yk Dk rk cd dt tn tx sc ar) : cAll hk w h ru pl x y D wk h9 ruk plk xk yk Dk rk2 cd2 dt2 tn tx sc2 ar2 :=
  ⟨cG_eq (fun i hi => hs i (by omega)) (fun j hj => e j (by omega) (by omega) (by omega) (by omega)) hC.1, cK_eq (fun i hi => hs i (by omega)) (fun j hj => e j (by omega) (by omega) (by omega) (by omega)) hC.2.1, hR, cT_eq (hs 29 (by omega)) (e 28 (by omega) (by omega) (by omega) (by omega)) hC.2.2.2⟩
theorem arX_q {e cb f u : Nat → Int32} : qA (arX ar (ar 5) e cb f u) ar := fun j h1 h2 h3 h4 => by
  unfold arX arS
  by_cases q : j = 5
  · rw [q, va_up_self]
  · rw [va_up_ne _ _ q, va_up_ne _ _ h4, va_up_ne _ _ h3, va_up_ne _ _ h2, va_up_ne _ _ h1]
theorem scS_q {u1 u2 u3 v : Int32} : qS (scS (va_up sc 0 v) u1 u2 u3) sc := fun i hi => by
  unfold scS
  rw [va_up_ne _ _ (by omega), va_up_ne _ _ (by omega), va_up_ne _ _ (by omega), va_up_ne _ _ (by omega)]
theorem scS_0 {u1 u2 u3 v : Int32} : scS (va_up sc 0 v) u1 u2 u3 0 = v := by
  unfold scS
  rw [va_up_ne _ _ (by omega), va_up_ne _ _ (by omega), va_up_ne _ _ (by omega), va_up_self]
end WW2
section MX
variable {K : GK} {a : Nat} {L : List Nat} {σ : GS} {sc : Nat → Int32} {ar : Nat → Nat → Int32} {z : Nat} {yM : MethodName} {cM : ByteArray} {nM : Nat} {rM : Option FieldType} {dM : Nat} {av : List Value} {k : Nat} {R : Option Value → Int64 → Prop} {Po : GP}
theorem mid_x (hY : wY K a L σ sc ar) (hM : gM K yM cM nM rM dM 0 0 (.ref (a + 506) :: av) z L (mdl K (a + 506) sc ar σ) Po)
    (hp : ∀ r z2 L2 σ2, Po r z2 L2 σ2 → (∃ u, R r u ∧ (k = 0 → ∃ f, σ2 (a + 524) = lA K 1 f ∧ f 0 = u)) ∧ wI K a (nI k) z2 L2 σ2) : wMid K a yM cM nM rM dM av k R z L σ := by
  have hm := hY.2.2
  rw [← hm] at hM
  exact ⟨⟨hY.2.1 0 (by omega), mfl (a + 506) sc, by rw [hm]; exact mdl_0⟩, gM_mono hM hp⟩
end MX

theorem C_setRule (K : GK) {a : Nat} {th : Int32} {z : Nat} {L : List Nat} {σ : GS} (hI : wI K a th z L σ) (x1 : Int32) : gHM K yL_setRule cL_setRule 4 (some .int) [(0, 9, 12, 13)] 8 1 7 [.ref a, .int x1, .ref (a + 524)] z L σ (fun r z1 L1 σ1 => ∃ k, k ≤ 3 ∧ r = some (.int (nI k)) ∧ wMid K a yX8_setRule cX8_setRule 3 (some .int) 1 [.int x1] k RI z1 L1 σ1) := by
  obtain ⟨hk, w, h, b, ru, pl, x, y, D, wk, h9, bk, ruk, plk, xk, yk, Dk, rk, cd, dt, tn, tx, sc, ar, hX, hY, hC, h0, hz, haz⟩ := hI
  have hB := hC.1.1
  have hn := cG_n hC.1
  have hP := cG_P hC.1
  have hw1 := hB.2.2.1
  have hw2 := hB.2.2.2.1
  have hh1 := hB.2.2.2.2.1
  have hh2 := hB.2.2.2.2.2
  have hpl := cG_60 hC.1
  have h53 := cG_153 hC.1
  have hCp := hC.1.2.2.2.2
  have hX0 := hX.1.1
  have hX1 := hX.1.2
  obtain ⟨mo, fo, so⟩ := hY.1.1
  have hF := F_setRule K hX.2.1.1 hX.2.1.2.2.1 hw1 hw2 hh1 hh2 hP hX0 hX1 (by omega) (x := x1) (z := z)
  have hM := fun (z9 : Nat) (σ9 : GS) => M_setRule K (z := z9) (σ0 := σ9) (sc := sc) (ar := ar) hY.2.1 hB (x := x1)
  refine gHM_mono (W_setRule K hF hX0 hX1 (o := a + 524) (fun rv z1 L1 σ1 hp => ?_) (fun E z1 L1 σ1 hp => ?_)) (fun r z1 L1 σ1 hp => ?_)
  · obtain ⟨c0, h1, e1, e3, e4, e5, e6⟩ := hp
    exact ⟨_, fo, e3, by rw [e5]; exact mo, by rw [e6, va_up_ne _ _ (by omega)]; exact so⟩
  · exact hp.2.2.1
  · rcases hp with ⟨v, f, σ3, ⟨c0, h1, e1, e3, e4, e5, e6⟩, so2, e7, e8⟩ | ⟨E, j, ⟨e4, e5, hq⟩, hj, e7⟩
    · refine ⟨0, by omega, e7, ?_⟩
      rw [e4, e5, e8, e6]
      have hX3 := wX_gm (ru2 := nI c0) (pl2 := pl) (x2 := x) (y2 := y) hz haz hX
      have hY3 := wY_ge (q0 := a + 1) (e := gmO (a + 1) b (nI c0) pl x y) (by omega) (by omega) hY
      refine mid_of (va_up_self _ _ _) (wX_out hX3) (wY_out hY3) hz haz (hM _ _) (fun r2 z2 L2 σ9 q => ⟨q.1, q.2.1, ?_⟩)
      rcases q.2.2 with ⟨n1, n8, n9⟩ | ⟨c1, n1, n3, n8, n9⟩
      · exact absurd (iR (Nat.zero_le _) h1 e1) n1
      · have ec : c0 = c1 := ni (e1.symm.trans n3)
        subst ec
        rw [hC.1.2.1] at n8
        exact ⟨_, _, _, ⟨_, n8, rfl⟩, fun _ => okv (vI e3), n9, by rw [va_up_ne _ _ (by decide), va_up_self], cAll_g ⟨⟨by rw [va_up_ne _ _ (by decide), va_up_ne _ _ (by decide)]; exact hB.1, by rw [va_up_ne _ _ (by decide), va_up_ne _ _ (by decide)]; exact hB.2.1, hB.2.2⟩, va_up_self _ _ _, ⟨c0, h1, rfl⟩, hC.1.2.2.2.1, hCp⟩ (fun i hi => by rw [va_up_ne _ _ (by omega), va_up_ne _ _ (by omega)]) (fun _ _ => rfl) hC⟩
    · have hz1 : ∀ q, q ∈ L → q < z1 := fun q hq9 => Nat.lt_of_lt_of_le (hz q hq9) e4
      have haz1 : a + 526 ≤ z1 := Nat.le_trans haz e4
      obtain ⟨eE, hc, e6⟩ := hq
      have hj2 : j = 1 := hj.2
      refine ⟨1, by omega, by rw [e7, hj2], ?_⟩
      rw [e5, e6]
      refine mid_s so hX hY hC hz1 haz1 (hM _ _) (fun r2 z2 L2 σ9 q => ⟨q.1, q.2.1, ?_⟩)
      rcases q.2.2 with ⟨n1, n8, n9⟩ | ⟨c1, n1, n3, n8, n9⟩
      · exact ⟨_, ⟨_, n8, rfl⟩, fun q9 => absurd q9 (by decide), n9⟩
      · exact absurd (iR (Nat.zero_le _) n1 n3) hc

theorem C_setBonus (K : GK) {a : Nat} {th : Int32} {z : Nat} {L : List Nat} {σ : GS} (hI : wI K a th z L σ) (x1 y1 : Int32) : gHM K yL_setBonus cL_setBonus 5 (some .int) [(0, 10, 13, 23), (0, 10, 17, 13)] 8 1 7 [.ref a, .int x1, .int y1, .ref (a + 524)] z L σ (fun r z1 L1 σ1 => ∃ k, k ≤ 3 ∧ r = some (.int (nI k)) ∧ wMid K a yX8_setBonus cX8_setBonus 4 (some .int) 1 [.int x1, .int y1] k RI z1 L1 σ1) := by
  obtain ⟨hk, w, h, b, ru, pl, x, y, D, wk, h9, bk, ruk, plk, xk, yk, Dk, rk, cd, dt, tn, tx, sc, ar, hX, hY, hC, h0, hz, haz⟩ := hI
  have hB := hC.1.1
  have hn := cG_n hC.1
  have hP := cG_P hC.1
  have hw1 := hB.2.2.1
  have hw2 := hB.2.2.2.1
  have hh1 := hB.2.2.2.2.1
  have hh2 := hB.2.2.2.2.2
  have hpl := cG_60 hC.1
  have h53 := cG_153 hC.1
  have hCp := hC.1.2.2.2.2
  have hX0 := hX.1.1
  have hX1 := hX.1.2
  obtain ⟨mo, fo, so⟩ := hY.1.1
  have hF := F_setBonus K hX.2.1.1 hX.2.1.2.2.1 hw1 hw2 hh1 hh2 hP hX0 hX1 (by omega) (x := x1) (y := y1) (z := z)
  have hM := fun (z9 : Nat) (σ9 : GS) => M_setBonus K (z := z9) (σ0 := σ9) (sc := sc) (ar := ar) hY.2.1 hB (p := x1) (x := y1)
  refine gHM_mono (W_setBonus K hF hX0 hX1 (o := a + 524) (fun rv z1 L1 σ1 hp => ?_) (fun E z1 L1 σ1 hp => ?_)) (fun r z1 L1 σ1 hp => ?_)
  · obtain ⟨p0, c0, h1, h2, e1, e2, e3, e4, e5, e6⟩ := hp
    exact ⟨_, fo, e3, by rw [e5]; exact mo, by rw [e6, va_up_ne _ _ (by omega)]; exact so⟩
  · exact hp.2.2.imp (fun q => q.1) (fun q => q.1)
  · rcases hp with ⟨v, f, σ3, ⟨p0, c0, h1, h2, e1, e2, e3, e4, e5, e6⟩, so2, e7, e8⟩ | ⟨E, j, ⟨e4, e5, hq⟩, hj, e7⟩
    · refine ⟨0, by omega, e7, ?_⟩
      rw [e4, e5, e8, e6]
      have hX3 := wX_gm (ru2 := ru) (pl2 := pl) (x2 := if p0 = 0 then nI c0 else x) (y2 := if p0 = 0 then y else nI c0) hz haz hX
      have hY3 := wY_ge (q0 := a + 1) (e := gmO (a + 1) b ru pl (if p0 = 0 then nI c0 else x) (if p0 = 0 then y else nI c0)) (by omega) (by omega) hY
      refine mid_of (va_up_self _ _ _) (wX_out hX3) (wY_out hY3) hz haz (hM _ _) (fun r2 z2 L2 σ9 q => ⟨q.1, q.2.1, ?_⟩)
      rcases q.2.2 with ⟨n1, n8, n9⟩ | ⟨n0, n1, n8, n9⟩ | ⟨p1, c1, n1, n2, n3, n4, n8, n9⟩
      · exact absurd (iR (Nat.zero_le _) h1 e1) n1
      · exact absurd (iR (Nat.zero_le _) h2 e2) n1
      · have ep : p0 = p1 := ni (e1.symm.trans n3)
        have ec : c0 = c1 := ni (e2.symm.trans n4)
        subst ep ec
        obtain ⟨u1, u2, hu1, hu2, eu1, eu2⟩ := hC.1.2.2.2.1
        have hv : v = ar 4 p0 := by
          rw [vI e3]
          rcases (show p0 = 0 ∨ p0 = 1 by omega) with q0 | q0
          · rw [q0, hCp.2.2.2.2.2.1]; rfl
          · rw [q0, hCp.2.2.2.2.2.2]; rfl
        refine ⟨_, _, _, ⟨_, n8, rfl⟩, fun _ => okv hv, n9, va_up_self _ _ _, cAll_g ⟨⟨by rw [va_up_ne _ _ (by decide)]; exact hB.1, by rw [va_up_ne _ _ (by decide)]; exact hB.2.1, hB.2.2⟩, by rw [va_up_ne _ _ (by decide)]; exact hC.1.2.1, hC.1.2.2.1, ?_, ?_⟩ (fun i hi => va_up_ne _ _ (by omega)) (fun j hj => va_up_ne _ _ (by omega)) hC⟩
        · rcases (show p0 = 0 ∨ p0 = 1 by omega) with q0 | q0
          · rw [q0]; exact ⟨c0, u2, h2, hu2, rfl, eu2⟩
          · rw [q0]; exact ⟨u1, c0, hu1, h2, eu1, rfl⟩
        · have hC9 := cpl_ar (ar2 := va_up ar 4 (ar 4)) (fun j hj => by rw [va_up_same]) hCp
          have e40 : hisR (va_up ar 4 (va_up (ar 4) p0 (nI c0))) pl = hisR ar pl := by unfold hisR; rw [va_up_ne _ _ (by decide), va_up_ne _ _ (by decide)]
          refine ⟨e40 ▸ hCp.1, e40 ▸ hCp.2.1, hCp.2.2.1, ?_, e40 ▸ hCp.2.2.2.2.1, ?_, ?_⟩
          · rw [va_up_ne _ _ (by decide), va_up_ne _ _ (by decide)]; exact hCp.2.2.2.1
          · rw [va_up_self]
            rcases (show p0 = 0 ∨ p0 = 1 by omega) with q0 | q0
            · rw [q0, va_up_self]; rfl
            · rw [q0, va_up_ne _ _ (by decide), hCp.2.2.2.2.2.1]; rfl
          · rw [va_up_self]
            rcases (show p0 = 0 ∨ p0 = 1 by omega) with q0 | q0
            · rw [q0, va_up_ne _ _ (by decide), hCp.2.2.2.2.2.2]; rfl
            · rw [q0, va_up_self]; rfl
    · have hz1 : ∀ q, q ∈ L → q < z1 := fun q hq9 => Nat.lt_of_lt_of_le (hz q hq9) e4
      have haz1 : a + 526 ≤ z1 := Nat.le_trans haz e4
      rcases hq with hq | hq
      · obtain ⟨eE, hc, e6⟩ := hq
        have hj2 : j = 1 := by
          rcases hj with ⟨q1, q2⟩ | ⟨q1, q2⟩
          · exact q2
          · exact absurd (eE.symm.trans q1) (by decide)
        refine ⟨1, by omega, by rw [e7, hj2], ?_⟩
        rw [e5, e6]
        refine mid_s so hX hY hC hz1 haz1 (hM _ _) (fun r2 z2 L2 σ9 q => ⟨q.1, q.2.1, ?_⟩)
        rcases q.2.2 with ⟨n1, n8, n9⟩ | ⟨n0, n1, n8, n9⟩ | ⟨p1, c1, n1, n2, n3, n4, n8, n9⟩
        · exact ⟨_, ⟨_, n8, rfl⟩, fun q9 => absurd q9 (by decide), n9⟩
        · exact absurd n0 hc
        · exact absurd (iR (Nat.zero_le _) n1 n3) hc
      · obtain ⟨eE, hc, hd, e6⟩ := hq
        have hj2 : j = 2 := by
          rcases hj with ⟨q1, q2⟩ | ⟨q1, q2⟩
          · exact absurd (eE.symm.trans q1) (by decide)
          · exact q2
        refine ⟨2, by omega, by rw [e7, hj2], ?_⟩
        rw [e5, e6]
        refine mid_s so hX hY hC hz1 haz1 (hM _ _) (fun r2 z2 L2 σ9 q => ⟨q.1, q.2.1, ?_⟩)
        rcases q.2.2 with ⟨n1, n8, n9⟩ | ⟨n0, n1, n8, n9⟩ | ⟨p1, c1, n1, n2, n3, n4, n8, n9⟩
        · exact absurd hc n1
        · exact ⟨_, ⟨_, n8, rfl⟩, fun q9 => absurd q9 (by decide), n9⟩
        · exact absurd (iR (Nat.zero_le _) n2 n4) hd

theorem C_undo (K : GK) {a : Nat} {th : Int32} {z : Nat} {L : List Nat} {σ : GS} (hI : wI K a th z L σ) : gHM K yL_undo cL_undo 3 (some .int) [(0, 8, 11, 28)] 8 1 7 [.ref a, .ref (a + 524)] z L σ (fun r z1 L1 σ1 => ∃ k, k ≤ 3 ∧ r = some (.int (nI k)) ∧ wMid K a yX8_undo cX8_undo 3 (some .int) 0 [] k RI z1 L1 σ1) := by
  obtain ⟨hk, w, h, b, ru, pl, x, y, D, wk, h9, bk, ruk, plk, xk, yk, Dk, rk, cd, dt, tn, tx, sc, ar, hX, hY, hC, h0, hz, haz⟩ := hI
  have hB := hC.1.1
  have hn := cG_n hC.1
  have hP := cG_P hC.1
  have hw1 := hB.2.2.1
  have hw2 := hB.2.2.2.1
  have hh1 := hB.2.2.2.2.1
  have hh2 := hB.2.2.2.2.2
  have hpl := cG_60 hC.1
  have h53 := cG_153 hC.1
  have hCp := hC.1.2.2.2.2
  have hX0 := hX.1.1
  have hX1 := hX.1.2
  obtain ⟨mo, fo, so⟩ := hY.1.1
  have hF := F_undo K hX.2.1.1 hX.2.1.2.2.1 hw1 hw2 hh1 hh2 hP hX0 hX1 (by omega)  (z := z)
  have hM := fun (z9 : Nat) (σ9 : GS) => M_undo K (z := z9) (σ0 := σ9) (sc := sc) (ar := ar) hY.2.1 hB h53 hpl
  refine gHM_mono (W_undo K hF hX0 hX1 (o := a + 524) (fun rv z1 L1 σ1 hp => ?_) (fun E z1 L1 σ1 hp => ?_)) (fun r z1 L1 σ1 hp => ?_)
  · obtain ⟨h1, e3, e4, e5, e6⟩ := hp
    exact ⟨_, fo, e3, by rw [e5]; exact mo, by rw [e6, va_up_ne _ _ (by omega)]; exact so⟩
  · exact hp.2.2.1
  · rcases hp with ⟨v, f, σ3, ⟨h1, e3, e4, e5, e6⟩, so2, e7, e8⟩ | ⟨E, j, ⟨e4, e5, hq⟩, hj, e7⟩
    · refine ⟨0, by omega, e7, ?_⟩
      rw [e4, e5, e8, e6]
      have hX3 := wX_gm (ru2 := ru) (pl2 := pl - 1) (x2 := x) (y2 := y) hz haz hX
      have hY3 := wY_ge (q0 := a + 1) (e := gmO (a + 1) b ru (pl - 1) x y) (by omega) (by omega) hY
      refine mid_of (va_up_self _ _ _) (wX_out hX3) (wY_out hY3) hz haz (hM _ _) (fun r2 z2 L2 σ9 q => ⟨q.1, q.2.1, ?_⟩)
      rcases q.2.2 with ⟨n1, n8, n9⟩ | ⟨n1, n8, n9⟩
      · exact absurd n1 h1
      · exact ⟨_, _, _, ⟨_, n8, rfl⟩, fun _ => okv (vI e3), n9, va_up_self _ _ _, cAll_g ⟨⟨by rw [va_up_ne _ _ (by decide)]; exact hB.1, by rw [va_up_ne _ _ (by decide)]; exact hB.2.1, hB.2.2⟩, by rw [va_up_ne _ _ (by decide)]; exact hC.1.2.1, hC.1.2.2.1, hC.1.2.2.2.1, cpl_undo hn hCp h1⟩ (fun i hi => va_up_ne _ _ (by omega)) (fun j hj => va_up_ne _ _ (by omega)) hC⟩
    · have hz1 : ∀ q, q ∈ L → q < z1 := fun q hq9 => Nat.lt_of_lt_of_le (hz q hq9) e4
      have haz1 : a + 526 ≤ z1 := Nat.le_trans haz e4
      obtain ⟨eE, hc, e6⟩ := hq
      have hj2 : j = 1 := hj.2
      refine ⟨1, by omega, by rw [e7, hj2], ?_⟩
      rw [e5, e6]
      refine mid_s so hX hY hC hz1 haz1 (hM _ _) (fun r2 z2 L2 σ9 q => ⟨q.1, q.2.1, ?_⟩)
      rcases q.2.2 with ⟨n1, n8, n9⟩ | ⟨n1, n8, n9⟩
      · exact ⟨_, ⟨_, n8, rfl⟩, fun q9 => absurd q9 (by decide), n9⟩
      · exact absurd hc n1

theorem C_guarantee (K : GK) {a : Nat} {th : Int32} {z : Nat} {L : List Nat} {σ : GS} (hI : wI K a th z L σ) (x1 y1 k1 : Int32) : gHM K yL_guarantee cL_guarantee 6 (some .int) [(0, 12, 15, 23), (0, 12, 19, 13), (0, 12, 23, 28)] 10 1 7 [.ref a, .int x1, .int y1, .int k1, .ref (a + 524)] z L σ (fun r z1 L1 σ1 => ∃ k, k ≤ 3 ∧ r = some (.int (nI k)) ∧ wMid K a yX8_guarantee cX8_guarantee 4 (some .int) 12 [.int x1, .int y1, .int k1] k RI z1 L1 σ1) := by
  obtain ⟨hk, w, h, b, ru, pl, x, y, D, wk, h9, bk, ruk, plk, xk, yk, Dk, rk, cd, dt, tn, tx, sc, ar, hX, hY, hC, h0, hz, haz⟩ := hI
  have hB := hC.1.1
  have hn := cG_n hC.1
  have hP := cG_P hC.1
  have hw1 := hB.2.2.1
  have hw2 := hB.2.2.2.1
  have hh1 := hB.2.2.2.2.1
  have hh2 := hB.2.2.2.2.2
  have hpl := cG_60 hC.1
  have h53 := cG_153 hC.1
  have hCp := hC.1.2.2.2.2
  have hX0 := hX.1.1
  have hX1 := hX.1.2
  obtain ⟨mo, fo, so⟩ := hY.1.1
  have hF := F_guarantee K hX.2.1.1 hX.2.1.2.2.1 hw1 hw2 hh1 hh2 hP hX0 hX1 (by omega) hX.2.2.2.2.2.1 hX.2.2.2.2.2.2.1 (by omega) hC.1.2.2.1 (mm8 := 24000) (by omega) (cG_cp hC.1) hC.1.2.2.2.1 hX.2.2.2.2.2.2.2.1 hX.2.2.2.2.2.2.2.2 (by rcases hX.2.1.2.2.2 with q | q | q <;> omega) (by rw [hisR_pl]; exact h53) (x := x1) (ch := y1) (y := k1) (z := z)
  simp only [hisR_pl] at hF
  have hM := fun (z9 : Nat) (σ9 : GS) => M_guarantee K (z := z9) (σ0 := σ9) (sc := sc) (ar := ar) hY.2.1 hB (p := x1) (ch := y1) (dp := k1)
  refine gHM_mono (W_guarantee K hF hX0 hX1 (o := a + 524) (fun rv z1 L1 σ1 hp => ?_) (fun E z1 L1 σ1 hp => ?_)) (fun r z1 L1 σ1 hp => ?_)
  · obtain ⟨⟨p0, d0, h1, h2, h3, e1, e2, hch, ⟨hf1, hf2, hf3⟩, e3⟩, e4, e5, e6⟩ := hp
    exact ⟨_, fo, e3, by rw [e5]; exact mo, by rw [e6.2.2 _ (by omega)]; exact so⟩
  · rcases hp.2.2 with q | q | q
    · exact Or.inl q.1
    · exact Or.inr (Or.inl q.1)
    · exact Or.inr (Or.inr q.1)
  · rcases hp with ⟨v, f, σ3, ⟨⟨p0, d0, h1, h2, h3, e1, e2, hch, ⟨hf1, hf2, hf3⟩, e3⟩, e4, e5, e6⟩, so2, e7, e8⟩ | ⟨E, j, ⟨e4, e5, hq⟩, hj, e7⟩
    · refine ⟨0, by omega, e7, ?_⟩
      rw [e4, e5, e8]
      have hX3 := wX_fo e6 hX
      have hY3 := wY_eq (fun q hq => hq) (fun q hq => e6.2.2 q (by omega)) hY
      refine mid_of (va_up_self _ _ _) (wX_out hX3) (wY_out hY3) hz haz (hM _ _) (fun r2 z2 L2 σ9 q => ⟨q.1, q.2.1, ?_⟩)
      rcases q.2.2 with ⟨n1, n8, n9⟩ | ⟨n0, n1, n2, n8, n9⟩ | ⟨p1, d1, n1, n2, n3, n4, n5, n6, n7, n8, n9⟩ | ⟨p1, d1, n1, n2, n3, n4, n5, n6, n7, n10, n11, n8, u1, u2, u3, t1, t2, t3, t4, n9⟩
      · exact absurd ⟨iR (Nat.zero_le _) h1 e1, hch⟩ n1
      · exact absurd (iR h2 h3 e2) n2
      · have ep : p0 = p1 := ni (e1.symm.trans n4)
        have ec : d0 = d1 := ni (e2.symm.trans n5)
        subst ep ec
        exfalso
        rcases n7 with n7 | n7 | n7
        · exact hf1 ((cG_end hC.1).mpr n7)
        · exact n7 hf2
        · exact hf3 n7
      · have ep : p0 = p1 := ni (e1.symm.trans n4)
        have ec : d0 = d1 := ni (e2.symm.trans n5)
        subst ep ec
        rw [hC.1.2.1, gvF_g hCp.2.2.2.2.2 h1] at n8
        exact ⟨_, _, _, ⟨_, n8, rfl⟩, fun _ => okv (vI e3), n9, scS_0, cAll_q scS_q arX_q hC⟩
    · have hz1 : ∀ q, q ∈ L → q < z1 := fun q hq9 => Nat.lt_of_lt_of_le (hz q hq9) e4
      have haz1 : a + 526 ≤ z1 := Nat.le_trans haz e4
      rcases hq with hq | hq | hq
      · obtain ⟨eE, hc, e6⟩ := hq
        have hj2 : j = 1 := by
          rcases hj with ⟨q1, q2⟩ | ⟨q1, q2⟩ | ⟨q1, q2⟩
          · exact q2
          · exact absurd (eE.symm.trans q1) (by decide)
          · exact absurd (eE.symm.trans q1) (by decide)
        refine ⟨1, by omega, by rw [e7, hj2], ?_⟩
        rw [e5, e6]
        refine mid_s so hX hY hC hz1 haz1 (hM _ _) (fun r2 z2 L2 σ9 q => ⟨q.1, q.2.1, ?_⟩)
        rcases q.2.2 with ⟨n1, n8, n9⟩ | ⟨n0, n1, n2, n8, n9⟩ | ⟨p1, d1, n1, n2, n3, n4, n5, n6, n7, n8, n9⟩ | ⟨p1, d1, n1, n2, n3, n4, n5, n6, n7, n10, n11, n8, u1, u2, u3, t1, t2, t3, t4, n9⟩
        · exact ⟨_, ⟨_, n8, rfl⟩, fun q9 => absurd q9 (by decide), n9⟩
        · exact absurd ⟨n0, n1⟩ hc
        · exact absurd ⟨iR (Nat.zero_le _) n1 n4, n6⟩ hc
        · exact absurd ⟨iR (Nat.zero_le _) n1 n4, n6⟩ hc
      · obtain ⟨eE, hc, hd, e6⟩ := hq
        have hj2 : j = 2 := by
          rcases hj with ⟨q1, q2⟩ | ⟨q1, q2⟩ | ⟨q1, q2⟩
          · exact absurd (eE.symm.trans q1) (by decide)
          · exact q2
          · exact absurd (eE.symm.trans q1) (by decide)
        refine ⟨2, by omega, by rw [e7, hj2], ?_⟩
        rw [e5, e6]
        refine mid_s so hX hY hC hz1 haz1 (hM _ _) (fun r2 z2 L2 σ9 q => ⟨q.1, q.2.1, ?_⟩)
        rcases q.2.2 with ⟨n1, n8, n9⟩ | ⟨n0, n1, n2, n8, n9⟩ | ⟨p1, d1, n1, n2, n3, n4, n5, n6, n7, n8, n9⟩ | ⟨p1, d1, n1, n2, n3, n4, n5, n6, n7, n10, n11, n8, u1, u2, u3, t1, t2, t3, t4, n9⟩
        · exact absurd hc n1
        · exact ⟨_, ⟨_, n8, rfl⟩, fun q9 => absurd q9 (by decide), n9⟩
        · exact absurd (iR n2 n3 n5) hd
        · exact absurd (iR n2 n3 n5) hd
      · obtain ⟨eE, ⟨p0, d0, h1, h2, h3, e1, e2, hch, hf⟩, e6⟩ := hq
        have hj2 : j = 3 := by
          rcases hj with ⟨q1, q2⟩ | ⟨q1, q2⟩ | ⟨q1, q2⟩
          · exact absurd (eE.symm.trans q1) (by decide)
          · exact absurd (eE.symm.trans q1) (by decide)
          · exact q2
        refine ⟨3, by omega, by rw [e7, hj2], ?_⟩
        rw [e5, e6]
        refine mid_s so hX hY hC hz1 haz1 (hM _ _) (fun r2 z2 L2 σ9 q => ⟨q.1, q.2.1, ?_⟩)
        rcases q.2.2 with ⟨n1, n8, n9⟩ | ⟨n0, n1, n2, n8, n9⟩ | ⟨p1, d1, n1, n2, n3, n4, n5, n6, n7, n8, n9⟩ | ⟨p1, d1, n1, n2, n3, n4, n5, n6, n7, n10, n11, n8, u1, u2, u3, t1, t2, t3, t4, n9⟩
        · exact absurd ⟨iR (Nat.zero_le _) h1 e1, hch⟩ n1
        · exact absurd (iR h2 h3 e2) n2
        · exact ⟨_, ⟨_, n8, rfl⟩, fun q9 => absurd q9 (by decide), n9⟩
        · have ep : p0 = p1 := ni (e1.symm.trans n4)
          have ec : d0 = d1 := ni (e2.symm.trans n5)
          subst ep ec
          exact absurd ⟨fun q9 => n7 ((cG_end hC.1).mp q9), n10, n11⟩ hf

theorem C_best (K : GK) {a : Nat} {th : Int32} {z : Nat} {L : List Nat} {σ : GS} (hI : wI K a th z L σ) (x1 y1 : Int32) : gHM K yL_best cL_best 5 (some .int) [(0, 10, 13, 23), (0, 10, 17, 13), (0, 10, 21, 28)] 12 1 7 [.ref a, .int x1, .int y1, .ref (a + 524)] z L σ (fun r z1 L1 σ1 => ∃ k, k ≤ 3 ∧ r = some (.int (nI k)) ∧ wMid K a yX8_best cX8_best 8 (some .int) 12 [.int x1, .int y1] k RI z1 L1 σ1) := by
  obtain ⟨hk, w, h, b, ru, pl, x, y, D, wk, h9, bk, ruk, plk, xk, yk, Dk, rk, cd, dt, tn, tx, sc, ar, hX, hY, hC, h0, hz, haz⟩ := hI
  have hB := hC.1.1
  have hn := cG_n hC.1
  have hP := cG_P hC.1
  have hw1 := hB.2.2.1
  have hw2 := hB.2.2.2.1
  have hh1 := hB.2.2.2.2.1
  have hh2 := hB.2.2.2.2.2
  have hpl := cG_60 hC.1
  have h53 := cG_153 hC.1
  have hCp := hC.1.2.2.2.2
  have hX0 := hX.1.1
  have hX1 := hX.1.2
  obtain ⟨mo, fo, so⟩ := hY.1.1
  have hF := F_best K hX.2.1.1 hX.2.1.2.2.1 hw1 hw2 hh1 hh2 hP hX0 hX1 (by omega) hX.2.2.2.2.2.1 hX.2.2.2.2.2.2.1 (by omega) hC.1.2.2.1 (mm8 := 24000) (by omega) (cG_cp hC.1) hC.1.2.2.2.1 hX.2.2.2.2.2.2.2.1 hX.2.2.2.2.2.2.2.2 (by rcases hX.2.1.2.2.2 with q | q | q <;> omega) (by rw [hisR_pl]; exact h53) (x := x1) (y := y1) (z := z)
  simp only [hisR_pl] at hF
  have hM := fun (z9 : Nat) (σ9 : GS) => M_best K (z := z9) (σ0 := σ9) (sc := sc) (ar := ar) hY.2.1 hB (p := x1) (dp := y1)
  refine gHM_mono (W_best K hF hX0 hX1 (o := a + 524) (fun rv z1 L1 σ1 hp => ?_) (fun E z1 L1 σ1 hp => ?_)) (fun r z1 L1 σ1 hp => ?_)
  · obtain ⟨⟨p0, d0, h1, h2, h3, e1, e2, ⟨hf1, hf3⟩, e3⟩, e4, e5, e6⟩ := hp
    exact ⟨_, fo, e3, by rw [e5]; exact mo, by rw [e6.2.2 _ (by omega)]; exact so⟩
  · rcases hp.2.2 with q | q | q
    · exact Or.inl q.1
    · exact Or.inr (Or.inl q.1)
    · exact Or.inr (Or.inr q.1)
  · rcases hp with ⟨v, f, σ3, ⟨⟨p0, d0, h1, h2, h3, e1, e2, ⟨hf1, hf3⟩, e3⟩, e4, e5, e6⟩, so2, e7, e8⟩ | ⟨E, j, ⟨e4, e5, hq⟩, hj, e7⟩
    · refine ⟨0, by omega, e7, ?_⟩
      rw [e4, e5, e8]
      have hX3 := wX_fo e6 hX
      have hY3 := wY_eq (fun q hq => hq) (fun q hq => e6.2.2 q (by omega)) hY
      refine mid_of (va_up_self _ _ _) (wX_out hX3) (wY_out hY3) hz haz (hM _ _) (fun r2 z2 L2 σ9 q => ⟨q.1, q.2.1, ?_⟩)
      rcases q.2.2 with ⟨n1, n8, n9⟩ | ⟨n0, n2, n8, n9⟩ | ⟨p1, d1, n1, n2, n3, n4, n5, n7, n8, n9⟩ | ⟨p1, d1, n1, n2, n3, n4, n5, n7, n11, n8, u1, u2, u3, t1, t2, t3, t4, n9⟩
      · exact absurd (iR (Nat.zero_le _) h1 e1) n1
      · exact absurd (iR h2 h3 e2) n2
      · have ep : p0 = p1 := ni (e1.symm.trans n4)
        have ec : d0 = d1 := ni (e2.symm.trans n5)
        subst ep ec
        exfalso
        rcases n7 with n7 | n7
        · exact hf1 ((cG_end hC.1).mpr n7)
        · exact hf3 n7
      · have ep : p0 = p1 := ni (e1.symm.trans n4)
        have ec : d0 = d1 := ni (e2.symm.trans n5)
        subst ep ec
        rw [hC.1.2.1, (bs_g hCp.2.2.2.2.2 h1 _).2] at n8
        exact ⟨_, _, _, ⟨_, n8, rfl⟩, fun _ => okv (vI e3), n9, scS_0, cAll_q scS_q arX_q hC⟩
    · have hz1 : ∀ q, q ∈ L → q < z1 := fun q hq9 => Nat.lt_of_lt_of_le (hz q hq9) e4
      have haz1 : a + 526 ≤ z1 := Nat.le_trans haz e4
      rcases hq with hq | hq | hq
      · obtain ⟨eE, hc, e6⟩ := hq
        have hj2 : j = 1 := by
          rcases hj with ⟨q1, q2⟩ | ⟨q1, q2⟩ | ⟨q1, q2⟩
          · exact q2
          · exact absurd (eE.symm.trans q1) (by decide)
          · exact absurd (eE.symm.trans q1) (by decide)
        refine ⟨1, by omega, by rw [e7, hj2], ?_⟩
        rw [e5, e6]
        refine mid_s so hX hY hC hz1 haz1 (hM _ _) (fun r2 z2 L2 σ9 q => ⟨q.1, q.2.1, ?_⟩)
        rcases q.2.2 with ⟨n1, n8, n9⟩ | ⟨n0, n2, n8, n9⟩ | ⟨p1, d1, n1, n2, n3, n4, n5, n7, n8, n9⟩ | ⟨p1, d1, n1, n2, n3, n4, n5, n7, n11, n8, u1, u2, u3, t1, t2, t3, t4, n9⟩
        · exact ⟨_, ⟨_, n8, rfl⟩, fun q9 => absurd q9 (by decide), n9⟩
        · exact absurd n0 hc
        · exact absurd (iR (Nat.zero_le _) n1 n4) hc
        · exact absurd (iR (Nat.zero_le _) n1 n4) hc
      · obtain ⟨eE, hc, hd, e6⟩ := hq
        have hj2 : j = 2 := by
          rcases hj with ⟨q1, q2⟩ | ⟨q1, q2⟩ | ⟨q1, q2⟩
          · exact absurd (eE.symm.trans q1) (by decide)
          · exact q2
          · exact absurd (eE.symm.trans q1) (by decide)
        refine ⟨2, by omega, by rw [e7, hj2], ?_⟩
        rw [e5, e6]
        refine mid_s so hX hY hC hz1 haz1 (hM _ _) (fun r2 z2 L2 σ9 q => ⟨q.1, q.2.1, ?_⟩)
        rcases q.2.2 with ⟨n1, n8, n9⟩ | ⟨n0, n2, n8, n9⟩ | ⟨p1, d1, n1, n2, n3, n4, n5, n7, n8, n9⟩ | ⟨p1, d1, n1, n2, n3, n4, n5, n7, n11, n8, u1, u2, u3, t1, t2, t3, t4, n9⟩
        · exact absurd hc n1
        · exact ⟨_, ⟨_, n8, rfl⟩, fun q9 => absurd q9 (by decide), n9⟩
        · exact absurd (iR n2 n3 n5) hd
        · exact absurd (iR n2 n3 n5) hd
      · obtain ⟨eE, ⟨p0, d0, h1, h2, h3, e1, e2, hf⟩, e6⟩ := hq
        have hj2 : j = 3 := by
          rcases hj with ⟨q1, q2⟩ | ⟨q1, q2⟩ | ⟨q1, q2⟩
          · exact absurd (eE.symm.trans q1) (by decide)
          · exact absurd (eE.symm.trans q1) (by decide)
          · exact q2
        refine ⟨3, by omega, by rw [e7, hj2], ?_⟩
        rw [e5, e6]
        refine mid_s so hX hY hC hz1 haz1 (hM _ _) (fun r2 z2 L2 σ9 q => ⟨q.1, q.2.1, ?_⟩)
        rcases q.2.2 with ⟨n1, n8, n9⟩ | ⟨n0, n2, n8, n9⟩ | ⟨p1, d1, n1, n2, n3, n4, n5, n7, n8, n9⟩ | ⟨p1, d1, n1, n2, n3, n4, n5, n7, n11, n8, u1, u2, u3, t1, t2, t3, t4, n9⟩
        · exact absurd (iR (Nat.zero_le _) h1 e1) n1
        · exact absurd (iR h2 h3 e2) n2
        · exact ⟨_, ⟨_, n8, rfl⟩, fun q9 => absurd q9 (by decide), n9⟩
        · have ep : p0 = p1 := ni (e1.symm.trans n4)
          have ec : d0 = d1 := ni (e2.symm.trans n5)
          subst ep ec
          exact absurd ⟨fun q9 => n7 ((cG_end hC.1).mp q9), n11⟩ hf
