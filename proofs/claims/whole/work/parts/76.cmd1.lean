/-! ===== the commands that change nothing ===== -/
theorem vI {a b : Int32} (h : some (Value.int a) = some (Value.int b)) : a = b := by injection h with h; injection h
theorem vL {a b : Int64} (h : some (Value.long a) = some (Value.long b)) : a = b := by injection h with h; injection h
theorem okv {f : Nat → Int64} {u v : Int32} (h : u = v) : va_up f 0 u.toInt64 0 = v.toInt64 := by rw [va_up_self, h]
theorem okL {f : Nat → Int64} {u v : Int64} (h : u = v) : va_up f 0 u 0 = v := by rw [va_up_self, h]
theorem iN {n j : Nat} {v : Int32} (h : j < n) (e : v = nI j) : inN n v := ⟨j, h, e⟩
theorem iR {p n j : Nat} {v : Int32} (h1 : p ≤ j) (h : j ≤ n) (e : v = nI j) : inR p n v := ⟨j, h1, h, e⟩

theorem C_cell (K : GK) {a : Nat} {th : Int32} {z : Nat} {L : List Nat} {σ : GS} (hI : wI K a th z L σ) (x1 y1 : Int32) : gHM K yL_cell cL_cell 5 (some .int) [(0, 10, 13, 23)] 8 1 7 [.ref a, .int x1, .int y1, .ref (a + 524)] z L σ (fun r z1 L1 σ1 => ∃ k, k ≤ 3 ∧ r = some (.int (nI k)) ∧ wMid K a yX8_cell cX8_cell 3 (some .int) 1 [.int x1, .int y1] k RI z1 L1 σ1) := by
  obtain ⟨hk, w, h, b, ru, pl, x, y, D, wk, h9, bk, ruk, plk, xk, yk, Dk, rk, cd, dt, tn, tx, sc, ar, hX, hY, hC, h0, hz, haz⟩ := hI
  have hB := hC.1.1
  have hn := cG_n hC.1
  have hP := cG_P hC.1
  have hw1 := hB.2.2.1
  have hw2 := hB.2.2.2.1
  have hh1 := hB.2.2.2.2.1
  have hh2 := hB.2.2.2.2.2
  have hpl := cG_60 hC.1
  have h53 := cG_153 hC.1
  have hCp := hC.1.2.2.2.2
  have hX0 := hX.1.1
  have hX1 := hX.1.2
  obtain ⟨mo, fo, so⟩ := hY.1.1
  have hF := F_cell K hX.2.1.1 hX.2.1.2.2.1 hw1 hw2 hh1 hh2 hP hX0 hX1 (by omega) (cG_st hC.1) (x := x1) (y := y1) (z := z)
  simp only [hisR_pl] at hF
  have hM := fun (z9 : Nat) (σ9 : GS) => M_cell K (z := z9) (σ0 := σ9) (sc := sc) (ar := ar) hY.2.1 hB (c := x1) (y := y1)
  refine gHM_mono (W_cell K hF hX0 hX1 (o := a + 524) (fun rv z1 L1 σ1 hp => ?_) (fun E z1 L1 σ1 hp => ?_)) (fun r z1 L1 σ1 hp => ?_)
  · obtain ⟨⟨c0, r0, h1, h2, e1, e2, e3⟩, e4, e5, e6⟩ := hp
    exact ⟨_, fo, e3, by rw [e5]; exact mo, by rw [e6]; exact so⟩
  · exact hp.2.2.1
  · rcases hp with ⟨v, f, σ3, ⟨⟨c0, r0, h1, h2, e1, e2, e3⟩, e4, e5, e6⟩, so2, e7, e8⟩ | ⟨E, j, ⟨e4, e5, hq⟩, hj, e7⟩
    · refine ⟨0, by omega, e7, ?_⟩
      rw [e4, e5, e8, e6]
      have hv := vI e3
      refine mid_s (va_up_self _ _ _) (wX_out hX) (wY_out hY) hC hz haz (hM _ _) (fun r2 z2 L2 σ9 q => ⟨q.1, q.2.1, ?_⟩)
      rcases q.2.2 with ⟨n1, n8, n9⟩ | ⟨c1, r1, n1, n2, n3, n4, n8, n9⟩
      · exact absurd ⟨inR_N (by omega) |>.mpr (iN h1 e1), inR_N (by omega) |>.mpr (iN h2 e2)⟩ n1
      · have ec : c0 = c1 := ni (e1.symm.trans n3)
        have er : r0 = r1 := ni (e2.symm.trans n4)
        subst ec er
        exact ⟨_, ⟨_, n8, rfl⟩, fun _ => okv hv, n9⟩
    · have hz1 : ∀ q, q ∈ L → q < z1 := fun q hq9 => Nat.lt_of_lt_of_le (hz q hq9) e4
      have haz1 : a + 526 ≤ z1 := Nat.le_trans haz e4
      obtain ⟨eE, hc, e6⟩ := hq
      have hj2 : j = 1 := hj.2
      refine ⟨1, by omega, by rw [e7, hj2], ?_⟩
      rw [e5, e6]
      refine mid_s so hX hY hC hz1 haz1 (hM _ _) (fun r2 z2 L2 σ9 q => ⟨q.1, q.2.1, ?_⟩)
      rcases q.2.2 with ⟨n1, n8, n9⟩ | ⟨c1, r1, n1, n2, n3, n4, n8, n9⟩
      · exact ⟨_, ⟨_, n8, rfl⟩, fun q9 => absurd q9 (by decide), n9⟩
      · exact absurd ⟨iN (by omega) n3, iN (by omega) n4⟩ hc

theorem C_since (K : GK) {a : Nat} {th : Int32} {z : Nat} {L : List Nat} {σ : GS} (hI : wI K a th z L σ) (x1 y1 : Int32) : gHM K yL_since cL_since 5 (some .int) [(0, 10, 13, 23), (0, 10, 17, 13)] 8 1 7 [.ref a, .int x1, .int y1, .ref (a + 524)] z L σ (fun r z1 L1 σ1 => ∃ k, k ≤ 3 ∧ r = some (.int (nI k)) ∧ wMid K a yX8_since cX8_since 3 (some .int) 2 [.int x1, .int y1] k RI z1 L1 σ1) := by
  obtain ⟨hk, w, h, b, ru, pl, x, y, D, wk, h9, bk, ruk, plk, xk, yk, Dk, rk, cd, dt, tn, tx, sc, ar, hX, hY, hC, h0, hz, haz⟩ := hI
  have hB := hC.1.1
  have hn := cG_n hC.1
  have hP := cG_P hC.1
  have hw1 := hB.2.2.1
  have hw2 := hB.2.2.2.1
  have hh1 := hB.2.2.2.2.1
  have hh2 := hB.2.2.2.2.2
  have hpl := cG_60 hC.1
  have h53 := cG_153 hC.1
  have hCp := hC.1.2.2.2.2
  have hX0 := hX.1.1
  have hX1 := hX.1.2
  obtain ⟨mo, fo, so⟩ := hY.1.1
  have hF := F_since K hX.2.1.1 hX.2.1.2.2.1 hw1 hw2 hh1 hh2 hP hX0 hX1 (by omega) (x := x1) (y := y1) (z := z)
  have hM := fun (z9 : Nat) (σ9 : GS) => M_since K (z := z9) (σ0 := σ9) (sc := sc) (ar := ar) hY.2.1 hB (c := x1) (x := y1)
  refine gHM_mono (W_since K hF hX0 hX1 (o := a + 524) (fun rv z1 L1 σ1 hp => ?_) (fun E z1 L1 σ1 hp => ?_)) (fun r z1 L1 σ1 hp => ?_)
  · obtain ⟨⟨c0, h1, e1, e3⟩, e4, e5, e6⟩ := hp
    rcases e3 with ⟨_, e3⟩ | ⟨_, e3⟩
    · exact ⟨_, fo, e3, by rw [e5]; exact mo, by rw [e6]; exact so⟩
    · exact ⟨_, fo, e3, by rw [e5]; exact mo, by rw [e6]; exact so⟩
  · exact hp.2.2.imp (fun q => q.1) (fun q => q.1)
  · rcases hp with ⟨v, f, σ3, ⟨⟨c0, h1, e1, e3⟩, e4, e5, e6⟩, so2, e7, e8⟩ | ⟨E, j, ⟨e4, e5, hq⟩, hj, e7⟩
    · refine ⟨0, by omega, e7, ?_⟩
      rw [e4, e5, e8, e6]
      have e9 := (hCp.1 pl (Nat.le_refl _)).2.2.2.2.2.2.2.2 c0 h1
      rw [hisR_pl] at e9
      refine mid_s (va_up_self _ _ _) (wX_out hX) (wY_out hY) hC hz haz (hM _ _) (fun r2 z2 L2 σ9 q => ⟨q.1, q.2.1, ?_⟩)
      rcases q.2.2 with ⟨n1, n8, n9⟩ | ⟨n0, n1, n8, n9⟩ | ⟨c1, p1, n1, n2, n3, n4, n8, n9⟩
      · exact absurd (iN h1 e1) n1
      · exfalso
        rcases e3 with ⟨e2, _⟩ | ⟨e2, _⟩
        · exact n1 (iR (Nat.le_refl _) (by decide) e2)
        · exact n1 (iR (by decide) (by decide) e2)
      · have ec : c0 = c1 := ni (e1.symm.trans n3)
        subst ec
        rcases e3 with ⟨e2, e3⟩ | ⟨e2, e3⟩
        · have ep : p1 = 0 := ni (n4.symm.trans e2)
          rw [ep, if_pos rfl, e9.1] at n8
          exact ⟨_, ⟨_, n8, rfl⟩, fun _ => okv (vI e3), n9⟩
        · have ep : p1 = 1 := ni (n4.symm.trans e2)
          rw [ep, if_neg (by decide), e9.2] at n8
          exact ⟨_, ⟨_, n8, rfl⟩, fun _ => okv (vI e3), n9⟩
    · have hz1 : ∀ q, q ∈ L → q < z1 := fun q hq9 => Nat.lt_of_lt_of_le (hz q hq9) e4
      have haz1 : a + 526 ≤ z1 := Nat.le_trans haz e4
      rcases hq with hq | hq
      · obtain ⟨eE, hc, e6⟩ := hq
        have hj2 : j = 1 := by
          rcases hj with ⟨q1, q2⟩ | ⟨q1, q2⟩
          · exact q2
          · exact absurd (eE.symm.trans q1) (by decide)
        refine ⟨1, by omega, by rw [e7, hj2], ?_⟩
        rw [e5, e6]
        refine mid_s so hX hY hC hz1 haz1 (hM _ _) (fun r2 z2 L2 σ9 q => ⟨q.1, q.2.1, ?_⟩)
        rcases q.2.2 with ⟨n1, n8, n9⟩ | ⟨n0, n1, n8, n9⟩ | ⟨c1, p1, n1, n2, n3, n4, n8, n9⟩
        · exact ⟨_, ⟨_, n8, rfl⟩, fun q9 => absurd q9 (by decide), n9⟩
        · exact absurd n0 hc
        · exact absurd (iN n1 n3) hc
      · obtain ⟨eE, hc, hd, e6⟩ := hq
        have hj2 : j = 2 := by
          rcases hj with ⟨q1, q2⟩ | ⟨q1, q2⟩
          · exact absurd (eE.symm.trans q1) (by decide)
          · exact q2
        refine ⟨2, by omega, by rw [e7, hj2], ?_⟩
        rw [e5, e6]
        refine mid_s so hX hY hC hz1 haz1 (hM _ _) (fun r2 z2 L2 σ9 q => ⟨q.1, q.2.1, ?_⟩)
        rcases q.2.2 with ⟨n1, n8, n9⟩ | ⟨n0, n1, n8, n9⟩ | ⟨c1, p1, n1, n2, n3, n4, n8, n9⟩
        · exact absurd hc n1
        · exact ⟨_, ⟨_, n8, rfl⟩, fun q9 => absurd q9 (by decide), n9⟩
        · exact absurd (iR (Nat.zero_le _) n2 n4) hd

theorem C_count (K : GK) {a : Nat} {th : Int32} {z : Nat} {L : List Nat} {σ : GS} (hI : wI K a th z L σ) (x1 : Int32) : gHM K yL_count cL_count 4 (some .int) [(0, 9, 12, 13)] 8 1 7 [.ref a, .int x1, .ref (a + 524)] z L σ (fun r z1 L1 σ1 => ∃ k, k ≤ 3 ∧ r = some (.int (nI k)) ∧ wMid K a yX8_count cX8_count 2 (some .int) 4 [.int x1] k RI z1 L1 σ1) := by
  obtain ⟨hk, w, h, b, ru, pl, x, y, D, wk, h9, bk, ruk, plk, xk, yk, Dk, rk, cd, dt, tn, tx, sc, ar, hX, hY, hC, h0, hz, haz⟩ := hI
  have hB := hC.1.1
  have hn := cG_n hC.1
  have hP := cG_P hC.1
  have hw1 := hB.2.2.1
  have hw2 := hB.2.2.2.1
  have hh1 := hB.2.2.2.2.1
  have hh2 := hB.2.2.2.2.2
  have hpl := cG_60 hC.1
  have h53 := cG_153 hC.1
  have hCp := hC.1.2.2.2.2
  have hX0 := hX.1.1
  have hX1 := hX.1.2
  obtain ⟨mo, fo, so⟩ := hY.1.1
  have hF := F_count K hX.2.1.1 hX.2.1.2.2.1 hw1 hw2 hh1 hh2 hP hX0 hX1 (by omega) (x := x1) (z := z)
  simp only [hisR_pl] at hF
  have hM := fun (z9 : Nat) (σ9 : GS) => M_count K (z := z9) (σ0 := σ9) (sc := sc) (ar := ar) hY.2.1 hB (x := x1)
  refine gHM_mono (W_count K hF hX0 hX1 (o := a + 524) (fun rv z1 L1 σ1 hp => ?_) (fun E z1 L1 σ1 hp => ?_)) (fun r z1 L1 σ1 hp => ?_)
  · obtain ⟨⟨c0, h1, e1, e3⟩, e4, e5, e6⟩ := hp
    exact ⟨_, fo, e3, by rw [e5]; exact mo, by rw [e6]; exact so⟩
  · exact hp.2.2.1
  · rcases hp with ⟨v, f, σ3, ⟨⟨c0, h1, e1, e3⟩, e4, e5, e6⟩, so2, e7, e8⟩ | ⟨E, j, ⟨e4, e5, hq⟩, hj, e7⟩
    · refine ⟨0, by omega, e7, ?_⟩
      rw [e4, e5, e8, e6]
      have e9 := ct_an hCp (k := c0)
      rw [hisR_pl] at e9
      have hv := (vI e3).trans e9
      refine mid_s (va_up_self _ _ _) (wX_out hX) (wY_out hY) hC hz haz (hM _ _) (fun r2 z2 L2 σ9 q => ⟨q.1, q.2.1, ?_⟩)
      rcases q.2.2 with ⟨n1, n8, n9⟩ | ⟨c1, n1, n3, n8, n9⟩
      · exact absurd (iR (Nat.zero_le _) h1 e1) n1
      · have ec : c0 = c1 := ni (e1.symm.trans n3)
        subst ec
        exact ⟨_, ⟨_, n8, rfl⟩, fun _ => okv hv, n9⟩
    · have hz1 : ∀ q, q ∈ L → q < z1 := fun q hq9 => Nat.lt_of_lt_of_le (hz q hq9) e4
      have haz1 : a + 526 ≤ z1 := Nat.le_trans haz e4
      obtain ⟨eE, hc, e6⟩ := hq
      have hj2 : j = 1 := hj.2
      refine ⟨1, by omega, by rw [e7, hj2], ?_⟩
      rw [e5, e6]
      refine mid_s so hX hY hC hz1 haz1 (hM _ _) (fun r2 z2 L2 σ9 q => ⟨q.1, q.2.1, ?_⟩)
      rcases q.2.2 with ⟨n1, n8, n9⟩ | ⟨c1, n1, n3, n8, n9⟩
      · exact ⟨_, ⟨_, n8, rfl⟩, fun q9 => absurd q9 (by decide), n9⟩
      · exact absurd (iR (Nat.zero_le _) n1 n3) hc

theorem C_player (K : GK) {a : Nat} {th : Int32} {z : Nat} {L : List Nat} {σ : GS} (hI : wI K a th z L σ) (x1 y1 : Int32) : gHM K yL_player cL_player 5 (some .int) [(0, 10, 13, 23), (0, 10, 17, 13)] 9 1 7 [.ref a, .int x1, .int y1, .ref (a + 524)] z L σ (fun r z1 L1 σ1 => ∃ k, k ≤ 3 ∧ r = some (.int (nI k)) ∧ wMid K a yX8_player cX8_player 3 (some .int) 5 [.int x1, .int y1] k RI z1 L1 σ1) := by
  obtain ⟨hk, w, h, b, ru, pl, x, y, D, wk, h9, bk, ruk, plk, xk, yk, Dk, rk, cd, dt, tn, tx, sc, ar, hX, hY, hC, h0, hz, haz⟩ := hI
  have hB := hC.1.1
  have hn := cG_n hC.1
  have hP := cG_P hC.1
  have hw1 := hB.2.2.1
  have hw2 := hB.2.2.2.1
  have hh1 := hB.2.2.2.2.1
  have hh2 := hB.2.2.2.2.2
  have hpl := cG_60 hC.1
  have h53 := cG_153 hC.1
  have hCp := hC.1.2.2.2.2
  have hX0 := hX.1.1
  have hX1 := hX.1.2
  obtain ⟨mo, fo, so⟩ := hY.1.1
  have hF := F_player K hX.2.1.1 hX.2.1.2.2.1 hw1 hw2 hh1 hh2 hP hX0 hX1 (by omega) (x := x1) (y := y1) (z := z)
  simp only [hisR_pl] at hF
  have hM := fun (z9 : Nat) (σ9 : GS) => M_player K (z := z9) (σ0 := σ9) (sc := sc) (ar := ar) hY.2.1 hB (p := x1) (x := y1)
  refine gHM_mono (W_player K hF hX0 hX1 (o := a + 524) (fun rv z1 L1 σ1 hp => ?_) (fun E z1 L1 σ1 hp => ?_)) (fun r z1 L1 σ1 hp => ?_)
  · obtain ⟨⟨p0, c0, h1, h2, e1, e2, e3⟩, e4, e5, e6⟩ := hp
    exact ⟨_, fo, e3, by rw [e5]; exact mo, by rw [e6]; exact so⟩
  · exact hp.2.2.imp (fun q => q.1) (fun q => q.1)
  · rcases hp with ⟨v, f, σ3, ⟨⟨p0, c0, h1, h2, e1, e2, e3⟩, e4, e5, e6⟩, so2, e7, e8⟩ | ⟨E, j, ⟨e4, e5, hq⟩, hj, e7⟩
    · refine ⟨0, by omega, e7, ?_⟩
      rw [e4, e5, e8, e6]
      have e9 := py_an hCp (p := p0) (k := c0) h1
      rw [hisR_pl] at e9
      have hv := (vI e3).trans e9
      refine mid_s (va_up_self _ _ _) (wX_out hX) (wY_out hY) hC hz haz (hM _ _) (fun r2 z2 L2 σ9 q => ⟨q.1, q.2.1, ?_⟩)
      rcases q.2.2 with ⟨n1, n8, n9⟩ | ⟨n0, n1, n8, n9⟩ | ⟨p1, c1, n1, n2, n3, n4, n8, n9⟩
      · exact absurd (iR (Nat.zero_le _) h1 e1) n1
      · exact absurd (iR (Nat.zero_le _) h2 e2) n1
      · have ep : p0 = p1 := ni (e1.symm.trans n3)
        have ec : c0 = c1 := ni (e2.symm.trans n4)
        subst ep ec
        exact ⟨_, ⟨_, n8, rfl⟩, fun _ => okv hv, n9⟩
    · have hz1 : ∀ q, q ∈ L → q < z1 := fun q hq9 => Nat.lt_of_lt_of_le (hz q hq9) e4
      have haz1 : a + 526 ≤ z1 := Nat.le_trans haz e4
      rcases hq with hq | hq
      · obtain ⟨eE, hc, e6⟩ := hq
        have hj2 : j = 1 := by
          rcases hj with ⟨q1, q2⟩ | ⟨q1, q2⟩
          · exact q2
          · exact absurd (eE.symm.trans q1) (by decide)
        refine ⟨1, by omega, by rw [e7, hj2], ?_⟩
        rw [e5, e6]
        refine mid_s so hX hY hC hz1 haz1 (hM _ _) (fun r2 z2 L2 σ9 q => ⟨q.1, q.2.1, ?_⟩)
        rcases q.2.2 with ⟨n1, n8, n9⟩ | ⟨n0, n1, n8, n9⟩ | ⟨p1, c1, n1, n2, n3, n4, n8, n9⟩
        · exact ⟨_, ⟨_, n8, rfl⟩, fun q9 => absurd q9 (by decide), n9⟩
        · exact absurd n0 hc
        · exact absurd (iR (Nat.zero_le _) n1 n3) hc
      · obtain ⟨eE, hc, hd, e6⟩ := hq
        have hj2 : j = 2 := by
          rcases hj with ⟨q1, q2⟩ | ⟨q1, q2⟩
          · exact absurd (eE.symm.trans q1) (by decide)
          · exact q2
        refine ⟨2, by omega, by rw [e7, hj2], ?_⟩
        rw [e5, e6]
        refine mid_s so hX hY hC hz1 haz1 (hM _ _) (fun r2 z2 L2 σ9 q => ⟨q.1, q.2.1, ?_⟩)
        rcases q.2.2 with ⟨n1, n8, n9⟩ | ⟨n0, n1, n8, n9⟩ | ⟨p1, c1, n1, n2, n3, n4, n8, n9⟩
        · exact absurd hc n1
        · exact ⟨_, ⟨_, n8, rfl⟩, fun q9 => absurd q9 (by decide), n9⟩
        · exact absurd (iR (Nat.zero_le _) n2 n4) hd

theorem C_cells (K : GK) {a : Nat} {th : Int32} {z : Nat} {L : List Nat} {σ : GS} (hI : wI K a th z L σ) (x1 : Int32) : gHM K yL_cells cL_cells 4 (some .int) [(0, 8, 11, 13)] 8 1 7 [.ref a, .int x1, .ref (a + 524)] z L σ (fun r z1 L1 σ1 => ∃ k, k ≤ 3 ∧ r = some (.int (nI k)) ∧ wMid K a yX8_cells_ cX8_cells_ 2 (some .long) 2 [.int x1] k RJ z1 L1 σ1) := by
  obtain ⟨hk, w, h, b, ru, pl, x, y, D, wk, h9, bk, ruk, plk, xk, yk, Dk, rk, cd, dt, tn, tx, sc, ar, hX, hY, hC, h0, hz, haz⟩ := hI
  have hB := hC.1.1
  have hn := cG_n hC.1
  have hP := cG_P hC.1
  have hw1 := hB.2.2.1
  have hw2 := hB.2.2.2.1
  have hh1 := hB.2.2.2.2.1
  have hh2 := hB.2.2.2.2.2
  have hpl := cG_60 hC.1
  have h53 := cG_153 hC.1
  have hCp := hC.1.2.2.2.2
  have hX0 := hX.1.1
  have hX1 := hX.1.2
  obtain ⟨mo, fo, so⟩ := hY.1.1
  have hF := F_cells K hX.2.1.1 hX.2.1.2.2.1 hw1 hw2 hh1 hh2 hP hX0 hX1 (by omega) (x := x1) (z := z)
  simp only [hisR_pl] at hF
  have hM := fun (z9 : Nat) (σ9 : GS) => M_cellsS K (z := z9) (σ0 := σ9) (sc := sc) (ar := ar) hY.2.1 hB (x := x1)
  refine gHM_mono (W_cells K hF hX0 hX1 (o := a + 524) (fun rv z1 L1 σ1 hp => ?_) (fun E z1 L1 σ1 hp => ?_)) (fun r z1 L1 σ1 hp => ?_)
  · obtain ⟨⟨c0, h1, e1, e3⟩, e4, e5, e6⟩ := hp
    exact ⟨_, fo, e3, by rw [e5]; exact mo, by rw [e6]; exact so⟩
  · exact hp.2.2.1
  · rcases hp with ⟨v, f, σ3, ⟨⟨c0, h1, e1, e3⟩, e4, e5, e6⟩, so2, e7, e8⟩ | ⟨E, j, ⟨e4, e5, hq⟩, hj, e7⟩
    · refine ⟨0, by omega, e7, ?_⟩
      rw [e4, e5, e8, e6]
      have hv := (vL e3).trans (psS_at h1)
      refine mid_s (va_up_self _ _ _) (wX_out hX) (wY_out hY) hC hz haz (hM _ _) (fun r2 z2 L2 σ9 q => ⟨q.1, q.2.1, ?_⟩)
      rcases q.2.2 with ⟨n1, n8, n9⟩ | ⟨c1, n1, n3, n8, n9⟩
      · exact absurd (iR (Nat.zero_le _) h1 e1) n1
      · have ec : c0 = c1 := ni (e1.symm.trans n3)
        subst ec
        exact ⟨_, n8, fun _ => okL hv, n9⟩
    · have hz1 : ∀ q, q ∈ L → q < z1 := fun q hq9 => Nat.lt_of_lt_of_le (hz q hq9) e4
      have haz1 : a + 526 ≤ z1 := Nat.le_trans haz e4
      obtain ⟨eE, hc, e6⟩ := hq
      have hj2 : j = 1 := hj.2
      refine ⟨1, by omega, by rw [e7, hj2], ?_⟩
      rw [e5, e6]
      refine mid_s so hX hY hC hz1 haz1 (hM _ _) (fun r2 z2 L2 σ9 q => ⟨q.1, q.2.1, ?_⟩)
      rcases q.2.2 with ⟨n1, n8, n9⟩ | ⟨c1, n1, n3, n8, n9⟩
      · exact ⟨_, n8, fun q9 => absurd q9 (by decide), n9⟩
      · exact absurd (iR (Nat.zero_le _) n1 n3) hc

theorem C_region (K : GK) {a : Nat} {th : Int32} {z : Nat} {L : List Nat} {σ : GS} (hI : wI K a th z L σ) (x1 y1 : Int32) : gHM K yL_region cL_region 5 (some .int) [(0, 9, 12, 23), (0, 9, 16, 52)] 8 1 7 [.ref a, .int x1, .int y1, .ref (a + 524)] z L σ (fun r z1 L1 σ1 => ∃ k, k ≤ 3 ∧ r = some (.int (nI k)) ∧ wMid K a yX8_region cX8_region 3 (some .long) 5 [.int x1, .int y1] k RJ z1 L1 σ1) := by
  obtain ⟨hk, w, h, b, ru, pl, x, y, D, wk, h9, bk, ruk, plk, xk, yk, Dk, rk, cd, dt, tn, tx, sc, ar, hX, hY, hC, h0, hz, haz⟩ := hI
  have hB := hC.1.1
  have hn := cG_n hC.1
  have hP := cG_P hC.1
  have hw1 := hB.2.2.1
  have hw2 := hB.2.2.2.1
  have hh1 := hB.2.2.2.2.1
  have hh2 := hB.2.2.2.2.2
  have hpl := cG_60 hC.1
  have h53 := cG_153 hC.1
  have hCp := hC.1.2.2.2.2
  have hX0 := hX.1.1
  have hX1 := hX.1.2
  obtain ⟨mo, fo, so⟩ := hY.1.1
  have hF := F_region K hX.2.1.1 hX.2.1.2.2.1 hw1 hw2 hh1 hh2 hP hX0 hX1 (by omega) (x := x1) (y := y1) (z := z)
  simp only [hisR_pl] at hF
  have hM := fun (z9 : Nat) (σ9 : GS) => M_region K (z := z9) (σ0 := σ9) (sc := sc) (ar := ar) hY.2.1 hB (p := x1) (c := y1)
  refine gHM_mono (W_region K hF hX0 hX1 (o := a + 524) (fun rv z1 L1 σ1 hp => ?_) (fun E z1 L1 σ1 hp => ?_)) (fun r z1 L1 σ1 hp => ?_)
  · obtain ⟨⟨p0, c0, h1, h2, e1, e2, e9, e3⟩, e4, e5, e6⟩ := hp
    exact ⟨_, fo, e3, by rw [e5]; exact mo, by rw [e6]; exact so⟩
  · exact hp.2.2.imp (fun q => q.1) (fun q => q.1)
  · rcases hp with ⟨v, f, σ3, ⟨⟨p0, c0, h1, h2, e1, e2, e9, e3⟩, e4, e5, e6⟩, so2, e7, e8⟩ | ⟨E, j, ⟨e4, e5, hq⟩, hj, e7⟩
    · refine ⟨0, by omega, e7, ?_⟩
      rw [e4, e5, e8, e6]
      have hv := vL e3
      refine mid_s (va_up_self _ _ _) (wX_out hX) (wY_out hY) hC hz haz (hM _ _) (fun r2 z2 L2 σ9 q => ⟨q.1, q.2.1, ?_⟩)
      rcases q.2.2 with ⟨n1, n8, n9⟩ | ⟨p1, c1, n1, n2, n3, n4, n5, n8, n9⟩ | ⟨p1, c1, n1, n2, n3, n4, n5, n8, n9⟩
      · exact absurd ⟨iR (Nat.zero_le _) h1 e1, iN h2 e2⟩ n1
      · have ep : p0 = p1 := ni (e1.symm.trans n3)
        have ec : c0 = c1 := ni (e2.symm.trans n4)
        subst ep ec
        exact absurd (e9.symm.trans n5) (by decide)
      · have ep : p0 = p1 := ni (e1.symm.trans n3)
        have ec : c0 = c1 := ni (e2.symm.trans n4)
        subst ep ec
        exact ⟨_, n8, fun _ => okL hv, n9⟩
    · have hz1 : ∀ q, q ∈ L → q < z1 := fun q hq9 => Nat.lt_of_lt_of_le (hz q hq9) e4
      have haz1 : a + 526 ≤ z1 := Nat.le_trans haz e4
      rcases hq with hq | hq
      · obtain ⟨eE, hc, e6⟩ := hq
        have hj2 : j = 1 := by
          rcases hj with ⟨q1, q2⟩ | ⟨q1, q2⟩
          · exact q2
          · exact absurd (eE.symm.trans q1) (by decide)
        refine ⟨1, by omega, by rw [e7, hj2], ?_⟩
        rw [e5, e6]
        refine mid_s so hX hY hC hz1 haz1 (hM _ _) (fun r2 z2 L2 σ9 q => ⟨q.1, q.2.1, ?_⟩)
        rcases q.2.2 with ⟨n1, n8, n9⟩ | ⟨p1, c1, n1, n2, n3, n4, n5, n8, n9⟩ | ⟨p1, c1, n1, n2, n3, n4, n5, n8, n9⟩
        · exact ⟨_, n8, fun q9 => absurd q9 (by decide), n9⟩
        · exact absurd ⟨iR (Nat.zero_le _) n1 n3, iN n2 n4⟩ hc
        · exact absurd ⟨iR (Nat.zero_le _) n1 n3, iN n2 n4⟩ hc
      · obtain ⟨eE, ⟨p0, c0, h1, h2, e1, e2, e9⟩, e6⟩ := hq
        have hj2 : j = 2 := by
          rcases hj with ⟨q1, q2⟩ | ⟨q1, q2⟩
          · exact absurd (eE.symm.trans q1) (by decide)
          · exact q2
        refine ⟨2, by omega, by rw [e7, hj2], ?_⟩
        rw [e5, e6]
        refine mid_s so hX hY hC hz1 haz1 (hM _ _) (fun r2 z2 L2 σ9 q => ⟨q.1, q.2.1, ?_⟩)
        rcases q.2.2 with ⟨n1, n8, n9⟩ | ⟨p1, c1, n1, n2, n3, n4, n5, n8, n9⟩ | ⟨p1, c1, n1, n2, n3, n4, n5, n8, n9⟩
        · exact absurd ⟨iR (Nat.zero_le _) h1 e1, iN h2 e2⟩ n1
        · exact ⟨_, n8, fun q9 => absurd q9 (by decide), n9⟩
        · have ep : p0 = p1 := ni (e1.symm.trans n3)
          have ec : c0 = c1 := ni (e2.symm.trans n4)
          subst ep ec
          exact absurd (e9.symm.trans n5) (by decide)

theorem C_chain (K : GK) {a : Nat} {th : Int32} {z : Nat} {L : List Nat} {σ : GS} (hI : wI K a th z L σ) (x1 : Int32) : gHM K yL_chain cL_chain 4 (some .int) [(0, 8, 11, 23), (0, 8, 14, 52)] 8 1 7 [.ref a, .int x1, .ref (a + 524)] z L σ (fun r z1 L1 σ1 => ∃ k, k ≤ 3 ∧ r = some (.int (nI k)) ∧ wMid K a yX8_chain cX8_chain 2 (some .long) 4 [.int x1] k RJ z1 L1 σ1) := by
  obtain ⟨hk, w, h, b, ru, pl, x, y, D, wk, h9, bk, ruk, plk, xk, yk, Dk, rk, cd, dt, tn, tx, sc, ar, hX, hY, hC, h0, hz, haz⟩ := hI
  have hB := hC.1.1
  have hn := cG_n hC.1
  have hP := cG_P hC.1
  have hw1 := hB.2.2.1
  have hw2 := hB.2.2.2.1
  have hh1 := hB.2.2.2.2.1
  have hh2 := hB.2.2.2.2.2
  have hpl := cG_60 hC.1
  have h53 := cG_153 hC.1
  have hCp := hC.1.2.2.2.2
  have hX0 := hX.1.1
  have hX1 := hX.1.2
  obtain ⟨mo, fo, so⟩ := hY.1.1
  have hF := F_chain K hX.2.1.1 hX.2.1.2.2.1 hw1 hw2 hh1 hh2 hP hX0 hX1 (by omega) (cG_st hC.1) (x := x1) (z := z)
  simp only [hisR_pl] at hF
  have hM := fun (z9 : Nat) (σ9 : GS) => M_chain K (z := z9) (σ0 := σ9) (sc := sc) (ar := ar) hY.2.1 hB (c := x1)
  refine gHM_mono (W_chain K hF hX0 hX1 (o := a + 524) (fun rv z1 L1 σ1 hp => ?_) (fun E z1 L1 σ1 hp => ?_)) (fun r z1 L1 σ1 hp => ?_)
  · obtain ⟨⟨c0, h1, e1, e9, e3⟩, e4, e5, e6⟩ := hp
    exact ⟨_, fo, e3, by rw [e5]; exact mo, by rw [e6]; exact so⟩
  · exact hp.2.2.imp (fun q => q.1) (fun q => q.1)
  · rcases hp with ⟨v, f, σ3, ⟨⟨c0, h1, e1, e9, e3⟩, e4, e5, e6⟩, so2, e7, e8⟩ | ⟨E, j, ⟨e4, e5, hq⟩, hj, e7⟩
    · refine ⟨0, by omega, e7, ?_⟩
      rw [e4, e5, e8, e6]
      have hv := vL e3
      refine mid_s (va_up_self _ _ _) (wX_out hX) (wY_out hY) hC hz haz (hM _ _) (fun r2 z2 L2 σ9 q => ⟨q.1, q.2.1, ?_⟩)
      rcases q.2.2 with ⟨n1, n8, n9⟩ | ⟨c1, n1, n3, n4, n5, n8, n9⟩ | ⟨c1, n1, n3, n4, n8, n9⟩
      · exact absurd (iN h1 e1) n1
      · have ec : c0 = c1 := ni (e1.symm.trans n3)
        subst ec
        exact absurd e9 (fun q => q.elim n4 n5)
      · have ec : c0 = c1 := ni (e1.symm.trans n3)
        subst ec
        exact ⟨_, n8, fun _ => okL hv, n9⟩
    · have hz1 : ∀ q, q ∈ L → q < z1 := fun q hq9 => Nat.lt_of_lt_of_le (hz q hq9) e4
      have haz1 : a + 526 ≤ z1 := Nat.le_trans haz e4
      rcases hq with hq | hq
      · obtain ⟨eE, hc, e6⟩ := hq
        have hj2 : j = 1 := by
          rcases hj with ⟨q1, q2⟩ | ⟨q1, q2⟩
          · exact q2
          · exact absurd (eE.symm.trans q1) (by decide)
        refine ⟨1, by omega, by rw [e7, hj2], ?_⟩
        rw [e5, e6]
        refine mid_s so hX hY hC hz1 haz1 (hM _ _) (fun r2 z2 L2 σ9 q => ⟨q.1, q.2.1, ?_⟩)
        rcases q.2.2 with ⟨n1, n8, n9⟩ | ⟨c1, n1, n3, n4, n5, n8, n9⟩ | ⟨c1, n1, n3, n4, n8, n9⟩
        · exact ⟨_, n8, fun q9 => absurd q9 (by decide), n9⟩
        · exact absurd (iN n1 n3) hc
        · exact absurd (iN n1 n3) hc
      · obtain ⟨eE, ⟨c0, h1, e1, e9, e10⟩, e6⟩ := hq
        have hj2 : j = 2 := by
          rcases hj with ⟨q1, q2⟩ | ⟨q1, q2⟩
          · exact absurd (eE.symm.trans q1) (by decide)
          · exact q2
        refine ⟨2, by omega, by rw [e7, hj2], ?_⟩
        rw [e5, e6]
        refine mid_s so hX hY hC hz1 haz1 (hM _ _) (fun r2 z2 L2 σ9 q => ⟨q.1, q.2.1, ?_⟩)
        rcases q.2.2 with ⟨n1, n8, n9⟩ | ⟨c1, n1, n3, n4, n5, n8, n9⟩ | ⟨c1, n1, n3, n4, n8, n9⟩
        · exact absurd (iN h1 e1) n1
        · exact ⟨_, n8, fun q9 => absurd q9 (by decide), n9⟩
        · have ec : c0 = c1 := ni (e1.symm.trans n3)
          subst ec
          exact absurd n4 (fun q => q.elim e9 e10)

theorem C_stonesToEnclose (K : GK) {a : Nat} {th : Int32} {z : Nat} {L : List Nat} {σ : GS} (hI : wI K a th z L σ) (x1 y1 : Int32) : gHM K yL_stonesToEnclose cL_stonesToEnclose 5 (some .int) [(0, 10, 13, 23), (0, 10, 17, 52)] 8 1 7 [.ref a, .int x1, .int y1, .ref (a + 524)] z L σ (fun r z1 L1 σ1 => ∃ k, k ≤ 3 ∧ r = some (.int (nI k)) ∧ wMid K a yX8_stonesToEnclose cX8_stonesToEnclose 10 (some .int) 6 [.int x1, .int y1] k RI z1 L1 σ1) := by
  obtain ⟨hk, w, h, b, ru, pl, x, y, D, wk, h9, bk, ruk, plk, xk, yk, Dk, rk, cd, dt, tn, tx, sc, ar, hX, hY, hC, h0, hz, haz⟩ := hI
  have hB := hC.1.1
  have hn := cG_n hC.1
  have hP := cG_P hC.1
  have hw1 := hB.2.2.1
  have hw2 := hB.2.2.2.1
  have hh1 := hB.2.2.2.2.1
  have hh2 := hB.2.2.2.2.2
  have hpl := cG_60 hC.1
  have h53 := cG_153 hC.1
  have hCp := hC.1.2.2.2.2
  have hX0 := hX.1.1
  have hX1 := hX.1.2
  obtain ⟨mo, fo, so⟩ := hY.1.1
  have hF := F_stones K hX.2.1.1 hX.2.1.2.2.1 hw1 hw2 hh1 hh2 hP hX0 hX1 (by omega) (x := x1) (y := y1) (z := z)
  simp only [hisR_pl] at hF
  have hM := fun (z9 : Nat) (σ9 : GS) => M_stonesToEnclose K (z := z9) (σ0 := σ9) (sc := sc) (ar := ar) hY.2.1 hB (p := x1) (c := y1)
  refine gHM_mono (W_stonesToEnclose K hF hX0 hX1 (o := a + 524) (fun rv z1 L1 σ1 hp => ?_) (fun E z1 L1 σ1 hp => ?_)) (fun r z1 L1 σ1 hp => ?_)
  · obtain ⟨⟨p0, c0, h1, h2, e1, e2, e9, e10, e3⟩, e4, e5, e6⟩ := hp
    exact ⟨_, fo, e3, by rw [e5]; exact mo, by rw [e6]; exact so⟩
  · rcases hp.2.2 with q | q | q
    · exact Or.inl q.1
    · exact Or.inr q.1
    · exact Or.inr q.1
  · rcases hp with ⟨v, f, σ3, ⟨⟨p0, c0, h1, h2, e1, e2, e9, e10, e3⟩, e4, e5, e6⟩, so2, e7, e8⟩ | ⟨E, j, ⟨e4, e5, hq⟩, hj, e7⟩
    · refine ⟨0, by omega, e7, ?_⟩
      rw [e4, e5, e8, e6]
      have hv := vI e3
      rw [psS_at (show 0 ≤ 5 by decide)] at hv e10
      refine mid_s (va_up_self _ _ _) (wX_out hX) (wY_out hY) hC hz haz (hM _ _) (fun r2 z2 L2 σ9 q => ⟨q.1, q.2.1, ?_⟩)
      rcases q.2.2 with ⟨n1, n8, n9⟩ | ⟨p1, c1, n1, n2, n3, n4, n5, n8, n9⟩ | ⟨p1, c1, n1, n2, n3, n4, n5, n6, n8, n9⟩ | ⟨p1, c1, n1, n2, n3, n4, n5, n6, n7, n8, n9⟩ | ⟨p1, c1, n1, n2, n3, n4, n5, n6, n7, n10, n8, n9⟩ | ⟨p1, c1, n1, n2, n3, n4, n5, n6, n7, n10, n8, n9⟩
      · exact absurd ⟨iR (Nat.zero_le _) h1 e1, iN h2 e2⟩ n1
      · have ep : p0 = p1 := ni (e1.symm.trans n3)
        have ec : c0 = c1 := ni (e2.symm.trans n4)
        subst ep ec
        exact absurd (e9.symm.trans n5) (by decide)
      · have ep : p0 = p1 := ni (e1.symm.trans n3)
        have ec : c0 = c1 := ni (e2.symm.trans n4)
        subst ep ec
        rw [ifP_t n6] at hv
        exact ⟨_, ⟨_, n8, rfl⟩, fun _ => okv hv, n9⟩
      · have ep : p0 = p1 := ni (e1.symm.trans n3)
        have ec : c0 = c1 := ni (e2.symm.trans n4)
        subst ep ec
        rw [ifP_f n6, ifP_t n7] at hv
        exact ⟨_, ⟨_, n8, rfl⟩, fun _ => okv hv, n9⟩
      · have ep : p0 = p1 := ni (e1.symm.trans n3)
        have ec : c0 = c1 := ni (e2.symm.trans n4)
        subst ep ec
        rw [ifP_f n6, ifP_f n7, ifP_t n10] at hv
        exact ⟨_, ⟨_, n8, rfl⟩, fun _ => okv hv, n9⟩
      · have ep : p0 = p1 := ni (e1.symm.trans n3)
        have ec : c0 = c1 := ni (e2.symm.trans n4)
        subst ep ec
        rw [ifP_f n6, ifP_f n7, ifP_f n10] at e10
        exact absurd e10 (by decide)
    · have hz1 : ∀ q, q ∈ L → q < z1 := fun q hq9 => Nat.lt_of_lt_of_le (hz q hq9) e4
      have haz1 : a + 526 ≤ z1 := Nat.le_trans haz e4
      rcases hq with hq | hq | hq
      · obtain ⟨eE, hc, e6⟩ := hq
        have hj2 : j = 1 := by
          rcases hj with ⟨q1, q2⟩ | ⟨q1, q2⟩
          · exact q2
          · exact absurd (eE.symm.trans q1) (by decide)
        refine ⟨1, by omega, by rw [e7, hj2], ?_⟩
        rw [e5, e6]
        refine mid_s so hX hY hC hz1 haz1 (hM _ _) (fun r2 z2 L2 σ9 q => ⟨q.1, q.2.1, ?_⟩)
        rcases q.2.2 with ⟨n1, n8, n9⟩ | ⟨p1, c1, n1, n2, n3, n4, n5, n8, n9⟩ | ⟨p1, c1, n1, n2, n3, n4, n5, n6, n8, n9⟩ | ⟨p1, c1, n1, n2, n3, n4, n5, n6, n7, n8, n9⟩ | ⟨p1, c1, n1, n2, n3, n4, n5, n6, n7, n10, n8, n9⟩ | ⟨p1, c1, n1, n2, n3, n4, n5, n6, n7, n10, n8, n9⟩
        · exact ⟨_, ⟨_, n8, rfl⟩, fun q9 => absurd q9 (by decide), n9⟩
        · exact absurd ⟨iR (Nat.zero_le _) n1 n3, iN n2 n4⟩ hc
        · exact absurd ⟨iR (Nat.zero_le _) n1 n3, iN n2 n4⟩ hc
        · exact absurd ⟨iR (Nat.zero_le _) n1 n3, iN n2 n4⟩ hc
        · exact absurd ⟨iR (Nat.zero_le _) n1 n3, iN n2 n4⟩ hc
        · exact absurd ⟨iR (Nat.zero_le _) n1 n3, iN n2 n4⟩ hc
      · obtain ⟨eE, ⟨p0, c0, h1, h2, e1, e2, e9⟩, e6⟩ := hq
        have hj2 : j = 2 := by
          rcases hj with ⟨q1, q2⟩ | ⟨q1, q2⟩
          · exact absurd (eE.symm.trans q1) (by decide)
          · exact q2
        refine ⟨2, by omega, by rw [e7, hj2], ?_⟩
        rw [e5, e6]
        refine mid_s so hX hY hC hz1 haz1 (hM _ _) (fun r2 z2 L2 σ9 q => ⟨q.1, q.2.1, ?_⟩)
        rcases q.2.2 with ⟨n1, n8, n9⟩ | ⟨p1, c1, n1, n2, n3, n4, n5, n8, n9⟩ | ⟨p1, c1, n1, n2, n3, n4, n5, n6, n8, n9⟩ | ⟨p1, c1, n1, n2, n3, n4, n5, n6, n7, n8, n9⟩ | ⟨p1, c1, n1, n2, n3, n4, n5, n6, n7, n10, n8, n9⟩ | ⟨p1, c1, n1, n2, n3, n4, n5, n6, n7, n10, n8, n9⟩
        · exact absurd ⟨iR (Nat.zero_le _) h1 e1, iN h2 e2⟩ n1
        · exact ⟨_, ⟨_, n8, rfl⟩, fun q9 => absurd q9 (by decide), n9⟩
        · have ep : p0 = p1 := ni (e1.symm.trans n3)
          have ec : c0 = c1 := ni (e2.symm.trans n4)
          subst ep ec
          exact absurd (e9.symm.trans n5) (by decide)
        · have ep : p0 = p1 := ni (e1.symm.trans n3)
          have ec : c0 = c1 := ni (e2.symm.trans n4)
          subst ep ec
          exact absurd (e9.symm.trans n5) (by decide)
        · have ep : p0 = p1 := ni (e1.symm.trans n3)
          have ec : c0 = c1 := ni (e2.symm.trans n4)
          subst ep ec
          exact absurd (e9.symm.trans n5) (by decide)
        · exact ⟨_, ⟨_, n8, rfl⟩, fun q9 => absurd q9 (by decide), n9⟩
      · obtain ⟨eE, ⟨p0, c0, h1, h2, e1, e2, e9, e10⟩, e6⟩ := hq
        have hj2 : j = 2 := by
          rcases hj with ⟨q1, q2⟩ | ⟨q1, q2⟩
          · exact absurd (eE.symm.trans q1) (by decide)
          · exact q2
        refine ⟨2, by omega, by rw [e7, hj2], ?_⟩
        rw [e5, e6]
        rw [psS_at (show 0 ≤ 5 by decide)] at e10
        refine mid_s so hX hY hC hz1 haz1 (hM _ _) (fun r2 z2 L2 σ9 q => ⟨q.1, q.2.1, ?_⟩)
        rcases q.2.2 with ⟨n1, n8, n9⟩ | ⟨p1, c1, n1, n2, n3, n4, n5, n8, n9⟩ | ⟨p1, c1, n1, n2, n3, n4, n5, n6, n8, n9⟩ | ⟨p1, c1, n1, n2, n3, n4, n5, n6, n7, n8, n9⟩ | ⟨p1, c1, n1, n2, n3, n4, n5, n6, n7, n10, n8, n9⟩ | ⟨p1, c1, n1, n2, n3, n4, n5, n6, n7, n10, n8, n9⟩
        · exact absurd ⟨iR (Nat.zero_le _) h1 e1, iN h2 e2⟩ n1
        · exact ⟨_, ⟨_, n8, rfl⟩, fun q9 => absurd q9 (by decide), n9⟩
        · have ep : p0 = p1 := ni (e1.symm.trans n3)
          have ec : c0 = c1 := ni (e2.symm.trans n4)
          subst ep ec
          rw [ifP_t n6] at e10
          exact absurd (by decide) e10
        · have ep : p0 = p1 := ni (e1.symm.trans n3)
          have ec : c0 = c1 := ni (e2.symm.trans n4)
          subst ep ec
          rw [ifP_f n6, ifP_t n7] at e10
          exact absurd (by decide) e10
        · have ep : p0 = p1 := ni (e1.symm.trans n3)
          have ec : c0 = c1 := ni (e2.symm.trans n4)
          subst ep ec
          rw [ifP_f n6, ifP_f n7, ifP_t n10] at e10
          exact absurd (by decide) e10
        · exact ⟨_, ⟨_, n8, rfl⟩, fun q9 => absurd q9 (by decide), n9⟩

theorem C_round (K : GK) {a : Nat} {th : Int32} {z : Nat} {L : List Nat} {σ : GS} (hI : wI K a th z L σ) (x1 y1 : Int32) : gHM K yL_round cL_round 5 (some .int) [(0, 10, 13, 23), (0, 10, 17, 13)] 8 1 7 [.ref a, .int x1, .int y1, .ref (a + 524)] z L σ (fun r z1 L1 σ1 => ∃ k, k ≤ 3 ∧ r = some (.int (nI k)) ∧ wMid K a yX8_round cX8_round 3 (some .int) 1 [.int x1, .int y1] k RI z1 L1 σ1) := by
  obtain ⟨hk, w, h, b, ru, pl, x, y, D, wk, h9, bk, ruk, plk, xk, yk, Dk, rk, cd, dt, tn, tx, sc, ar, hX, hY, hC, h0, hz, haz⟩ := hI
  have hB := hC.1.1
  have hn := cG_n hC.1
  have hP := cG_P hC.1
  have hw1 := hB.2.2.1
  have hw2 := hB.2.2.2.1
  have hh1 := hB.2.2.2.2.1
  have hh2 := hB.2.2.2.2.2
  have hpl := cG_60 hC.1
  have h53 := cG_153 hC.1
  have hCp := hC.1.2.2.2.2
  have hX0 := hX.1.1
  have hX1 := hX.1.2
  obtain ⟨mo, fo, so⟩ := hY.1.1
  have hF := F_round K hX.2.1.1 hX.2.1.2.2.1 hw1 hw2 hh1 hh2 hP hX0 hX1 (by omega) (x := x1) (y := y1) (z := z)
  have hM := fun (z9 : Nat) (σ9 : GS) => M_round K (z := z9) (σ0 := σ9) (sc := sc) (ar := ar) hY.2.1 hB (p := x1) (x := y1) h53 hpl
  refine gHM_mono (W_round K hF hX0 hX1 (o := a + 524) (fun rv z1 L1 σ1 hp => ?_) (fun E z1 L1 σ1 hp => ?_)) (fun r z1 L1 σ1 hp => ?_)
  · obtain ⟨⟨p0, c0, h1, h2, e1, e2, e3⟩, e4, e5, e6⟩ := hp
    exact ⟨_, fo, e3, by rw [e5]; exact mo, by rw [e6]; exact so⟩
  · exact hp.2.2.imp (fun q => q.1) (fun q => q.1)
  · rcases hp with ⟨v, f, σ3, ⟨⟨p0, c0, h1, h2, e1, e2, e3⟩, e4, e5, e6⟩, so2, e7, e8⟩ | ⟨E, j, ⟨e4, e5, hq⟩, hj, e7⟩
    · refine ⟨0, by omega, e7, ?_⟩
      rw [e4, e5, e8, e6]
      have hv := (vI e3).trans (rd_an hCp.2.2.2.1 h1 h2)
      refine mid_s (va_up_self _ _ _) (wX_out hX) (wY_out hY) hC hz haz (hM _ _) (fun r2 z2 L2 σ9 q => ⟨q.1, q.2.1, ?_⟩)
      rcases q.2.2 with ⟨n1, n8, n9⟩ | ⟨n0, n1, n8, n9⟩ | ⟨p1, c1, n1, n2, n3, n4, n8, n9⟩
      · exact absurd (iN h1 e1) n1
      · exact absurd (iR (Nat.zero_le _) h2 e2) n1
      · have ep : p0 = p1 := ni (e1.symm.trans n3)
        have ec : c0 = c1 := ni (e2.symm.trans n4)
        subst ep ec
        exact ⟨_, ⟨_, n8, rfl⟩, fun _ => okv hv, n9⟩
    · have hz1 : ∀ q, q ∈ L → q < z1 := fun q hq9 => Nat.lt_of_lt_of_le (hz q hq9) e4
      have haz1 : a + 526 ≤ z1 := Nat.le_trans haz e4
      rcases hq with hq | hq
      · obtain ⟨eE, hc, e6⟩ := hq
        have hj2 : j = 1 := by
          rcases hj with ⟨q1, q2⟩ | ⟨q1, q2⟩
          · exact q2
          · exact absurd (eE.symm.trans q1) (by decide)
        refine ⟨1, by omega, by rw [e7, hj2], ?_⟩
        rw [e5, e6]
        refine mid_s so hX hY hC hz1 haz1 (hM _ _) (fun r2 z2 L2 σ9 q => ⟨q.1, q.2.1, ?_⟩)
        rcases q.2.2 with ⟨n1, n8, n9⟩ | ⟨n0, n1, n8, n9⟩ | ⟨p1, c1, n1, n2, n3, n4, n8, n9⟩
        · exact ⟨_, ⟨_, n8, rfl⟩, fun q9 => absurd q9 (by decide), n9⟩
        · exact absurd n0 hc
        · exact absurd (iN n1 n3) hc
      · obtain ⟨eE, hc, hd, e6⟩ := hq
        have hj2 : j = 2 := by
          rcases hj with ⟨q1, q2⟩ | ⟨q1, q2⟩
          · exact absurd (eE.symm.trans q1) (by decide)
          · exact q2
        refine ⟨2, by omega, by rw [e7, hj2], ?_⟩
        rw [e5, e6]
        refine mid_s so hX hY hC hz1 haz1 (hM _ _) (fun r2 z2 L2 σ9 q => ⟨q.1, q.2.1, ?_⟩)
        rcases q.2.2 with ⟨n1, n8, n9⟩ | ⟨n0, n1, n8, n9⟩ | ⟨p1, c1, n1, n2, n3, n4, n8, n9⟩
        · exact absurd hc n1
        · exact ⟨_, ⟨_, n8, rfl⟩, fun q9 => absurd q9 (by decide), n9⟩
        · exact absurd (iR (Nat.zero_le _) n2 n4) hd

theorem C_turningPoint (K : GK) {a : Nat} {th : Int32} {z : Nat} {L : List Nat} {σ : GS} (hI : wI K a th z L σ) : gHM K yL_turningPoint cL_turningPoint 3 (some .int) [(0, 8, 11, 52)] 8 1 7 [.ref a, .ref (a + 524)] z L σ (fun r z1 L1 σ1 => ∃ k, k ≤ 3 ∧ r = some (.int (nI k)) ∧ wMid K a yX8_turningPoint cX8_turningPoint 7 (some .int) 0 [] k RI z1 L1 σ1) := by
  obtain ⟨hk, w, h, b, ru, pl, x, y, D, wk, h9, bk, ruk, plk, xk, yk, Dk, rk, cd, dt, tn, tx, sc, ar, hX, hY, hC, h0, hz, haz⟩ := hI
  have hB := hC.1.1
  have hn := cG_n hC.1
  have hP := cG_P hC.1
  have hw1 := hB.2.2.1
  have hw2 := hB.2.2.2.1
  have hh1 := hB.2.2.2.2.1
  have hh2 := hB.2.2.2.2.2
  have hpl := cG_60 hC.1
  have h53 := cG_153 hC.1
  have hCp := hC.1.2.2.2.2
  have hX0 := hX.1.1
  have hX1 := hX.1.2
  obtain ⟨mo, fo, so⟩ := hY.1.1
  have hF := F_turning K hX.2.1.1 hX.2.1.2.2.1 hw1 hw2 hh1 hh2 hP hX0 hX1 (by omega) (hinf_an hCp.2.2.2.1) (tp_an hC.1.2.2.2.1 hCp.2.2.2.1) (z := z)
  have hM := fun (z9 : Nat) (σ9 : GS) => M_turningPoint K (z := z9) (σ0 := σ9) (sc := sc) (ar := ar) hY.2.1 hB h53 hpl
  refine gHM_mono (W_turningPoint K hF hX0 hX1 (o := a + 524) (fun rv z1 L1 σ1 hp => ?_) (fun E z1 L1 σ1 hp => ?_)) (fun r z1 L1 σ1 hp => ?_)
  · obtain ⟨⟨h1, e3⟩, e4, e5, e6⟩ := hp
    exact ⟨_, fo, e3, by rw [e5]; exact mo, by rw [e6]; exact so⟩
  · exact hp.2.2.1
  · rcases hp with ⟨v, f, σ3, ⟨⟨h1, e3⟩, e4, e5, e6⟩, so2, e7, e8⟩ | ⟨E, j, ⟨e4, e5, hq⟩, hj, e7⟩
    · refine ⟨0, by omega, e7, ?_⟩
      rw [e4, e5, e8, e6]
      have hv := vI e3
      refine mid_s (va_up_self _ _ _) (wX_out hX) (wY_out hY) hC hz haz (hM _ _) (fun r2 z2 L2 σ9 q => ⟨q.1, q.2.1, ?_⟩)
      rcases q.2.2 with ⟨n1, n8, n9⟩ | ⟨n1, n8, n9⟩
      · exact absurd n1 h1
      · rw [hCp.2.2.2.2.2.1, hCp.2.2.2.2.2.2] at n8
        exact ⟨_, ⟨_, n8, rfl⟩, fun _ => okv hv, n9⟩
    · have hz1 : ∀ q, q ∈ L → q < z1 := fun q hq9 => Nat.lt_of_lt_of_le (hz q hq9) e4
      have haz1 : a + 526 ≤ z1 := Nat.le_trans haz e4
      obtain ⟨eE, hc, e6⟩ := hq
      have hj2 : j = 1 := hj.2
      refine ⟨1, by omega, by rw [e7, hj2], ?_⟩
      rw [e5, e6]
      refine mid_s so hX hY hC hz1 haz1 (hM _ _) (fun r2 z2 L2 σ9 q => ⟨q.1, q.2.1, ?_⟩)
      rcases q.2.2 with ⟨n1, n8, n9⟩ | ⟨n1, n8, n9⟩
      · exact ⟨_, ⟨_, n8, rfl⟩, fun q9 => absurd q9 (by decide), n9⟩
      · exact absurd hc n1

theorem C_report (K : GK) {a : Nat} {th : Int32} {z : Nat} {L : List Nat} {σ : GS} (hI : wI K a th z L σ) (x1 y1 : Int32) : gHM K yL_report cL_report 5 (some .int) [(0, 10, 13, 52), (0, 10, 17, 13)] 8 1 7 [.ref a, .int x1, .int y1, .ref (a + 524)] z L σ (fun r z1 L1 σ1 => ∃ k, k ≤ 3 ∧ r = some (.int (nI k)) ∧ wMid K a yX8_report cX8_report 3 (some .int) 1 [.int x1, .int y1] k RI z1 L1 σ1) := by
  obtain ⟨hk, w, h, b, ru, pl, x, y, D, wk, h9, bk, ruk, plk, xk, yk, Dk, rk, cd, dt, tn, tx, sc, ar, hX, hY, hC, h0, hz, haz⟩ := hI
  have hB := hC.1.1
  have hn := cG_n hC.1
  have hP := cG_P hC.1
  have hw1 := hB.2.2.1
  have hw2 := hB.2.2.2.1
  have hh1 := hB.2.2.2.2.1
  have hh2 := hB.2.2.2.2.2
  have hpl := cG_60 hC.1
  have h53 := cG_153 hC.1
  have hCp := hC.1.2.2.2.2
  have hX0 := hX.1.1
  have hX1 := hX.1.2
  obtain ⟨mo, fo, so⟩ := hY.1.1
  have hF := F_report K hX.2.1.1 hX.2.1.2.2.1 hw1 hw2 hh1 hh2 hP hX0 hX1 (by omega) hX.2.2.2.1.1.1 hX.2.2.2.1.1.2.1 hX.2.2.2.1.1.2.2 hX.2.2.2.1.2.1 hX.2.2.2.1.2.2.1 hX.2.2.2.1.2.2.2 hC.2.2.1.2.1 (x := x1) (y := y1) (z := z)
  have hM := fun (z9 : Nat) (σ9 : GS) => M_report K (z := z9) (σ0 := σ9) (sc := sc) (ar := ar) hY.2.1 hB (p := x1) (x := y1) hC.2.2.1.1 hC.2.2.1.2.1
  refine gHM_mono (W_report K hF hX0 hX1 (o := a + 524) (fun rv z1 L1 σ1 hp => ?_) (fun E z1 L1 σ1 hp => ?_)) (fun r z1 L1 σ1 hp => ?_)
  · obtain ⟨⟨c0, h1, e1, e3⟩, e4, e5, e6⟩ := hp
    rcases e3 with ⟨_, e3⟩ | ⟨_, e3⟩
    · exact ⟨_, fo, e3, by rw [e5]; exact mo, by rw [e6]; exact so⟩
    · exact ⟨_, fo, e3, by rw [e5]; exact mo, by rw [e6]; exact so⟩
  · exact hp.2.2.imp (fun q => q.1) (fun q => q.1)
  · rcases hp with ⟨v, f, σ3, ⟨⟨c0, h1, e1, e3⟩, e4, e5, e6⟩, so2, e7, e8⟩ | ⟨E, j, ⟨e4, e5, hq⟩, hj, e7⟩
    · refine ⟨0, by omega, e7, ?_⟩
      rw [e4, e5, e8, e6]
      have e9 := hC.2.2.1.2.2 c0 h1
      have hr4 := hC.2.2.1.2.1
      refine mid_s (va_up_self _ _ _) (wX_out hX) (wY_out hY) hC hz haz (hM _ _) (fun r2 z2 L2 σ9 q => ⟨q.1, q.2.1, ?_⟩)
      rcases q.2.2 with ⟨n1, n8, n9⟩ | ⟨n0, n1, n8, n9⟩ | ⟨c1, p1, n1, n2, n3, n4, n8, n9⟩
      · exact absurd (iN h1 e1) n1
      · exfalso
        rcases e3 with ⟨e2, _⟩ | ⟨e2, _⟩
        · exact n1 (iR (Nat.le_refl _) (by decide) e2)
        · exact n1 (iR (by decide) (by decide) e2)
      · have ec : c0 = c1 := ni (e1.symm.trans n3)
        subst ec
        rcases e3 with ⟨e2, e3⟩ | ⟨e2, e3⟩
        · have ep : p1 = 0 := ni (n4.symm.trans e2)
          rw [ep, if_pos rfl, ← e9.1] at n8
          exact ⟨_, ⟨_, n8, rfl⟩, fun _ => okv (vI e3), n9⟩
        · have ep : p1 = 1 := ni (n4.symm.trans e2)
          rw [ep, if_neg (by decide), ← e9.2] at n8
          exact ⟨_, ⟨_, n8, rfl⟩, fun _ => okv (vI e3), n9⟩
    · have hz1 : ∀ q, q ∈ L → q < z1 := fun q hq9 => Nat.lt_of_lt_of_le (hz q hq9) e4
      have haz1 : a + 526 ≤ z1 := Nat.le_trans haz e4
      rcases hq with hq | hq
      · obtain ⟨eE, hc, e6⟩ := hq
        have hj2 : j = 1 := by
          rcases hj with ⟨q1, q2⟩ | ⟨q1, q2⟩
          · exact q2
          · exact absurd (eE.symm.trans q1) (by decide)
        refine ⟨1, by omega, by rw [e7, hj2], ?_⟩
        rw [e5, e6]
        refine mid_s so hX hY hC hz1 haz1 (hM _ _) (fun r2 z2 L2 σ9 q => ⟨q.1, q.2.1, ?_⟩)
        rcases q.2.2 with ⟨n1, n8, n9⟩ | ⟨n0, n1, n8, n9⟩ | ⟨c1, p1, n1, n2, n3, n4, n8, n9⟩
        · exact ⟨_, ⟨_, n8, rfl⟩, fun q9 => absurd q9 (by decide), n9⟩
        · exact absurd n0 hc
        · exact absurd (iN n1 n3) hc
      · obtain ⟨eE, hc, hd, e6⟩ := hq
        have hj2 : j = 2 := by
          rcases hj with ⟨q1, q2⟩ | ⟨q1, q2⟩
          · exact absurd (eE.symm.trans q1) (by decide)
          · exact q2
        refine ⟨2, by omega, by rw [e7, hj2], ?_⟩
        rw [e5, e6]
        refine mid_s so hX hY hC hz1 haz1 (hM _ _) (fun r2 z2 L2 σ9 q => ⟨q.1, q.2.1, ?_⟩)
        rcases q.2.2 with ⟨n1, n8, n9⟩ | ⟨n0, n1, n8, n9⟩ | ⟨c1, p1, n1, n2, n3, n4, n8, n9⟩
        · exact absurd hc n1
        · exact ⟨_, ⟨_, n8, rfl⟩, fun q9 => absurd q9 (by decide), n9⟩
        · exact absurd (iR (Nat.zero_le _) n2 n4) hd
