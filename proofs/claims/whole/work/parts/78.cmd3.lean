/-! ===== play, start, restore, feed, written, share ===== -/
theorem goC_o {w h : Nat} {ru : Int32} {ar : Nat → Nat → Int32} {pl j : Nat} {a b : Int32} (h5 : j ≠ 5) (h8 : j ≠ 8) (h9 : j ≠ 9) (h10 : j ≠ 10) : goC w h ru ar pl a b j = ar j := by
  rw [goC, va_up_ne _ _ h10, va_up_ne _ _ h9, va_up_ne _ _ h5, va_up_ne _ _ h8]
theorem arE_o {ar : Nat → Nat → Int32} {e cb : Nat → Int32} {j : Nat} (h1 : j ≠ 20) (h2 : j ≠ 21) : arE ar e cb j = ar j := by
  rw [arE, va_up_ne _ _ h2, va_up_ne _ _ h1]

theorem C_play (K : GK) {a : Nat} {th : Int32} {z : Nat} {L : List Nat} {σ : GS} (hI : wI K a th z L σ) (x1 y1 : Int32) : gHM K yL_play cL_play 5 (some .int) [(0, 10, 13, 23), (0, 10, 17, 28), (0, 10, 21, 30)] 9 1 7 [.ref a, .int x1, .int y1, .ref (a + 524)] z L σ (fun r z1 L1 σ1 => ∃ k, k ≤ 3 ∧ r = some (.int (nI k)) ∧ wMid K a yX8_play cX8_play 3 (some .int) 8 [.int x1, .int y1] k RI z1 L1 σ1) := by
  obtain ⟨hk, w, h, b, ru, pl, x, y, D, wk, h9, bk, ruk, plk, xk, yk, Dk, rk, cd, dt, tn, tx, sc, ar, hX, hY, hC, h0, hz, haz⟩ := hI
  have hB := hC.1.1
  have hn := cG_n hC.1
  have hP := cG_P hC.1
  have hw1 := hB.2.2.1
  have hw2 := hB.2.2.2.1
  have hh1 := hB.2.2.2.2.1
  have hh2 := hB.2.2.2.2.2
  have hpl := cG_60 hC.1
  have h53 := cG_153 hC.1
  have hCp := hC.1.2.2.2.2
  have hX0 := hX.1.1
  have hX1 := hX.1.2
  obtain ⟨mo, fo, so⟩ := hY.1.1
  have hF := F_play K hX.2.1.1 hX.2.1.2.2.1 hw1 hw2 hh1 hh2 hP hX0 hX1 (by omega) hX.2.2.2.1.1.1 hX.2.2.2.1.1.2.1 hX.2.2.2.1.1.2.2 hX.2.2.2.1.2.1 hX.2.2.2.1.2.2.1 hX.2.2.2.1.2.2.2 (by omega) (by rcases hX.2.1.2.2.2 with q | q | q <;> omega) (cG_st hC.1) hX.2.1.2.1 (by rcases hX.2.1.2.2.2 with q | q | q <;> omega) hC.1.2.2.1 (ld_ok hn (by omega : 24000 ≤ 100000) (cG_cp hC.1) hC.1.2.2.2.1) (a9 := x1) (b9 := y1) (z := z)
  have hM := fun (z9 : Nat) (σ9 : GS) => M_play K (z := z9) (σ0 := σ9) (sc := sc) (ar := ar) hY.2.1 hB (a := x1) (b := y1) h53 hpl (cG_wv hC.1)
  refine gHM_mono (W_play K hF hX0 hX1 (o := a + 524) (fun rv z1 L1 σ1 hp => ?_) (fun E z1 L1 σ1 hp => ?_)) (fun r z1 L1 σ1 hp => ?_)
  · obtain ⟨⟨hca, hcb⟩, hne, ⟨hma, hmb⟩, e3, e4, e5, e6⟩ := hp
    have hs9 := (s1_gm hX.2.1.1 (end_60 hne) e6).2
    exact ⟨_, fo, e3, by rw [e5]; exact mo, by rw [hs9 _ (by omega)]; exact so⟩
  · rcases hp.2.2 with q | q | q
    · exact Or.inl q.1
    · exact Or.inr (Or.inl q.1)
    · exact Or.inr (Or.inr q.1)
  · rcases hp with ⟨v, f, σ3, ⟨⟨hca, hcb⟩, hne, ⟨hma, hmb⟩, e3, e4, e5, e6⟩, so2, e7, e8⟩ | ⟨E, j, ⟨e4, e5, hq⟩, hj, e7⟩
    · refine ⟨0, by omega, e7, ?_⟩
      have hs9 := s1_gm hX.2.1.1 (end_60 hne) e6
      rw [e4, e5, e8]
      rw [hisR_pl] at hma hmb e3
      have hX3 := wX_game hz haz (fun q hq => hq) (fun q h1 h2 => hs9.2 q (by omega)) ⟨hs9.1, s1_T hX.2.1.2.1, (hs9.2 b (by rcases hX.2.1.2.2.2 with q | q | q <;> omega)).trans hX.2.1.2.2.1, hX.2.1.2.2.2⟩ hX
      have hY3 := wY_eq (fun q hq => hq) (fun q hq => hs9.2 q (by omega)) hY
      refine mid_of (va_up_self _ _ _) (wX_out hX3) (wY_out hY3) hz haz (hM _ _) (fun r2 z2 L2 σ9 q => ⟨q.1, q.2.1, ?_⟩)
      rcases q.2.2 with ⟨n1, n8, n9⟩ | ⟨n1, n2, n8, n9⟩ | ⟨n1, n2, n3, n8, c9, n4, n5, n9⟩ | ⟨n1, n2, n3, n8, c9, n4, n5, n9⟩ | ⟨n1, n2, n3, W9, u1, u2, u3, hR, hcb9, n8, n9⟩
      · exact absurd ⟨hca, hcb⟩ n1
      · exact absurd ((cG_end hC.1).mpr n2) hne
      · exact absurd hma n3
      · exact absurd hmb n3.2
      · have hg := goA_C (pl := pl) (e := u1) hR hcb9
        rw [hg.2.1, hC.1.2.1, goU_g hCp.2.2.2.2.2] at n8
        rw [hg.2.2, hC.1.2.1] at n9
        refine ⟨_, _, _, ⟨_, n8, rfl⟩, fun _ => okv (vI e3), n9, scS_0, cAll_g ⟨⟨(scS_q 1 (by omega)).trans hB.1, (scS_q 2 (by omega)).trans hB.2.1, hB.2.2⟩, (scS_q 3 (by omega)).trans hC.1.2.1, hC.1.2.2.1, hC.1.2.2.2.1, cpl_ar (fun j hj => arE_o (by omega) (by omega)) (cpl_go hn hC.1.2.2.2.1 hCp (end_60 hne) hC.1.2.2.1 hca hcb)⟩ (fun i hi => scS_q i (by omega)) (fun j hj => (arE_o (by omega) (by omega)).trans (goC_o (by omega) (by omega) (by omega) (by omega))) hC⟩
    · have hz1 : ∀ q, q ∈ L → q < z1 := fun q hq9 => Nat.lt_of_lt_of_le (hz q hq9) e4
      have haz1 : a + 526 ≤ z1 := Nat.le_trans haz e4
      rcases hq with hq | hq | hq
      · obtain ⟨eE, hc, e6⟩ := hq
        have hj2 : j = 1 := by
          rcases hj with ⟨q1, q2⟩ | ⟨q1, q2⟩ | ⟨q1, q2⟩
          · exact q2
          · exact absurd (eE.symm.trans q1) (by decide)
          · exact absurd (eE.symm.trans q1) (by decide)
        refine ⟨1, by omega, by rw [e7, hj2], ?_⟩
        rw [e5, e6]
        refine mid_s so hX hY hC hz1 haz1 (hM _ _) (fun r2 z2 L2 σ9 q => ⟨q.1, q.2.1, ?_⟩)
        rcases q.2.2 with ⟨n1, n8, n9⟩ | ⟨n1, n2, n8, n9⟩ | ⟨n1, n2, n3, n8, c9, n4, n5, n9⟩ | ⟨n1, n2, n3, n8, c9, n4, n5, n9⟩ | ⟨n1, n2, n3, W9, u1, u2, u3, hR, hcb9, n8, n9⟩
        · exact ⟨_, ⟨_, n8, rfl⟩, fun q9 => absurd q9 (by decide), n9⟩
        · exact absurd n1 hc
        · exact absurd n1 hc
        · exact absurd n1 hc
        · exact absurd n1 hc
      · obtain ⟨eE, hc, hd, e6⟩ := hq
        have hj2 : j = 2 := by
          rcases hj with ⟨q1, q2⟩ | ⟨q1, q2⟩ | ⟨q1, q2⟩
          · exact absurd (eE.symm.trans q1) (by decide)
          · exact q2
          · exact absurd (eE.symm.trans q1) (by decide)
        refine ⟨2, by omega, by rw [e7, hj2], ?_⟩
        rw [e5, e6]
        refine mid_s so hX hY hC hz1 haz1 (hM _ _) (fun r2 z2 L2 σ9 q => ⟨q.1, q.2.1, ?_⟩)
        rcases q.2.2 with ⟨n1, n8, n9⟩ | ⟨n1, n2, n8, n9⟩ | ⟨n1, n2, n3, n8, c9, n4, n5, n9⟩ | ⟨n1, n2, n3, n8, c9, n4, n5, n9⟩ | ⟨n1, n2, n3, W9, u1, u2, u3, hR, hcb9, n8, n9⟩
        · exact absurd hc n1
        · exact ⟨_, ⟨_, n8, rfl⟩, fun q9 => absurd q9 (by decide), n9⟩
        · exact absurd ((cG_end hC.1).mp hd) n2
        · exact absurd ((cG_end hC.1).mp hd) n2
        · exact absurd ((cG_end hC.1).mp hd) n2
      · obtain ⟨eE, hc, hd, hq9⟩ := hq
        have hj2 : j = 3 := by
          rcases hj with ⟨q1, q2⟩ | ⟨q1, q2⟩ | ⟨q1, q2⟩
          · exact absurd (eE.symm.trans q1) (by decide)
          · exact absurd (eE.symm.trans q1) (by decide)
          · exact q2
        refine ⟨3, by omega, by rw [e7, hj2], ?_⟩
        rw [hisR_pl] at hq9
        rcases hq9 with ⟨g1, c, g2, g3, g4⟩ | ⟨g1, c, g2, g3, g4⟩
        · obtain ⟨rk2, cd2, dt2, eS⟩ := tl_o g4
          have hY3 : wY K a L σ1 sc ar := by rw [eS]; exact wY_eq (fun q hq => hq) (fun q hq => rfU_o (by omega)) hY
          rw [e5]
          refine mid_x (k := 3) hY3 (hM _ _) (fun r2 z2 L2 σ9 q => ?_)
          rcases q.2.2 with ⟨n1, n8, n9⟩ | ⟨n1, n2, n8, n9⟩ | ⟨n1, n2, n3, n8, c9, n4, n5, n9⟩ | ⟨n1, n2, n3, n8, c9, n4, n5, n9⟩ | ⟨n1, n2, n3, W9, u1, u2, u3, hR, hcb9, n8, n9⟩
          · exact absurd hc n1
          · exact absurd ((cG_end hC.1).mpr n2) hd
          · have ec : c = c9 := ni (g3.symm.trans n5)
            subst ec
            obtain ⟨rk3, cd3, dt3, sc3, ar3, t1, t2, t3, t4, t5⟩ := tl_rp hCp g2 g4 n9
            refine ⟨⟨_, ⟨_, n8, rfl⟩, fun q9 => absurd q9 (by decide)⟩, ?_⟩
            rw [q.1, q.2.1, t2]
            exact ⟨hk, w, h, b, ru, pl, x, y, D, wk, h9, bk, ruk, plk, xk, yk, Dk, rk3, cd3, dt3, tn, tx, sc3, ar3, wX_M (by rw [t1]; exact wX_rf hX), wY_M hY3, cAll_rp t3 (fun i hi => (t4 i (by omega)).trans (va_up_ne _ _ (by omega))) (fun j h1 h2 _ _ => t5 j h1 h2) hC, (t4 0 (by decide)).trans (va_up_self _ _ _), hz1, haz1⟩
          · exact absurd n3.1 g1
          · exact absurd n3.1 g1
        · obtain ⟨rk2, cd2, dt2, eS⟩ := tl_o g4
          have hY3 : wY K a L σ1 sc ar := by rw [eS]; exact wY_eq (fun q hq => hq) (fun q hq => rfU_o (by omega)) hY
          rw [e5]
          refine mid_x (k := 3) hY3 (hM _ _) (fun r2 z2 L2 σ9 q => ?_)
          rcases q.2.2 with ⟨n1, n8, n9⟩ | ⟨n1, n2, n8, n9⟩ | ⟨n1, n2, n3, n8, c9, n4, n5, n9⟩ | ⟨n1, n2, n3, n8, c9, n4, n5, n9⟩ | ⟨n1, n2, n3, W9, u1, u2, u3, hR, hcb9, n8, n9⟩
          · exact absurd hc n1
          · exact absurd ((cG_end hC.1).mpr n2) hd
          · exact absurd g1.1 n3
          · have ec : c = c9 := ni (g3.symm.trans n5)
            subst ec
            obtain ⟨rk3, cd3, dt3, sc3, ar3, t1, t2, t3, t4, t5⟩ := tl_rp hCp g2 g4 n9
            refine ⟨⟨_, ⟨_, n8, rfl⟩, fun q9 => absurd q9 (by decide)⟩, ?_⟩
            rw [q.1, q.2.1, t2]
            exact ⟨hk, w, h, b, ru, pl, x, y, D, wk, h9, bk, ruk, plk, xk, yk, Dk, rk3, cd3, dt3, tn, tx, sc3, ar3, wX_M (by rw [t1]; exact wX_rf hX), wY_M hY3, cAll_rp t3 (fun i hi => (t4 i (by omega)).trans (va_up_ne _ _ (by omega))) (fun j h1 h2 _ _ => t5 j h1 h2) hC, (t4 0 (by decide)).trans (va_up_self _ _ _), hz1, haz1⟩
          · exact absurd n3.2 g1.2

theorem C_start (K : GK) {a : Nat} {th : Int32} {z : Nat} {L : List Nat} {σ : GS} (hI : wI K a th z L σ) (x1 y1 k1 : Int32) : gHM K yL_start cL_start 6 (some .int) [(0, 12, 15, 13)] 8 1 7 [.ref a, .int x1, .int y1, .int k1, .ref (a + 524)] z L σ (fun r z1 L1 σ1 => ∃ k, k ≤ 3 ∧ r = some (.int (nI k)) ∧ wMid K a yX8_start cX8_start 4 (some .int) 2 [.int x1, .int y1, .int k1] k RI z1 L1 σ1) := by
  obtain ⟨hk, w, h, b, ru, pl, x, y, D, wk, h9, bk, ruk, plk, xk, yk, Dk, rk, cd, dt, tn, tx, sc, ar, hX, hY, hC, h0, hz, haz⟩ := hI
  have hB := hC.1.1
  have hn := cG_n hC.1
  have hP := cG_P hC.1
  have hw1 := hB.2.2.1
  have hw2 := hB.2.2.2.1
  have hh1 := hB.2.2.2.2.1
  have hh2 := hB.2.2.2.2.2
  have hpl := cG_60 hC.1
  have h53 := cG_153 hC.1
  have hCp := hC.1.2.2.2.2
  have hX0 := hX.1.1
  have hX1 := hX.1.2
  obtain ⟨mo, fo, so⟩ := hY.1.1
  have hF := F_start K hX.2.1.1 hX.2.1.2.2.1 hw1 hw2 hh1 hh2 hP hX0 hX1 (by omega) hX.2.1.2.1 (by rcases hX.2.1.2.2.2 with q | q | q <;> omega) hz (x := x1) (y := y1) (kx := k1) (z := z)
  have hM := fun (z9 : Nat) (σ9 : GS) => M_start K (z := z9) (σ0 := σ9) (sc := sc) (ar := ar) hY.2.1 hB (a := x1) (b := y1) (k := k1)
  refine gHM_mono (W_start K hF hX0 hX1 (o := a + 524) (fun rv z1 L1 σ1 hp => ?_) (fun E z1 L1 σ1 hp => ?_)) (fun r z1 L1 σ1 hp => ?_)
  · obtain ⟨w2, h2, k0, a1, a2, a3, a4, a5, e1, e2, e3, e9, hd9⟩ := hp
    rcases hd9 with ⟨_, e4, e5, e6⟩ | ⟨_, e4, e5, e6⟩
    · exact ⟨_, fo, e9, by rw [e5]; exact mo, by rw [e6, va_up_ne _ _ (by omega), psU_at (by omega)]; exact so⟩
    · exact ⟨_, fo, e9, by rw [e5]; exact List.mem_append_left _ mo, by rw [e6, va_up_ne _ _ (by omega), psU_at (by omega), va_up_ne _ _ (by omega)]; exact so⟩
  · exact hp.2.2.1
  · rcases hp with ⟨v, f, σ3, ⟨w2, h2, k0, a1, a2, a3, a4, a5, e1, e2, e3, e9, hd9⟩, so2, e7, e8⟩ | ⟨E, j, ⟨e4, e5, hq⟩, hj, e7⟩
    · refine ⟨0, by omega, e7, ?_⟩
      have hn2 : w2 * h2 ≤ 49 := Nat.mul_le_mul a2 a4
      have hn16 : 16 ≤ w2 * h2 := Nat.mul_le_mul a1 a3
      have hP2 : gmP (w2 * h2) 0 (fun _ => rdOf (w2 * h2) (D 60).1 (D 60).2.1 (D 60).2.2.1 (hdF (w2 * h2) w2 h2 k0)) (fun _ => hdF (w2 * h2) w2 h2 k0) := ⟨by omega, rdOf_M, fun r hr => absurd hr (Nat.not_lt_zero _)⟩
      have hT2 : gmT (fun _ => rdOf (w2 * h2) (D 60).1 (D 60).2.1 (D 60).2.2.1 (hdF (w2 * h2) w2 h2 k0)) := fun r _ => ⟨fun k hk9 => if_neg (by omega), (hX.2.1.2.1 60 (Nat.le_refl _)).2⟩
      have hTn := gmT_copy (pl2 := 0) hX.2.1.2.1 hT2
      rcases hd9 with ⟨⟨ew, eh⟩, e4, e5, e6⟩ | ⟨hne, e4, e5, e6⟩
      · have hc9 := gm_copy (b2 := b) (ru2 := ru) (x2 := nI 0) (y2 := nI 0) hX.2.1.1 hP2 hX.2.1.1.1.2.2.2.2 e6
        rw [e4, e5, e8]
        have hX3 := wX_game (w2 := w2) (h2 := h2) hz haz (fun q hq => hq) (fun q h1 h2 => hc9.2 q (by omega)) ⟨hc9.1, hTn, by rw [← ew, ← eh]; exact (hc9.2 b (by rcases hX.2.1.2.2.2 with q | q | q <;> omega)).trans hX.2.1.2.2.1, hX.2.1.2.2.2⟩ hX
        have hY3 := wY_eq (fun q hq => hq) (fun q hq => hc9.2 q (by omega)) hY
        refine mid_of (va_up_self _ _ _) (wX_out hX3) (wY_out hY3) hz haz (hM _ _) (fun r2 z2 L2 σ9 q => ⟨q.1, q.2.1, ?_⟩)
        rcases q.2.2 with ⟨n1, n8, n9⟩ | ⟨a0, b0, k9, m1, m2, m3, m4, m5, f1, f2, f3, n8, n9⟩
        · exact absurd ⟨iR a1 a2 e1, iR a3 a4 e2, iR (Nat.zero_le _) a5 e3⟩ n1
        · have q1 : w2 = a0 := ni (e1.symm.trans f1)
          have q2 : h2 = b0 := ni (e2.symm.trans f2)
          have q3 : k0 = k9 := ni (e3.symm.trans f3)
          subst q1 q2 q3
          refine ⟨_, _, _, ⟨_, n8, rfl⟩, fun _ => okv ((vI e9).trans ?_), n9, ?_, cAll_g ⟨⟨?_, ?_, a1, a2, a3, a4⟩, ?_, hC.1.2.2.1, ⟨0, 0, by omega, by omega, rfl, rfl⟩, ?_⟩ (fun i hi => ?_) (fun j hj => ?_) hC⟩
          · rw [mny, mny, ct_cong (fun c hc => by rw [(hd_bg a1 a3 hn2 (f := ar 5) k0).1 c hc])]
          · rw [va_up_ne _ _ (by decide), va_up_ne _ _ (by decide), va_up_self]
          · rw [va_up_ne _ _ (by decide), va_up_self]
          · rw [va_up_self]
          · rw [va_up_ne _ _ (by decide), va_up_ne _ _ (by decide), va_up_ne _ _ (by decide)]; exact hC.1.2.1
          · exact cpl_start (f := ar 5) a1 a3 hn2 hn16 hTn (by rw [show cpD 0 (fun _ => rdOf (w2 * h2) (D 60).1 (D 60).2.1 (D 60).2.2.1 (hdF (w2 * h2) w2 h2 k0)) D 60 = (fun _ => rdOf (w2 * h2) (D 60).1 (D 60).2.1 (D 60).2.2.1 (hdF (w2 * h2) w2 h2 k0)) 60 from if_pos (Or.inr rfl)]; exact rdOf_M) (fun i hi => by rw [va_up_self]) ⟨by rw [va_up_ne _ _ (by decide), va_up_self, va_up_ne _ _ (by decide), va_up_self], by rw [va_up_ne _ _ (by decide), va_up_self, va_up_self]⟩
          · rw [va_up_ne _ _ (by omega), va_up_ne _ _ (by omega), va_up_ne _ _ (by omega)]
          · rw [va_up_ne _ _ (by omega), va_up_ne _ _ (by omega)]
      · have hLz : ∀ q, q ∈ L → q ∈ L ++ [z] := fun q hq => List.mem_append_left _ hq
        have hG9 : gmI K (L ++ [z]) (va_up σ z (bdA w2 h2)) (a + 1) b ru pl x y D := gm_mono hLz (gm_eq (fun q q1 q2 q3 => va_up_ne _ _ (by omega)) hX.2.1.1)
        have hc9 := gm_copy (b2 := z) (ru2 := ru) (x2 := nI 0) (y2 := nI 0) hG9 hP2 (List.mem_append_right _ (List.mem_singleton.mpr rfl)) e6
        rw [e4, e5, e8]
        have hX3 := wX_game hz haz hLz (fun q h1 h2 => (hc9.2 q (by omega)).trans (va_up_ne _ _ (by omega))) ⟨hc9.1, hTn, (hc9.2 z (by omega)).trans (va_up_self _ _ _), Or.inr (Or.inr haz)⟩ hX
        have hY3 := wY_eq hLz (fun q hq => (hc9.2 q (by omega)).trans (va_up_ne _ _ (by omega))) hY
        have hz3 : ∀ q, q ∈ L ++ [z] → q < z + 1 := fun q hq => by
          rcases List.mem_append.mp hq with hq | hq
          · have := hz q hq; omega
          · rw [List.mem_singleton.mp hq]; omega
        refine mid_of (va_up_self _ _ _) (wX_out hX3) (wY_out hY3) hz3 (by omega) (M_start K (sc := sc) (ar := ar) hY3.2.1 hB) (fun r2 z2 L2 σ9 q => ⟨q.1, q.2.1, ?_⟩)
        rcases q.2.2 with ⟨n1, n8, n9⟩ | ⟨a0, b0, k9, m1, m2, m3, m4, m5, f1, f2, f3, n8, n9⟩
        · exact absurd ⟨iR a1 a2 e1, iR a3 a4 e2, iR (Nat.zero_le _) a5 e3⟩ n1
        · have q1 : w2 = a0 := ni (e1.symm.trans f1)
          have q2 : h2 = b0 := ni (e2.symm.trans f2)
          have q3 : k0 = k9 := ni (e3.symm.trans f3)
          subst q1 q2 q3
          refine ⟨_, _, _, ⟨_, n8, rfl⟩, fun _ => okv ((vI e9).trans ?_), n9, ?_, cAll_g ⟨⟨?_, ?_, a1, a2, a3, a4⟩, ?_, hC.1.2.2.1, ⟨0, 0, by omega, by omega, rfl, rfl⟩, ?_⟩ (fun i hi => ?_) (fun j hj => ?_) hC⟩
          · rw [mny, mny, ct_cong (fun c hc => by rw [(hd_bg a1 a3 hn2 (f := ar 5) k0).1 c hc])]
          · rw [va_up_ne _ _ (by decide), va_up_ne _ _ (by decide), va_up_self]
          · rw [va_up_ne _ _ (by decide), va_up_self]
          · rw [va_up_self]
          · rw [va_up_ne _ _ (by decide), va_up_ne _ _ (by decide), va_up_ne _ _ (by decide)]; exact hC.1.2.1
          · exact cpl_start (f := ar 5) a1 a3 hn2 hn16 hTn (by rw [show cpD 0 (fun _ => rdOf (w2 * h2) (D 60).1 (D 60).2.1 (D 60).2.2.1 (hdF (w2 * h2) w2 h2 k0)) D 60 = (fun _ => rdOf (w2 * h2) (D 60).1 (D 60).2.1 (D 60).2.2.1 (hdF (w2 * h2) w2 h2 k0)) 60 from if_pos (Or.inr rfl)]; exact rdOf_M) (fun i hi => by rw [va_up_self]) ⟨by rw [va_up_ne _ _ (by decide), va_up_self, va_up_ne _ _ (by decide), va_up_self], by rw [va_up_ne _ _ (by decide), va_up_self, va_up_self]⟩
          · rw [va_up_ne _ _ (by omega), va_up_ne _ _ (by omega), va_up_ne _ _ (by omega)]
          · rw [va_up_ne _ _ (by omega), va_up_ne _ _ (by omega)]
    · have hz1 : ∀ q, q ∈ L → q < z1 := fun q hq9 => Nat.lt_of_lt_of_le (hz q hq9) e4
      have haz1 : a + 526 ≤ z1 := Nat.le_trans haz e4
      obtain ⟨eE, hc, e6⟩ := hq
      have hj2 : j = 1 := hj.2
      refine ⟨1, by omega, by rw [e7, hj2], ?_⟩
      rw [e5, e6]
      refine mid_s so hX hY hC hz1 haz1 (hM _ _) (fun r2 z2 L2 σ9 q => ⟨q.1, q.2.1, ?_⟩)
      rcases q.2.2 with ⟨n1, n8, n9⟩ | ⟨a0, b0, k9, m1, m2, m3, m4, m5, f1, f2, f3, n8, n9⟩
      · exact ⟨_, ⟨_, n8, rfl⟩, fun q9 => absurd q9 (by decide), n9⟩
      · exact absurd ⟨iR m1 m2 f1, iR m3 m4 f2, iR (Nat.zero_le _) m5 f3⟩ hc

theorem C_restore (K : GK) {a : Nat} {th : Int32} {z : Nat} {L : List Nat} {σ : GS} (hI : wI K a th z L σ) : gHM K yL_restore cL_restore 3 (some .int) [(0, 8, 11, 28)] 8 1 7 [.ref a, .ref (a + 524)] z L σ (fun r z1 L1 σ1 => ∃ k, k ≤ 3 ∧ r = some (.int (nI k)) ∧ wMid K a yX8_restore cX8_restore 1 (some .int) 1 [] k RI z1 L1 σ1) := by
  obtain ⟨hk, w, h, b, ru, pl, x, y, D, wk, h9, bk, ruk, plk, xk, yk, Dk, rk, cd, dt, tn, tx, sc, ar, hX, hY, hC, h0, hz, haz⟩ := hI
  have hB := hC.1.1
  have hn := cG_n hC.1
  have hP := cG_P hC.1
  have hw1 := hB.2.2.1
  have hw2 := hB.2.2.2.1
  have hh1 := hB.2.2.2.2.1
  have hh2 := hB.2.2.2.2.2
  have hpl := cG_60 hC.1
  have h53 := cG_153 hC.1
  have hCp := hC.1.2.2.2.2
  have hX0 := hX.1.1
  have hX1 := hX.1.2
  obtain ⟨mo, fo, so⟩ := hY.1.1
  by_cases hk0 : hk = 0
  · have hK : sc 19 = 0 ∧ ar 11 153 = nI 0 := by
      rcases hC.2.1 with q | q
      · exact q.2
      · exact absurd hk0 q.1
    have hF := F_restore0 K hX.2.1.1 hX.2.1.2.2.1 hw1 hw2 hh1 hh2 hP hX0 hX1 (by omega) hk0 (z := z)
    refine gHM_mono (W_restore K hF hX0 hX1 (o := a + 524) (fun rv z1 L1 σ1 hp => hp.elim) (fun E z1 L1 σ1 hp => hp.2.2.1)) (fun r z1 L1 σ1 hp => ?_)
    rcases hp with ⟨v, f, σ3, hp, _⟩ | ⟨E, j, ⟨e4, e5, eE, e6⟩, hj, e7⟩
    · exact hp.elim
    · refine ⟨1, by omega, by rw [e7, hj.2], ?_⟩
      rw [e5, e6]
      refine mid_s so hX hY hC (fun q hq9 => Nat.lt_of_lt_of_le (hz q hq9) e4) (Nat.le_trans haz e4) (M_restore K (σ0 := σ) (sc := sc) (ar := ar) hY.2.1 hB (sp := 0) hK.2 (by omega)) (fun r2 z2 L2 σ9 q => ⟨q.1, q.2.1, ?_⟩)
      rcases q.2.2 with ⟨n1, n8, n9⟩ | ⟨n1, n8, n9⟩
      · exact ⟨_, ⟨_, n8, rfl⟩, fun q9 => absurd q9 (by decide), n9⟩
      · exact absurd hK.1 n1
  · have hK : ¬ sc 19 = 0 ∧ cG wk h9 ruk plk xk yk Dk (scK sc) (arK ar) := by
      rcases hC.2.1 with q | q
      · exact absurd q.1 hk0
      · exact q.2
    have hF := F_restore1 K hX.2.1.1 hX.2.1.2.2.1 hw1 hw2 hh1 hh2 hP hX0 hX1 (by omega) hX.2.2.1.1 hX.2.2.1.2.1 hX.2.1.2.1 (by omega) (cG_P hK.2) (cG_n hK.2) hk0 (z := z)
    refine gHM_mono (W_restore K hF hX0 hX1 (o := a + 524) (fun rv z1 L1 σ1 hp => ?_) (fun E z1 L1 σ1 hp => hp.2.2.elim)) (fun r z1 L1 σ1 hp => ?_)
    · obtain ⟨e3, e4, e5, e6⟩ := hp
      have hc9 := gm_copy hX.2.1.1 (cG_P hK.2) hX.2.2.1.1.1.2.2.2.2 e6
      exact ⟨_, fo, e3, by rw [e5]; exact mo, by rw [hc9.2 _ (by omega)]; exact so⟩
    · rcases hp with ⟨v, f, σ3, ⟨e3, e4, e5, e6⟩, so2, e7, e8⟩ | ⟨E, j, hp, _⟩
      · have hc9 := gm_copy hX.2.1.1 (cG_P hK.2) hX.2.2.1.1.1.2.2.2.2 e6
        have hTn := gmT_copy (pl2 := plk) hX.2.1.2.1 hX.2.2.1.2.1
        refine ⟨0, by omega, e7, ?_⟩
        rw [e4, e5, e8]
        have hX3 := wX_game hz haz (fun q hq => hq) (fun q h1 h2 => hc9.2 q (by omega)) ⟨hc9.1, hTn, (hc9.2 bk (by rcases hX.2.2.1.2.2.2 with q | q | q <;> omega)).trans hX.2.2.1.2.2.1, hX.2.2.1.2.2.2⟩ hX
        have hY3 := wY_eq (fun q hq => hq) (fun q hq => hc9.2 q (by omega)) hY
        refine mid_of (va_up_self _ _ _) (wX_out hX3) (wY_out hY3) hz haz (M_restore K (σ0 := va_up σ3 (a + 524) (lA K 1 (va_up f 0 v.toInt64))) (sc := sc) (ar := ar) hY.2.1 hB (sp := plk) (cG_153 hK.2) (cG_60 hK.2)) (fun r2 z2 L2 σ9 q => ⟨q.1, q.2.1, ?_⟩)
        rcases q.2.2 with ⟨n1, n8, n9⟩ | ⟨n1, n8, n9⟩
        · exact absurd n1 hK.1
        · refine ⟨_, _, _, ⟨_, n8, rfl⟩, fun _ => okv (vI e3), n9, ?_, cAll_g ⟨⟨?_, ?_, hK.2.1.2.2⟩, ?_, hK.2.2.2.1, hK.2.2.2.2.1, cpl_cong (cG_n hK.2) hK.2.2.2.2.2 ?_ ?_ ?_ ?_ ?_ ?_ ?_ hTn⟩ (fun i hi => ?_) (fun j hj => ?_) hC⟩
          · rw [va_up_ne _ _ (by decide), va_up_ne _ _ (by decide), va_up_ne _ _ (by decide), va_up_self]
          · rw [va_up_ne _ _ (by decide), va_up_ne _ _ (by decide), va_up_self]; exact hK.2.1.1
          · rw [va_up_ne _ _ (by decide), va_up_self]; exact hK.2.1.2.1
          · rw [va_up_self]; exact hK.2.2.1
          · intro k hk9; rw [va_up_ne _ _ (by decide), va_up_ne _ _ (by decide), va_up_ne _ _ (by decide), va_up_ne _ _ (by decide), va_up_self, cpF, if_pos hk9]; rfl
          · intro k hk9; rw [va_up_ne _ _ (by decide), va_up_ne _ _ (by decide), va_up_ne _ _ (by decide), va_up_self, cpF, if_pos hk9]; rfl
          · intro k hk9; rw [va_up_ne _ _ (by decide), va_up_ne _ _ (by decide), va_up_self, cpF, if_pos hk9]; rfl
          · intro k hk9; rw [va_up_ne _ _ (by decide), va_up_self, cpF, if_pos hk9]; rfl
          · rw [va_up_self, cpF, cpF, if_pos (by decide), if_pos (by decide)]; exact hK.2.2.2.2.2.2.2.2.2.2
          · intro i hi; exact if_pos (Or.inl hi)
          · exact if_pos (Or.inr rfl)
          · rw [va_up_ne _ _ (by omega), va_up_ne _ _ (by omega), va_up_ne _ _ (by omega), va_up_ne _ _ (by omega)]
          · rw [va_up_ne _ _ (by omega), va_up_ne _ _ (by omega), va_up_ne _ _ (by omega), va_up_ne _ _ (by omega), va_up_ne _ _ (by omega)]
      · exact hp.2.2.elim

theorem C_feed (K : GK) {a : Nat} {th : Int32} {z : Nat} {L : List Nat} {σ : GS} (hI : wI K a th z L σ) {v9 : Nat} (hv9 : v9 < 65536) : gHM K yL_feed cL_feed 4 (some .int) [(0, 9, 12, 28)] 8 1 7 [.ref a, .int (nI v9), .ref (a + 524)] z L σ (fun r z1 L1 σ1 => ∃ k, k ≤ 3 ∧ r = some (.int (nI k)) ∧ wMid K a yX8_feed cX8_feed 2 (some .int) 0 [.int (nI v9)] k RI z1 L1 σ1) := by
  obtain ⟨hk, w, h, b, ru, pl, x, y, D, wk, h9, bk, ruk, plk, xk, yk, Dk, rk, cd, dt, tn, tx, sc, ar, hX, hY, hC, h0, hz, haz⟩ := hI
  have hB := hC.1.1
  have hn := cG_n hC.1
  have hP := cG_P hC.1
  have hw1 := hB.2.2.1
  have hw2 := hB.2.2.2.1
  have hh1 := hB.2.2.2.2.1
  have hh2 := hB.2.2.2.2.2
  have hpl := cG_60 hC.1
  have h53 := cG_153 hC.1
  have hCp := hC.1.2.2.2.2
  have hX0 := hX.1.1
  have hX1 := hX.1.2
  obtain ⟨mo, fo, so⟩ := hY.1.1
  obtain ⟨⟨i0, i1, i2⟩, cr, gc, t0, t1, t2⟩ := hX.2.2.2.2.1
  obtain ⟨u0, u1, u2⟩ := hC.2.2.2
  have hM := fun (z9 : Nat) (σ9 : GS) => M_feed K (z := z9) (σ0 := σ9) (sc := sc) (ar := ar) hY.2.1 hB (cn := v9) u0 u1 hv9
  by_cases q80 : tn = 80
  · have hF := F_feed0 K hX.2.1.1 hX.2.1.2.2.1 hw1 hw2 hh1 hh2 hP hX0 hX1 (by omega) i0 i1 i2 t0 t1 t2 hv9 (by omega) q80 (z := z)
    refine gHM_mono (W_feed K hF hX0 hX1 (o := a + 524) (fun rv z1 L1 σ1 hp => hp.elim) (fun E z1 L1 σ1 hp => hp.2.2.1)) (fun r z1 L1 σ1 hp => ?_)
    rcases hp with ⟨v, f, σ3, hp, _⟩ | ⟨E, j, ⟨e4, e5, eE, e6⟩, hj, e7⟩
    · exact hp.elim
    · refine ⟨1, by omega, by rw [e7, hj.2], ?_⟩
      rw [e5, e6]
      refine mid_s so hX hY hC (fun q hq9 => Nat.lt_of_lt_of_le (hz q hq9) e4) (Nat.le_trans haz e4) (hM _ _) (fun r2 z2 L2 σ9 q => ⟨q.1, q.2.1, ?_⟩)
      rcases q.2.2 with ⟨n1, n8, n9⟩ | ⟨n1, n8, n9⟩
      · exact ⟨_, ⟨_, n8, rfl⟩, fun q9 => absurd q9 (by decide), n9⟩
      · exact absurd q80 n1
  · have hF := F_feed1 K hX.2.1.1 hX.2.1.2.2.1 hw1 hw2 hh1 hh2 hP hX0 hX1 (by omega) i0 i1 i2 t0 t1 t2 hv9 (by omega) (by omega) (z := z)
    refine gHM_mono (W_feed K hF hX0 hX1 (o := a + 524) (fun rv z1 L1 σ1 hp => ?_) (fun E z1 L1 σ1 hp => hp.2.2.elim)) (fun r z1 L1 σ1 hp => ?_)
    · obtain ⟨e3, e4, e5, e6⟩ := hp
      exact ⟨_, fo, e3, by rw [e5]; exact mo, by rw [e6, va_up_ne _ _ (by omega), va_up_ne _ _ (by omega)]; exact so⟩
    · rcases hp with ⟨v, f, σ3, ⟨e3, e4, e5, e6⟩, so2, e7, e8⟩ | ⟨E, j, hp, _⟩
      · refine ⟨0, by omega, e7, ?_⟩
        have hX3 := wX_in (σ2 := σ3) (tn2 := tn + 1) (tx2 := va_up tx tn (nI v9)) (fun q hq => by rw [e6, va_up_ne _ _ (by omega), va_up_ne _ _ (by omega)]) ⟨cr, gc, by rw [e6, va_up_self], by rw [e6, va_up_ne _ _ (by omega), va_up_self], by rw [e6, va_up_ne _ _ (by omega), va_up_ne _ _ (by omega)]; exact t2⟩ hX
        have hY3 : wY K a L σ3 sc ar := wY_eq (fun q hq => hq) (fun q hq => by rw [e6, va_up_ne _ _ (by omega), va_up_ne _ _ (by omega)]) hY
        rw [e4, e5, e8]
        refine mid_of (va_up_self _ _ _) (wX_out hX3) (wY_out hY3) hz haz (hM _ _) (fun r2 z2 L2 σ9 q => ⟨q.1, q.2.1, ?_⟩)
        rcases q.2.2 with ⟨n1, n8, n9⟩ | ⟨n1, n8, n9⟩
        · exact absurd n1 q80
        · refine ⟨_, _, _, ⟨_, n8, rfl⟩, fun _ => okv (vI e3), n9, by rw [va_up_ne _ _ (by decide), va_up_self], cG_eq (fun i hi => ?_) (fun j hj => va_up_ne _ _ (by omega)) hC.1, cK_eq (fun i hi => ?_) (fun j hj => va_up_ne _ _ (by omega)) hC.2.1, rpC_eq ?_ (fun j hj => va_up_ne _ _ (by omega)) hC.2.2.1, va_up_self _ _ _, by omega, by rw [va_up_self, u2]⟩
          · rw [va_up_ne _ _ (by omega), va_up_ne _ _ (by omega)]
          · rw [va_up_ne _ _ (by omega), va_up_ne _ _ (by omega)]
          · rw [va_up_ne _ _ (by decide), va_up_ne _ _ (by decide)]
      · exact hp.2.2.elim

theorem C_written (K : GK) {a : Nat} {th : Int32} {z : Nat} {L : List Nat} {σ : GS} (hI : wI K a th z L σ) (x1 : Int32) : gHM K yL_written cL_written 4 (some .int) [(0, 9, 12, 23)] 8 1 7 [.ref a, .int x1, .ref (a + 524)] z L σ (fun r z1 L1 σ1 => ∃ k, k ≤ 3 ∧ r = some (.int (nI k)) ∧ wMid K a yX8_written cX8_written 6 (some .char) 1 [.int x1] k RI z1 L1 σ1) := by
  obtain ⟨hk, w, h, b, ru, pl, x, y, D, wk, h9, bk, ruk, plk, xk, yk, Dk, rk, cd, dt, tn, tx, sc, ar, hX, hY, hC, h0, hz, haz⟩ := hI
  have hB := hC.1.1
  have hn := cG_n hC.1
  have hP := cG_P hC.1
  have hw1 := hB.2.2.1
  have hw2 := hB.2.2.2.1
  have hh1 := hB.2.2.2.2.1
  have hh2 := hB.2.2.2.2.2
  have hpl := cG_60 hC.1
  have h53 := cG_153 hC.1
  have hCp := hC.1.2.2.2.2
  have hX0 := hX.1.1
  have hX1 := hX.1.2
  obtain ⟨mo, fo, so⟩ := hY.1.1
  have hch : ∀ r, r < pl → chOK (w * h) ((D r).1 0) ∧ chOK (w * h) ((D r).1 1) := fun r hr => (hCp.2.2.2.1 r hr).1.1
  by_cases hx0 : x1 < 0
  · have hF := F_written0 K hX.2.1.1 hX.2.1.2.2.1 hw1 hw2 hh1 hh2 hP hX0 hX1 (by omega) hch hx0 (z := z)
    refine gHM_mono (W_written K hF hX0 hX1 (o := a + 524) (fun rv z1 L1 σ1 hp => hp.elim) (fun E z1 L1 σ1 hp => hp.2.2.1)) (fun r z1 L1 σ1 hp => ?_)
    rcases hp with ⟨v, f, σ3, hp, _⟩ | ⟨E, j, ⟨e4, e5, eE, e6⟩, hj, e7⟩
    · exact hp.elim
    · refine ⟨1, by omega, by rw [e7, hj.2], ?_⟩
      rw [e5, e6]
      exact mid_s so hX hY hC (fun q hq9 => Nat.lt_of_lt_of_le (hz q hq9) e4) (Nat.le_trans haz e4) (M_writtenG K (σ0 := σ) (sc := sc) (ar := ar) hY.2.1 hB hx0 h53 hpl) (fun r2 z2 L2 σ9 q => ⟨q.2.1, q.2.2.1, _, ⟨_, q.1, rfl⟩, fun q9 => absurd q9 (by decide), q.2.2.2⟩)
  · obtain ⟨k0, hk0, ek⟩ : ∃ k0 : Nat, k0 < 2 ^ 31 ∧ x1 = nI k0 := by
      rw [Int32.lt_iff_toInt_lt] at hx0
      have hx9 := x1.toInt_lt
      refine ⟨x1.toInt.toNat, by have h0 : (0 : Int32).toInt = 0 := rfl; omega, ?_⟩
      apply Int32.toInt_inj.mp
      have h0 : (0 : Int32).toInt = 0 := rfl
      rw [nI_toInt (by omega)]; omega
    rw [ek]
    have hF := F_written1 K hX.2.1.1 hX.2.1.2.2.1 hw1 hw2 hh1 hh2 hP hX0 hX1 (by omega) hch hk0 (z := z)
    have hinf : ∀ i, i < pl → ∀ s9, s9 < 2 → chOK (w * h) (ar 9 (7 * i + s9)) := fun i hi s9 hs => by
      obtain ⟨⟨⟨c1, c2⟩, _⟩, c3, c4, _⟩ := hCp.2.2.2.1 i hi
      rcases (show s9 = 0 ∨ s9 = 1 by omega) with rfl | rfl
      · rw [Nat.add_zero, c3]; exact c1
      · rw [c4]; exact c2
    have hM := fun (z9 : Nat) (σ9 : GS) => M_writtenN K (z := z9) (σ0 := σ9) (sc := sc) (ar := ar) hY.2.1 hB hk0 h53 hpl hinf
    have hwr := wr_an (w := w) hCp.2.2.2.1 pl 0 k0 (by omega)
    refine gHM_mono (W_written K hF hX0 hX1 (o := a + 524) (fun rv z1 L1 σ1 hp => ?_) (fun E z1 L1 σ1 hp => hp.2.2.1)) (fun r z1 L1 σ1 hp => ?_)
    · obtain ⟨⟨v, _, e3⟩, e4, e5, e6⟩ := hp
      exact ⟨_, fo, e3, by rw [e5]; exact mo, by rw [e6]; exact so⟩
    · rcases hp with ⟨v, f, σ3, ⟨⟨v2, h1, e3⟩, e4, e5, e6⟩, so2, e7, e8⟩ | ⟨E, j, ⟨e4, e5, eE, hc, e6⟩, hj, e7⟩
      · refine ⟨0, by omega, e7, ?_⟩
        rw [e4, e5, e8, e6]
        refine mid_s (va_up_self _ _ _) (wX_out hX) (wY_out hY) hC hz haz (hM _ _) (fun r2 z2 L2 σ9 q => ⟨q.1, q.2.1, ?_⟩)
        rcases q.2.2 with ⟨v3, n1, n8, n9⟩ | ⟨n1, n8, n9⟩
        · have ev : v2 = v3 := Option.some.inj (h1.symm.trans (hwr.trans n1))
          exact ⟨_, ⟨_, n8, rfl⟩, fun _ => okv ((vI e3).trans ev), n9⟩
        · exact absurd (h1.symm.trans (hwr.trans n1)) (by simp)
      · refine ⟨1, by omega, by rw [e7, hj.2], ?_⟩
        rw [e5, e6]
        refine mid_s so hX hY hC (fun q hq9 => Nat.lt_of_lt_of_le (hz q hq9) e4) (Nat.le_trans haz e4) (hM _ _) (fun r2 z2 L2 σ9 q => ⟨q.1, q.2.1, ?_⟩)
        rcases q.2.2 with ⟨v3, n1, n8, n9⟩ | ⟨n1, n8, n9⟩
        · exact absurd (hc.symm.trans (hwr.trans n1)) (by simp)
        · exact ⟨_, ⟨_, n8, rfl⟩, fun q9 => absurd q9 (by decide), n9⟩

theorem dv_eq : ∀ w, w < 8 → ∀ h, h < 8 → ∀ a, a < 99 → 3 < w → 3 < h → Op.cmpValue (FP.dcmp (FP.ddiv (FP.i2d (nI a)) (FP.i2d (nI (w * h)))) (FP.ddiv (FP.i2d (nI a)) (FP.i2d (nI (w * h))))) .l = 0 := by decide +kernel
/-- .. with a double for an answer -/
def wMidD (K : GK) (a : Nat) (yM : MethodName) (cM : ByteArray) (nM : Nat) (rM : Option FieldType) (dM : Nat) (av : List Value) (k : Nat) (z : Nat) (L : List Nat) (σ : GS) : Prop :=
  (a + 506 ∈ L ∧ ∃ fs, σ (a + 506) = .inr (8, fs)) ∧ gM K yM cM nM rM dM 0 0 (.ref (a + 506) :: av) z L σ (fun r z2 L2 σ2 => (∃ u, r = some (.double u) ∧ (k = 0 → (∃ f, σ2 (a + 525) = dA K 1 f ∧ f 0 = u) ∧ Op.cmpValue (FP.dcmp u u) .l = 0)) ∧ wI K a (nI k) z2 L2 σ2)
theorem vD {a b : UInt64} (h : some (Value.double a) = some (Value.double b)) : a = b := by injection h with h; injection h

theorem C_share (K : GK) {a : Nat} {th : Int32} {z : Nat} {L : List Nat} {σ : GS} (hI : wI K a th z L σ) (x1 : Int32) : gHM K yL_share cL_share 4 (some .int) [(0, 8, 11, 23)] 8 1 7 [.ref a, .int x1, .ref (a + 525)] z L σ (fun r z1 L1 σ1 => ∃ k, k ≤ 3 ∧ r = some (.int (nI k)) ∧ wMidD K a yX8_share cX8_share 2 (some .double) 2 [.int x1] k  z1 L1 σ1) := by
  obtain ⟨hk, w, h, b, ru, pl, x, y, D, wk, h9, bk, ruk, plk, xk, yk, Dk, rk, cd, dt, tn, tx, sc, ar, hX, hY, hC, h0, hz, haz⟩ := hI
  have hB := hC.1.1
  have hn := cG_n hC.1
  have hP := cG_P hC.1
  have hw1 := hB.2.2.1
  have hw2 := hB.2.2.2.1
  have hh1 := hB.2.2.2.2.1
  have hh2 := hB.2.2.2.2.2
  have hpl := cG_60 hC.1
  have h53 := cG_153 hC.1
  have hCp := hC.1.2.2.2.2
  have hX0 := hX.1.1
  have hX1 := hX.1.2
  obtain ⟨mo, fo, so⟩ := hY.1.1
  obtain ⟨moD, foD, soD⟩ := hY.1.2
  have hF := F_share K hX.2.1.1 hX.2.1.2.2.1 hw1 hw2 hh1 hh2 hP hX0 hX1 (by omega) (x := x1) (z := z)
  simp only [hisR_pl] at hF
  have hM := fun (z9 : Nat) (σ9 : GS) => M_share K (z := z9) (σ0 := σ9) (sc := sc) (ar := ar) hY.2.1 hB (p := x1)
  refine gHM_mono (W_share K hF hX0 hX1 (o := a + 525) (fun rv z1 L1 σ1 hp => ?_) (fun E z1 L1 σ1 hp => hp.2.2.1)) (fun r z1 L1 σ1 hp => ?_)
  · obtain ⟨⟨p0, h1, e1, e3⟩, e4, e5, e6⟩ := hp
    exact ⟨_, foD, e3, by rw [e5]; exact moD, by rw [e6]; exact soD⟩
  · rcases hp with ⟨v, f, σ3, ⟨⟨p0, h1, e1, e3⟩, e4, e5, e6⟩, so2, e7, e8⟩ | ⟨E, j, ⟨e4, e5, eE, hc, e6⟩, hj, e7⟩
    · refine ⟨0, by omega, e7, ?_⟩
      rw [e4, e5, e8, e6]
      have hX3 := wX_outD (e := dA K 1 (va_up f 0 v)) hX
      have hY3 := wY_outD (f := va_up f 0 v) hY
      have hm := hY3.2.2
      have hM9 := hM z (va_up σ (a + 525) (dA K 1 (va_up f 0 v)))
      rw [← hm] at hM9
      refine ⟨⟨hY.2.1 0 (by omega), mfl (a + 506) sc, by rw [hm]; exact mdl_0⟩, gM_mono hM9 (fun r2 z2 L2 σ9 q => ?_)⟩
      rcases q.2.2 with ⟨n1, n8, n9⟩ | ⟨p1, n1, n3, n8, n9⟩
      · exact absurd (iR (Nat.zero_le _) h1 e1) n1
      · have ep : p0 = p1 := ni (e1.symm.trans n3)
        subst ep
        rw [q.1, q.2.1, n9]
        refine ⟨⟨_, n8, fun _ => ⟨⟨va_up f 0 v, by rw [mdl_out (by omega), va_up_self], by rw [va_up_self, vD e3]⟩, ?_⟩⟩, ?_⟩
        · have g1 := ct_le (fun i => decide (ar 5 i = nI (1 + p0))) (w * h)
          have g2 := ct_le (fun i => decide (ar 5 i = nI (3 + p0))) (w * h)
          exact dv_eq w (by omega) h (by omega) _ (by unfold mny; omega) (by omega) (by omega)
        · exact ⟨hk, w, h, b, ru, pl, x, y, D, wk, h9, bk, ruk, plk, xk, yk, Dk, rk, cd, dt, tn, tx, _, ar, wX_M hX3, wY_M hY3, cAll_q qS_0 qA_r hC, va_up_self _ _ _, hz, haz⟩
    · refine ⟨1, by omega, by rw [e7, hj.2], ?_⟩
      rw [e5, e6]
      have hm := hY.2.2
      have hM9 := hM z1 σ
      rw [← hm] at hM9
      refine ⟨⟨hY.2.1 0 (by omega), mfl (a + 506) sc, by rw [hm]; exact mdl_0⟩, gM_mono hM9 (fun r2 z2 L2 σ9 q => ?_)⟩
      rcases q.2.2 with ⟨n1, n8, n9⟩ | ⟨p1, n1, n3, n8, n9⟩
      · rw [q.1, q.2.1, n9]
        exact ⟨⟨_, n8, fun q9 => absurd q9 (by decide)⟩, hk, w, h, b, ru, pl, x, y, D, wk, h9, bk, ruk, plk, xk, yk, Dk, rk, cd, dt, tn, tx, _, ar, wX_M hX, wY_M hY, cAll_q qS_0 qA_r hC, va_up_self _ _ _, (fun q hq9 => Nat.lt_of_lt_of_le (hz q hq9) e4), Nat.le_trans haz e4⟩
      · exact absurd (iR (Nat.zero_le _) n1 n3) hc
