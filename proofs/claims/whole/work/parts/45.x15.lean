/-! ===== the class: a game's past, and a round more ===== -/
theorem X_waveOf_x : True := trivial
section GS2
variable {K : GK} {L : List Nat} {σ σ1 : GS} {g b b1 n : Nat} {ru ru1 : Int32} {pl pl1 : Nat} {x y x1 y1 : Int32} {D : Nat → RD} {rows : Nat → Nat → Int32}
def rdOf (n : Nat) (c : Nat → Int32) (p : Int64) (u : Nat → Int64) (f : Nat → Int32) : RD := (va_up (va_up c 4 (f 147)) 5 (f 148), p, u, psS n f)
theorem rdOf_M {c : Nat → Int32} {p : Int64} {u : Nat → Int64} {f : Nat → Int32} : psM n (rdOf n c p u f) f := ⟨by simp [rdOf, va_up], by simp [rdOf, va_up], rfl⟩
theorem rnd_4 {a : Nat} {c : Nat → Int32} {p : Int64} {v1 v2 : Int32} : rndO a (va_up (va_up c 4 v1) 5 v2) p = rndO a c p := by simp [rndO, va_up]
theorem gm_set (hG : gmI K L σ g b ru pl x y D) {r : Nat} (hr : r < 60) {d : RD} (hd : rdD K L σ1 (g + 5 + 4 * r) d) (ho : ∀ a, (a < g + 5 + 4 * r ∨ g + 5 + 4 * r + 3 < a) → a ≠ g → σ1 a = σ a) (hg : σ1 g = gmO g b1 ru1 pl1 x1 y1) (hb1 : b1 ∈ L) : gmI K L σ1 g b1 ru1 pl1 x1 y1 (va_up D r d) := by
  obtain ⟨⟨m0, m2, m3, m4, _⟩, s0, s2, s3, s4, hd9⟩ := hG
  refine ⟨⟨m0, m2, m3, m4, hb1⟩, hg, ?_, ?_, ?_, fun i hi => ?_⟩
  · rw [ho _ (by omega) (by omega)]; exact s2
  · rw [ho _ (by omega) (by omega), va_up_ne _ _ (by omega)]; exact s3
  · rw [ho _ (by omega) (by omega), va_up_ne _ _ (by omega)]; exact s4
  · by_cases e : i = r
    · subst e; rw [va_up_self]; exact hd
    · rw [va_up_ne _ _ e]
      obtain ⟨h1, h2, h3, h4, h5⟩ := hd9 i hi
      exact ⟨h1, by rw [ho _ (by omega) (by omega)]; exact h2, by rw [ho _ (by omega) (by omega)]; exact h3, by rw [ho _ (by omega) (by omega)]; exact h4, by rw [ho _ (by omega) (by omega)]; exact h5⟩
theorem rdI_D {a : Nat} {c : Nat → Int32} {p : Int64} {u : Nat → Int64} {f : Nat → Int32} (h : rdI K L σ a n c p u f) : rdD K L σ a (rdOf n c p u f) := ⟨h.1, by rw [h.2.1]; exact rnd_4.symm, by rw [h.2.2.1, psO]; simp [rdOf, va_up], h.2.2.2.1, h.2.2.2.2⟩
theorem gmP_add (hP : gmP n pl D rows) (hpl : pl < 60) {c : Nat → Int32} {p : Int64} {u : Nat → Int64} {f : Nat → Int32} : gmP n (pl + 1) (va_up D pl (rdOf n c p u f)) (va_up rows (pl + 1) f) := by
  obtain ⟨h1, h2, h3⟩ := hP
  refine ⟨by omega, ?_, fun r hr => ?_⟩
  · rw [va_up_ne _ _ (by omega), va_up_ne _ _ (by omega)]; exact h2
  · by_cases e : r = pl
    · subst e; rw [va_up_self, va_up_self]; exact rdOf_M
    · rw [va_up_ne _ _ e, va_up_ne _ _ (by omega)]; exact h3 r (by omega)
end GS2
theorem rdU_g {K : GK} {σ : GS} {a n g : Nat} {c c2 : Nat → Int32} {p : Int64} {u : Nat → Int64} {f : Nat → Int32} {w0 : va_E} (h : g < a ∨ a + 3 < g) : va_up (va_up (rdU K σ a n c p u f) g w0) a (rndO a c2 p) = rdU K (va_up σ g w0) a n c2 p u f := by
  funext b
  by_cases e0 : b = a
  · subst e0; rw [va_up_self, rdU_0]
  · rw [va_up_ne _ _ e0]
    by_cases eg : b = g
    · subst eg; rw [va_up_self, rdU_o (by omega), va_up_self]
    · rw [va_up_ne _ _ eg]
      by_cases e1 : b < a ∨ a + 3 < b
      · rw [rdU_o e1, rdU_o e1, va_up_ne _ _ eg]
      · have h9 : b = a + 1 ∨ b = a + 1 + 1 ∨ b = a + 3 := by omega
        rcases h9 with rfl | rfl | rfl
        · rw [rdU_1, rdU_1]
        · rw [rdU_2, rdU_2]
        · rw [rdU_3, rdU_3]
def gmT (D : Nat → RD) : Prop := ∀ r, r ≤ 60 → (∀ k, 6 ≤ k → (D r).2.2.2 k = 0) ∧ ∀ k, 8 ≤ k → (D r).2.2.1 k = 0
def scC (a b s0 s1 : Int32) (c : Nat → Int32) : Nat → Int32 := va_up (va_up (ccF a b c) 2 s0) 3 s1
/-- the clash's state as the class finds it is the reference's -/
theorem plM_lo {rule : Int32} {n i : Nat} {f g : Nat → Int32} {a b : Int32} (hi : i < 149) : plM rule n f g a b i = plC rule (scF f g n 0) (scF f g n 1) f a b i := by
  rw [plM, plK, va_up_ne _ _ (by omega), va_up_ne _ _ (by omega), va_up_ne _ _ (by omega)]
def ldOK (f : Nat → Int32) (n : Nat) (x y : Int32) : Prop := (ldF f n x y = 0 ↔ scF f (bnO x y) n 0 = scF f (bnO x y) n 1) ∧ (ldF f n x y < 0 ↔ scF f (bnO x y) n 0 < scF f (bnO x y) n 1)
theorem giv_c {n s i : Nat} {v : Int32} {f : Nat → Int32} (hv : chOK n v) (hn : n ≤ 49) (hi : i < n) (hs : s ≠ 0) : givF n v s f i = if v = nI i then nI s else f i := by
  rw [givF]
  by_cases e : v = -1
  · rw [if_pos (Or.inl e), if_neg (by rw [e]; intro q; have := congrArg Int32.toInt q; rw [nI_toInt (by omega)] at this; have h9 : (-1 : Int32).toInt = -1 := rfl; omega)]
  · obtain ⟨j, hj, rfl⟩ := hv.resolve_left e
    rw [if_neg (fun q => q.elim e hs), nI_clamp (by omega), turF]
    by_cases e2 : i = j
    · subst e2; rw [if_pos ⟨hi, by rw [tb_one]; simp; omega⟩, if_pos rfl]
    · rw [if_neg (fun q => e2 (by have := q.2; rw [tb_one, Bool.and_eq_true, decide_eq_true_eq, decide_eq_true_eq] at this; exact this.2)), if_neg (fun q => e2 ((nI_eq (by omega) (by omega)).mp q).symm)]
theorem becC {f : Nat → Int32} {n i : Nat} {v s y : Int32} (hv : chOK n v) (hne : v ≠ -1) (hn : n ≤ 49) (hi : i < n) : becF f v.toNatClampNeg s y i = if v = nI i then s else f i := by
  obtain ⟨j, hj, rfl⟩ := hv.resolve_left hne
  rw [nI_clamp (by omega)]
  by_cases e2 : i = j
  · subst e2; rw [if_pos rfl, becF, va_up_ne _ _ (by omega), va_up_ne _ _ (by omega), va_up_self]
  · rw [becF_at e2 (by omega) (by omega), if_neg (fun q => e2 ((nI_eq (by omega) (by omega)).mp q).symm)]
theorem plP_c {f : Nat → Int32} {n i : Nat} {v s : Int32} (hv : chOK n v) (hn : n ≤ 49) (hi : i < n) : plP f v s i = if v = nI i then s else f i := by
  rw [plP]
  by_cases e : v = -1
  · rw [if_pos e, if_neg (by rw [e]; intro q; have := congrArg Int32.toInt q; rw [nI_toInt (by omega)] at this; have h9 : (-1 : Int32).toInt = -1 := rfl; omega)]
  · rw [if_neg e, becC hv e hn hi]
theorem mkF_plM {ru : Int32} {n i : Nat} {f : Nat → Int32} {x y a b : Int32} (hn : n ≤ 49) (hld : ldOK f n x y) (ha : chOK n a) (hb : chOK n b) (hru : ∃ r0, r0 ≤ 2 ∧ ru = nI r0) (hi : i < n) : mkF n a b (stK ru (ldF f n x y)) f i = plM ru n f (bnO x y) a b i := by
  rw [plM_lo (by omega), plC, mkF]
  by_cases e : a = b
  · subst e
    rw [if_pos rfl]
    by_cases e1 : a = -1
    · rw [if_neg (fun q => q.2 e1), plP, if_pos e1, plP, if_pos e1, givF, if_pos (Or.inl e1)]
    · rw [if_pos ⟨rfl, e1⟩]
      obtain ⟨r0, hr0, rfl⟩ := hru
      have h2 : nI 2 ≠ 0 := by decide
      have h1 : nI 1 ≠ 0 := by decide
      have h21 : nI 2 ≠ nI 1 := by decide
      have h12 : nI 1 ≠ nI 2 := by decide
      have h0 : nI 0 = 0 := by decide
      have h01 : (0 : Int32) ≠ nI 1 := by decide
      have h02 : (0 : Int32) ≠ nI 2 := by decide
      rcases (show r0 = 0 ∨ r0 = 1 ∨ r0 = 2 by omega) with rfl | rfl | rfl
      · rw [h0, if_pos (Or.inl rfl), becC ha e1 hn hi, stK, if_neg h01, if_pos (Or.inl rfl), giv_c ha hn hi (by omega)]
      · rw [if_neg (fun q => q.elim h1 (fun q => h12 q.1)), if_neg h12, stK, if_pos rfl, givF, if_pos (Or.inr rfl)]
      · by_cases e2 : ldF f n x y = 0
        · rw [if_pos (Or.inr ⟨rfl, hld.1.mp e2⟩), becC ha e1 hn hi, stK, if_neg h21, if_pos (Or.inr e2), giv_c ha hn hi (by omega)]
        · rw [if_neg (fun q => q.elim h2 (fun q => e2 (hld.1.mpr q.2))), if_pos rfl, stK, if_neg h21, if_neg (fun q => q.elim h2 e2)]
          by_cases e3 : ldF f n x y < 0
          · rw [if_pos e3, if_pos (hld.2.mp e3), becC ha e1 hn hi, giv_c ha hn hi (by omega)]
          · rw [if_neg e3, if_neg (fun q => e3 (hld.2.mpr q)), becC ha e1 hn hi, giv_c ha hn hi (by omega)]
  · rw [if_neg e, if_neg (fun q => e q.1), plP_c hb hn hi, plP_c ha hn hi, giv_c hb hn hi (by omega), giv_c ha hn hi (by omega)]
theorem plC_hi {rule s0 s1 : Int32} {n i : Nat} {f : Nat → Int32} {a b : Int32} (hn : n ≤ 49) (ha : chOK n a) (hb : chOK n b) (hi : 147 ≤ i) : plC rule s0 s1 f a b i = f i := by
  have hp : ∀ (f : Nat → Int32) (v s : Int32), chOK n v → plP f v s i = f i := fun f v s hv => by
    rw [plP]
    split
    · rfl
    · next hne =>
      obtain ⟨j, hj, rfl⟩ := hv.resolve_left hne
      rw [nI_clamp (by omega)]
      exact becF_at (by omega) (by omega) (by omega)
  rw [plC]
  split
  · next q =>
    obtain ⟨j, hj, rfl⟩ := ha.resolve_left q.2
    rw [nI_clamp (by omega)]
    split
    · exact becF_at (by omega) (by omega) (by omega)
    · split
      · exact becF_at (by omega) (by omega) (by omega)
      · rfl
  · rw [hp _ _ _ hb, hp _ _ _ ha]
theorem plM_hi {ru : Int32} {n i : Nat} {f g : Nat → Int32} {a b : Int32} (hn : n ≤ 49) (ha : chOK n a) (hb : chOK n b) (hi : 147 ≤ i) (hi2 : i < 149) : plM ru n f g a b i = f i := by rw [plM_lo hi2, plC_hi hn ha hb hi]
theorem wv_ct {w h W : Nat} {F : Nat → Int32} (hn : w * h ≤ 49) {k : Nat} (hk : k < W) : ct (tb (wvU w h F W k)) 64 = wnm w h (wit w h F k) := by
  rw [wvU, if_pos hk, ct_64 (n := w * h) (by omega) (fun i hi => by rw [chM, tb_bitsF _ _ (by omega), Bool.and_eq_true, decide_eq_true_eq] at hi; exact hi.1), wnm, wvN]
  exact ct_cong fun i hi => by rw [chM, tb_bitsF _ _ (by omega)]; simp [hi]
theorem cbw_sm {w h W : Nat} {F : Nat → Int32} (hn : w * h ≤ 49) : ∀ k, cbw (wvU w h F W) k = wsm w h F (min k W)
  | 0 => by rw [Nat.zero_min]; rfl
  | k + 1 => by
    rw [cbw, cbw_sm hn k]
    by_cases e : k < W
    · rw [show min k W = k by omega, show min (k + 1) W = k + 1 by omega, wsm, wv_ct hn e]
    · rw [show min k W = W by omega, show min (k + 1) W = W by omega, wvU, if_neg e]
      show wsm w h F W + ct (tb 0) 64 = _
      rw [show ct (tb 0) 64 = 0 from by decide +kernel]; rfl
theorem stK_le {ru d : Int32} : stK ru d ≤ 5 := by rw [stK]; split <;> (try split) <;> (try split) <;> omega

set_option maxRecDepth 20000 in
theorem X_waveOf0 (K : GK) {σ : GS} {L : List Nat} {z : Nat} {g b : Nat} {w h : Nat} {ru : Int32} {pl : Nat} {bo0 bo1 : Int32} {D : Nat → RD} {rows : Nat → Nat → Int32} (hG : gmI K L σ g b ru pl bo0 bo1 D) (hsb : σ b = bdA w h) (hw1 : 4 ≤ w) (hw2 : w ≤ 7) (hh1 : 4 ≤ h) (hh2 : h ≤ 7) (hP : gmP (w * h) pl D rows) {q : Nat} (hq : q < 49) (hrt : rtX D q pl = -1) : gT K yX2_waveThatChanged cX2_waveThatChanged 3 (some .int) 3 [.ref g, .int (nI q)] z L (σ) (some (.int (-1))) (σ) := by
  have hn : w * h ≤ 49 := Nat.mul_le_mul hw2 hh2
  have hn1 : 16 ≤ w * h := Nat.mul_le_mul hw1 hh1
  have hn49 : w * h ≤ 49 := hn
  obtain ⟨m0, m2, m3, m4, hbL⟩ := hG.1
  have s0 := hG.2.1
  have s2 := hG.2.2.1
  have hpl := hP.1
  have hlat := gm_lat hG hP
  refine g_intro [some (.ref g), some (.int (nI q)), none] (fun Γ hC => ?_) (by simp [g_en, lv_args, Value.category])
  refine g_aload_n (n := 1) hC rfl dX2_waveThatChanged_0 ?_
  refine g_iload_n (n := 2) hC rfl dX2_waveThatChanged_1 ?_
  refine g_cV (n := 5) hC gv_X2_136 (m0) (s0) (X_roundOf K hG hsb hw1 hw2 hh1 hh2 hP hq) dX2_waveThatChanged_2 ?_
  refine G.eqi hrt ?_
  refine g_istore_n (n := 6) (ll1 := [some (.ref g), some (.int (nI q)), some (.int (-1))]) hC dX2_waveThatChanged_5 rfl ?_
  refine g_iload_n (n := 7) hC rfl dX2_waveThatChanged_6 ?_
  refine g_if_lt (n := 10) (tgt := 29) hC dX2_waveThatChanged_7 (fun h7 => ?_) (fun h7 => absurd (by decide) h7)
  refine g_iconst (n := 30) (v := (-1)) hC (by decide) dX2_waveThatChanged_29 ?_
  exact g_iret hC dX2_waveThatChanged_30 (⟨by first | rfl | (simp [*]; done), rfl, rfl, rfl⟩)

set_option maxRecDepth 20000 in
theorem X_waveOf1 (K : GK) {σ : GS} {L : List Nat} {z : Nat} {g b : Nat} {w h : Nat} {ru : Int32} {pl : Nat} {bo0 bo1 : Int32} {D : Nat → RD} {rows : Nat → Nat → Int32} (hG : gmI K L σ g b ru pl bo0 bo1 D) (hsb : σ b = bdA w h) (hw1 : 4 ≤ w) (hw2 : w ≤ 7) (hh1 : 4 ≤ h) (hh2 : h ≤ 7) (hP : gmP (w * h) pl D rows) {q : Nat} (hq : q < 49) {r9 : Nat} (hr9 : r9 < pl) (hrt : rtX D q pl = nI r9) : gT K yX2_waveThatChanged cX2_waveThatChanged 3 (some .int) 3 [.ref g, .int (nI q)] z L (σ) (some (.int (lwv (D r9).2.2.1 q 8))) (σ) := by
  have hn : w * h ≤ 49 := Nat.mul_le_mul hw2 hh2
  have hn1 : 16 ≤ w * h := Nat.mul_le_mul hw1 hh1
  have hn49 : w * h ≤ 49 := hn
  obtain ⟨m0, m2, m3, m4, hbL⟩ := hG.1
  have s0 := hG.2.1
  have s2 := hG.2.2.1
  have hpl := hP.1
  have hlat := gm_lat hG hP
  refine g_intro [some (.ref g), some (.int (nI q)), none] (fun Γ hC => ?_) (by simp [g_en, lv_args, Value.category])
  refine g_aload_n (n := 1) hC rfl dX2_waveThatChanged_0 ?_
  refine g_iload_n (n := 2) hC rfl dX2_waveThatChanged_1 ?_
  refine g_cV (n := 5) hC gv_X2_136 (m0) (s0) (X_roundOf K hG hsb hw1 hw2 hh1 hh2 hP hq) dX2_waveThatChanged_2 ?_
  refine G.eqi hrt ?_
  refine g_istore_n (n := 6) (ll1 := [some (.ref g), some (.int (nI q)), some (.int (nI r9))]) hC dX2_waveThatChanged_5 rfl ?_
  refine g_iload_n (n := 7) hC rfl dX2_waveThatChanged_6 ?_
  refine g_if_ltN (n := 10) (tgt := 29) hC (by omega) dX2_waveThatChanged_7 (fun h7 => h7.elim) (fun h7 => ?_)
  refine g_iload_n (n := 11) hC rfl dX2_waveThatChanged_10 ?_
  refine g_bipush (n := 13) (v := (nI 60)) hC (by decide) dX2_waveThatChanged_11 ?_
  refine g_icmp_geN (n := 16) (tgt := 29) hC (by omega) (by omega) dX2_waveThatChanged_13 (fun h13 => absurd h13 (by omega)) (fun h13 => ?_)
  refine g_aload_n (n := 17) hC rfl dX2_waveThatChanged_16 ?_
  refine g_getf (n := 20) (v := .ref (g + 2)) hC gf_X2_26 (m0) (s0) rfl dX2_waveThatChanged_17 ?_
  refine g_iload_n (n := 21) hC rfl dX2_waveThatChanged_20 ?_
  refine g_aald (n := 22) (j := r9) (v := (g + 5 + 4 * r9)) hC (m2) (s2) (rfl) (by omega) (by decide) (rds_at (by omega)) dX2_waveThatChanged_21 ?_
  refine g_iload_n (n := 23) hC rfl dX2_waveThatChanged_22 ?_
  have hri1 := gm_rdI hG hP (r := r9) (by omega)
  refine g_cV (n := 26) hC gv_X2_139 (hri1.1.1) (hri1.2.1) (X_rwaveOf K hri1 hn49 hq) dX2_waveThatChanged_23 ?_
  refine g_goto (n := 30) hC dX2_waveThatChanged_26 ?_
  exact g_iret hC dX2_waveThatChanged_30 (⟨by first | rfl | (simp [*]; done), rfl, rfl, rfl⟩)

theorem X_waveOf (K : GK) {σ : GS} {L : List Nat} {z : Nat} {g b : Nat} {w h : Nat} {ru : Int32} {pl : Nat} {bo0 bo1 : Int32} {D : Nat → RD} {rows : Nat → Nat → Int32} (hG : gmI K L σ g b ru pl bo0 bo1 D) (hsb : σ b = bdA w h) (hw1 : 4 ≤ w) (hw2 : w ≤ 7) (hh1 : 4 ≤ h) (hh2 : h ≤ 7) (hP : gmP (w * h) pl D rows) {q : Nat} (hq : q < 49) : gT K yX2_waveThatChanged cX2_waveThatChanged 3 (some .int) 3 [.ref g, .int (nI q)] z L (σ) (some (.int (wtX D q pl))) (σ) := by
  rcases rtX_c D q pl with ⟨h1, h2⟩ | ⟨r9, h0, h1, h2⟩
  · rw [h2]; exact X_waveOf0 K hG hsb hw1 hw2 hh1 hh2 hP hq h1
  · rw [h2]; exact X_waveOf1 K hG hsb hw1 hw2 hh1 hh2 hP hq h0 h1

set_option maxRecDepth 20000 in
theorem X_turning (K : GK) {σ : GS} {L : List Nat} {z : Nat} {g b : Nat} {w h : Nat} {ru : Int32} {pl : Nat} {bo0 bo1 : Int32} {D : Nat → RD} {rows : Nat → Nat → Int32} (hG : gmI K L σ g b ru pl bo0 bo1 D) (hsb : σ b = bdA w h) (hw1 : 4 ≤ w) (hw2 : w ≤ 7) (hh1 : 4 ≤ h) (hh2 : h ≤ 7) (hP : gmP (w * h) pl D rows) {info : Nat → Int32} (hinf : ∀ r, r < pl → info (7 * r + 5) = (D r).1 2 ∧ info (7 * r + 6) = (D r).1 3) (habs : ∀ r, r < pl → (if 0 ≤ tpI info r - tpW info (bo0 - bo1) r then tpI info r - tpW info (bo0 - bo1) r else 0 - (tpI info r - tpW info (bo0 - bo1) r)) = tpD info (bo0 - bo1) r) : gT K yX2_roundOfGreatestChange cX2_roundOfGreatestChange 7 (some .int) 1 [.ref g] z L (σ) (some (.int (nI (tpB info (bo0 - bo1) pl)))) (σ) := by
  have hn : w * h ≤ 49 := Nat.mul_le_mul hw2 hh2
  have hn1 : 16 ≤ w * h := Nat.mul_le_mul hw1 hh1
  have hn49 : w * h ≤ 49 := hn
  obtain ⟨m0, m2, m3, m4, hbL⟩ := hG.1
  have s0 := hG.2.1
  have s2 := hG.2.2.1
  have hpl := hP.1
  have hlat := gm_lat hG hP
  refine g_intro [some (.ref g), none, none, none, none, none, none] (fun Γ hC => ?_) (by simp [g_en, lv_args, Value.category])
  refine g_iconst (n := 1) (v := (nI 0)) hC (by decide) dX2_roundOfGreatestChange_0 ?_
  refine g_istore_n (n := 2) (ll1 := [some (.ref g), some (.int (nI 0)), none, none, none, none, none]) hC dX2_roundOfGreatestChange_1 rfl ?_
  refine g_iconst (n := 3) (v := (-1)) hC (by decide) dX2_roundOfGreatestChange_2 ?_
  refine g_istore_n (n := 4) (ll1 := [some (.ref g), some (.int (nI 0)), some (.int (-1)), none, none, none, none]) hC dX2_roundOfGreatestChange_3 rfl ?_
  refine g_aload_n (n := 5) hC rfl dX2_roundOfGreatestChange_4 ?_
  refine g_getf (n := 8) (v := .int bo0) hC gf_X2_63 (m0) (s0) rfl dX2_roundOfGreatestChange_5 ?_
  refine g_aload_n (n := 9) hC rfl dX2_roundOfGreatestChange_8 ?_
  refine g_getf (n := 12) (v := .int bo1) hC gf_X2_66 (m0) (s0) rfl dX2_roundOfGreatestChange_9 ?_
  refine g_isub (n := 13) hC dX2_roundOfGreatestChange_12 ?_
  refine g_istore_n (n := 14) (ll1 := [some (.ref g), some (.int (nI 0)), some (.int (-1)), some (.int (bo0 - bo1)), none, none, none]) hC dX2_roundOfGreatestChange_13 rfl ?_
  refine g_iconst (n := 15) (v := (nI 0)) hC (by decide) dX2_roundOfGreatestChange_14 ?_
  refine g_istore (n := 17) (ll1 := [some (.ref g), some (.int (nI 0)), some (.int (-1)), some (.int (bo0 - bo1)), some (.int (nI 0)), none, none]) hC dX2_roundOfGreatestChange_15 rfl ?_
  have lp17 : ∀ (n9 : Nat) (i : Nat) (hi : i ≤ pl) (y1 : Int32) (ey1 : y1 = (nI (tpB info (bo0 - bo1) i))) (y2 : Int32) (ey2 : y2 = (tpM info (bo0 - bo1) i)) (y3 : Int32) (ey3 : y3 = (tpW info (bo0 - bo1) i)) (y4 : Int32) (ey4 : y4 = (nI i)) (hm9 : pl - i < n9), G K Γ (z, 0, 0, L) (σ) 17 [some (.ref g), some (.int y1), some (.int y2), some (.int y3), some (.int y4), none, none] [] := by
    intro n9
    induction n9 with
    | zero =>
      intro i hi y1 ey1 y2 ey2 y3 ey3 y4 ey4 hm9
      exact absurd hm9 (Nat.not_lt_zero _)
    | succ n9 ih17 =>
      intro i hi y1 ey1 y2 ey2 y3 ey3 y4 ey4 hm9
      subst ey1
      subst ey2
      subst ey3
      subst ey4
      refine g_iload (n := 19) hC rfl dX2_roundOfGreatestChange_17 ?_
      refine g_aload_n (n := 20) hC rfl dX2_roundOfGreatestChange_19 ?_
      refine g_getf (n := 23) (v := .int (nI pl)) hC gf_X2_60 (m0) (s0) rfl dX2_roundOfGreatestChange_20 ?_
      refine g_icmp_geN (n := 26) (tgt := 86) hC (by omega) (by omega) dX2_roundOfGreatestChange_23 (fun h23 => ?_) (fun h23 => ?_)
      ·
        refine g_iload_n (n := 87) hC rfl dX2_roundOfGreatestChange_86 ?_
        exact g_iret hC dX2_roundOfGreatestChange_87 (⟨rI (by rw [show i = pl by omega]), rfl, rfl, rfl⟩)
      ·
        refine g_iload (n := 28) hC rfl dX2_roundOfGreatestChange_26 ?_
        refine g_bipush (n := 30) (v := (nI 60)) hC (by decide) dX2_roundOfGreatestChange_28 ?_
        refine g_icmp_geN (n := 33) (tgt := 86) hC (by omega) (by omega) dX2_roundOfGreatestChange_30 (fun h30 => absurd h30 (by omega)) (fun h30 => ?_)
        have hri1 := gm_rdI hG hP (r := i) (by omega)
        refine g_aload_n (n := 34) hC rfl dX2_roundOfGreatestChange_33 ?_
        refine g_getf (n := 37) (v := .ref (g + 2)) hC gf_X2_26 (m0) (s0) rfl dX2_roundOfGreatestChange_34 ?_
        refine g_iload (n := 39) hC rfl dX2_roundOfGreatestChange_37 ?_
        refine g_aald (n := 40) (j := i) (v := (g + 5 + 4 * i)) hC (m2) (s2) (rfl) (by omega) (by decide) (rds_at (by omega)) dX2_roundOfGreatestChange_39 ?_
        refine g_getf (n := 43) (v := .int ((D i).1 2)) hC gf_X2_114 (hri1.1.1) (hri1.2.1) rfl dX2_roundOfGreatestChange_40 ?_
        refine g_aload_n (n := 44) hC rfl dX2_roundOfGreatestChange_43 ?_
        refine g_getf (n := 47) (v := .ref (g + 2)) hC gf_X2_26 (m0) (s0) rfl dX2_roundOfGreatestChange_44 ?_
        refine g_iload (n := 49) hC rfl dX2_roundOfGreatestChange_47 ?_
        refine g_aald (n := 50) (j := i) (v := (g + 5 + 4 * i)) hC (m2) (s2) (rfl) (by omega) (by decide) (rds_at (by omega)) dX2_roundOfGreatestChange_49 ?_
        refine g_getf (n := 53) (v := .int ((D i).1 3)) hC gf_X2_117 (hri1.1.1) (hri1.2.1) rfl dX2_roundOfGreatestChange_50 ?_
        refine g_isub (n := 54) hC dX2_roundOfGreatestChange_53 ?_
        refine G.eqi (show _ = tpI info i from by rw [tpI, (hinf i (by omega)).1, (hinf i (by omega)).2]) ?_
        refine g_istore (n := 56) (ll1 := [some (.ref g), some (.int (nI (tpB info (bo0 - bo1) i))), some (.int (tpM info (bo0 - bo1) i)), some (.int (tpW info (bo0 - bo1) i)), some (.int (nI i)), some (.int (tpI info i)), none]) hC dX2_roundOfGreatestChange_54 rfl ?_
        refine g_iload (n := 58) hC rfl dX2_roundOfGreatestChange_56 ?_
        refine g_iload_n (n := 59) hC rfl dX2_roundOfGreatestChange_58 ?_
        refine g_isub (n := 60) hC dX2_roundOfGreatestChange_59 ?_
        refine g_mabs (n := 63) hC (by exact gmem (i := 818) (by decide +kernel) (by decide +kernel)) dX2_roundOfGreatestChange_60 ?_
        refine G.eqi (habs i (by omega)) ?_
        refine g_istore (n := 65) (ll1 := [some (.ref g), some (.int (nI (tpB info (bo0 - bo1) i))), some (.int (tpM info (bo0 - bo1) i)), some (.int (tpW info (bo0 - bo1) i)), some (.int (nI i)), some (.int (tpI info i)), some (.int (tpD info (bo0 - bo1) i))]) hC dX2_roundOfGreatestChange_63 rfl ?_
        refine g_iload (n := 67) hC rfl dX2_roundOfGreatestChange_65 ?_
        refine g_iload_n (n := 68) hC rfl dX2_roundOfGreatestChange_67 ?_
        refine g_icmp_le (n := 71) (tgt := 77) hC dX2_roundOfGreatestChange_68 (fun h68 => ?_) (fun h68 => ?_)
        ·
          refine g_iload (n := 79) hC rfl dX2_roundOfGreatestChange_77 ?_
          refine g_istore_n (n := 80) (ll1 := [some (.ref g), some (.int (nI (tpB info (bo0 - bo1) i))), some (.int (tpM info (bo0 - bo1) i)), some (.int (tpI info i)), some (.int (nI i)), some (.int (tpI info i)), some (.int (tpD info (bo0 - bo1) i))]) hC dX2_roundOfGreatestChange_79 rfl ?_
          refine g_iinc (n := 83) (ll1 := [some (.ref g), some (.int (nI (tpB info (bo0 - bo1) i))), some (.int (tpM info (bo0 - bo1) i)), some (.int (tpI info i)), some (.int (nI (i + 1))), some (.int (tpI info i)), some (.int (tpD info (bo0 - bo1) i))]) hC dX2_roundOfGreatestChange_80 rfl (nI_inc _) rfl ?_
          refine g_goto (n := 17) hC dX2_roundOfGreatestChange_83 ?_
          exact G.le (ih17 (i + 1) (by omega) _ (congrArg nI (if_neg (Int32.not_lt.mpr h68)).symm) _ ((if_neg (Int32.not_lt.mpr h68)).symm) _ (rfl) _ (by first | rfl | (simp [*]; done)) (by omega)) (And.intro rfl (And.intro rfl (And.intro rfl (And.intro rfl (And.intro rfl (trivial))))))
        ·
          refine g_iload (n := 73) hC rfl dX2_roundOfGreatestChange_71 ?_
          refine g_istore_n (n := 74) (ll1 := [some (.ref g), some (.int (nI (tpB info (bo0 - bo1) i))), some (.int (tpD info (bo0 - bo1) i)), some (.int (tpW info (bo0 - bo1) i)), some (.int (nI i)), some (.int (tpI info i)), some (.int (tpD info (bo0 - bo1) i))]) hC dX2_roundOfGreatestChange_73 rfl ?_
          refine g_iload (n := 76) hC rfl dX2_roundOfGreatestChange_74 ?_
          refine g_istore_n (n := 77) (ll1 := [some (.ref g), some (.int (nI i)), some (.int (tpD info (bo0 - bo1) i)), some (.int (tpW info (bo0 - bo1) i)), some (.int (nI i)), some (.int (tpI info i)), some (.int (tpD info (bo0 - bo1) i))]) hC dX2_roundOfGreatestChange_76 rfl ?_
          refine g_iload (n := 79) hC rfl dX2_roundOfGreatestChange_77 ?_
          refine g_istore_n (n := 80) (ll1 := [some (.ref g), some (.int (nI i)), some (.int (tpD info (bo0 - bo1) i)), some (.int (tpI info i)), some (.int (nI i)), some (.int (tpI info i)), some (.int (tpD info (bo0 - bo1) i))]) hC dX2_roundOfGreatestChange_79 rfl ?_
          refine g_iinc (n := 83) (ll1 := [some (.ref g), some (.int (nI i)), some (.int (tpD info (bo0 - bo1) i)), some (.int (tpI info i)), some (.int (nI (i + 1))), some (.int (tpI info i)), some (.int (tpD info (bo0 - bo1) i))]) hC dX2_roundOfGreatestChange_80 rfl (nI_inc _) rfl ?_
          refine g_goto (n := 17) hC dX2_roundOfGreatestChange_83 ?_
          exact G.le (ih17 (i + 1) (by omega) _ (congrArg nI (if_pos (Int32.not_le.mp h68)).symm) _ ((if_pos (Int32.not_le.mp h68)).symm) _ (rfl) _ (by first | rfl | (simp [*]; done)) (by omega)) (And.intro rfl (And.intro rfl (And.intro rfl (And.intro rfl (And.intro rfl (trivial))))))
  exact lp17 _ 0 (by omega) _ (rfl) _ (rfl) _ (rfl) _ (by first | rfl | (simp [*]; done)) (Nat.lt_succ_self _)

set_option maxRecDepth 20000 in
set_option maxHeartbeats 2000000 in
theorem X_addRound (K : GK) {σ : GS} {L : List Nat} {z : Nat} {g b : Nat} {w h : Nat} {ru : Int32} {pl : Nat} {bo0 bo1 : Int32} {D : Nat → RD} {rows : Nat → Nat → Int32} (hG : gmI K L σ g b ru pl bo0 bo1 D) (hsb : σ b = bdA w h) (hw1 : 4 ≤ w) (hw2 : w ≤ 7) (hh1 : 4 ≤ h) (hh2 : h ≤ 7) (hP : gmP (w * h) pl D rows) (hT : gmT D) (hp60 : pl < 60) (hbo : b < g ∨ b = g + 1 ∨ g + 245 ≤ b) {a9 b9 : Int32} (ha9 : chOK (w * h) a9) (hb9 : chOK (w * h) b9) (hru : ∃ r0, r0 ≤ 2 ∧ ru = nI r0) (hld : ldOK (rows pl) (w * h) bo0 bo1) : gT K yX2_addRound cX2_addRound 5 (some .int) 5 [.ref g, .int a9, .int b9] z L (σ) (some (.int (nI (goU w h ru (rows pl) (bnO bo0 bo1) a9 b9)))) (rdU K (va_up σ g (gmO g b ru (pl + 1) bo0 bo1)) (g + 5 + 4 * pl) (w * h) (scC a9 b9 (scF (plV w h ru (rows pl) (bnO bo0 bo1) a9 b9) (bnO bo0 bo1) (w * h) 0) (scF (plV w h ru (rows pl) (bnO bo0 bo1) a9 b9) (bnO bo0 bo1) (w * h) 1) (D pl).1) (mkX a9 b9 (stK ru (ldF (rows pl) (w * h) bo0 bo1))) (wvU w h (plM ru (w * h) (rows pl) (bnO bo0 bo1) a9 b9) (goW w h ru (rows pl) (bnO bo0 bo1) a9 b9)) (plV w h ru (rows pl) (bnO bo0 bo1) a9 b9)) := by
  have hn : w * h ≤ 49 := Nat.mul_le_mul hw2 hh2
  have hn1 : 16 ≤ w * h := Nat.mul_le_mul hw1 hh1
  have hn49 : w * h ≤ 49 := hn
  obtain ⟨m0, m2, m3, m4, hbL⟩ := hG.1
  have s0 := hG.2.1
  have s2 := hG.2.2.1
  have hpl := hP.1
  have hlat := gm_lat hG hP
  refine g_intro [some (.ref g), some (.int a9), some (.int b9), none, none] (fun Γ hC => ?_) (by simp [g_en, lv_args, Value.category])
  refine g_aload_n (n := 1) hC rfl dX2_addRound_0 ?_
  refine g_getf (n := 4) (v := .int (nI pl)) hC gf_X2_60 (m0) (s0) rfl dX2_addRound_1 ?_
  refine g_if_ltN (n := 7) (tgt := 16) hC (by omega) dX2_addRound_4 (fun h4 => h4.elim) (fun h4 => ?_)
  refine g_aload_n (n := 8) hC rfl dX2_addRound_7 ?_
  refine g_getf (n := 11) (v := .int (nI pl)) hC gf_X2_60 (m0) (s0) rfl dX2_addRound_8 ?_
  refine g_bipush (n := 13) (v := (nI 60)) hC (by decide) dX2_addRound_11 ?_
  refine g_icmp_ltN (n := 16) (tgt := 18) hC (by omega) (by omega) dX2_addRound_13 (fun h13 => ?_) (fun h13 => absurd hp60 (by omega))
  refine g_aload_n (n := 19) hC rfl dX2_addRound_18 ?_
  refine g_getf (n := 22) (v := .ref (g + 2)) hC gf_X2_26 (m0) (s0) rfl dX2_addRound_19 ?_
  refine g_aload_n (n := 23) hC rfl dX2_addRound_22 ?_
  refine g_getf (n := 26) (v := .int (nI pl)) hC gf_X2_60 (m0) (s0) rfl dX2_addRound_23 ?_
  refine g_aald (n := 27) (j := pl) (v := (g + 5 + 4 * pl)) hC (m2) (s2) (rfl) (by omega) (by decide) (rds_at (by omega)) dX2_addRound_26 ?_
  have hrd := gm_rd hG (r := pl) hp60
  have htl := hT pl (by omega)
  refine g_astore_n (n := 28) (ll1 := [some (.ref g), some (.int a9), some (.int b9), some (.ref (g + 5 + 4 * pl)), none]) hC dX2_addRound_27 rfl ?_
  refine g_aload_n (n := 29) hC rfl dX2_addRound_28 ?_
  refine g_cV (n := 32) hC gv_X2_87 (m0) (s0) (X_latest K hG hsb hw1 hw2 hh1 hh2 hP) dX2_addRound_29 ?_
  refine g_astore (n := 34) (ll1 := [some (.ref g), some (.int a9), some (.int b9), some (.ref (g + 5 + 4 * pl)), some (.ref (latA g pl))]) hC dX2_addRound_32 rfl ?_
  refine g_aload_n (n := 35) hC rfl dX2_addRound_34 ?_
  refine g_aload_n (n := 36) hC rfl dX2_addRound_35 ?_
  refine g_getf (n := 39) (v := .ref b) hC gf_X2_14 (m0) (s0) rfl dX2_addRound_36 ?_
  refine g_aload (n := 41) hC rfl dX2_addRound_39 ?_
  refine g_iload_n (n := 42) hC rfl dX2_addRound_41 ?_
  refine g_iload_n (n := 43) hC rfl dX2_addRound_42 ?_
  refine g_aload_n (n := 44) hC rfl dX2_addRound_43 ?_
  refine g_aload (n := 46) hC rfl dX2_addRound_44 ?_
  refine g_cV (n := 49) hC gv_X2_104 (m0) (s0) (X_stateAfter K hG hsb hw1 hw2 hh1 hh2 hP hlat.1 hlat.2.1 hlat.2.2.1 hlat.2.2.2) dX2_addRound_46 ?_
  have hlp : latA g pl + 1 < g + 5 + 4 * pl := by rw [latA]; split <;> omega
  refine g_cVv (n := 52) hC gv_X2_107 (hrd.1.1) (hrd.2.1) (X_make K hbL hsb hw1 hw2 hh1 hh2 hrd.1 hrd.2.1 hrd.2.2.1 hrd.2.2.2.1 hrd.2.2.2.2 htl.1 htl.2 hlat.1 hlat.2.1 hlat.2.2.1 hlat.2.2.2 (Or.inl hlp) (by omega) (x := a9) (y := b9) (s := (stK ru (ldF (rows pl) (w * h) bo0 bo1))) ha9 hb9 stK_le (F := (plM ru (w * h) (rows pl) (bnO bo0 bo1) a9 b9)) (fun i hi => mkF_plM hn49 hld ha9 hb9 hru hi) (plM_hi hn49 ha9 hb9 (by omega) (by omega)).symm (plM_hi hn49 ha9 hb9 (by omega) (by omega)).symm (W := (goW w h ru (rows pl) (bnO bo0 bo1) a9 b9)) (wC_ok _ _ _)) dX2_addRound_49 ?_
  refine G.eqs (show _ = rdU K σ (g + 5 + 4 * pl) (w * h) (ccF a9 b9 (D pl).1) (mkX a9 b9 (stK ru (ldF (rows pl) (w * h) bo0 bo1))) (wvU w h (plM ru (w * h) (rows pl) (bnO bo0 bo1) a9 b9) (goW w h ru (rows pl) (bnO bo0 bo1) a9 b9)) (plV w h ru (rows pl) (bnO bo0 bo1) a9 b9) from rdU_cong (fun i hi => (plV_lo hn49 (by omega)).symm) (plV_lo hn49 (by omega)).symm (plV_lo hn49 (by omega)).symm) ?_
  refine g_aload_n (n := 53) hC rfl dX2_addRound_52 ?_
  refine g_dup (n := 54) hC rfl dX2_addRound_53 ?_
  refine g_getf (n := 57) (v := .int (nI pl)) hC gf_X2_60 (m0) (((rdU_o (by omega)).trans s0)) rfl dX2_addRound_54 ?_
  refine g_iconst (n := 58) (v := (nI 1)) hC (by decide) dX2_addRound_57 ?_
  refine g_iaddN (n := 59) hC dX2_addRound_58 ?_
  refine g_putf (n := 62) hC gp_X2_60 (m0) (((rdU_o (by omega)).trans s0)) dX2_addRound_59 ?_
  refine G.eqs (show _ = va_up (rdU K σ (g + 5 + 4 * pl) (w * h) (ccF a9 b9 (D pl).1) (mkX a9 b9 (stK ru (ldF (rows pl) (w * h) bo0 bo1))) (wvU w h (plM ru (w * h) (rows pl) (bnO bo0 bo1) a9 b9) (goW w h ru (rows pl) (bnO bo0 bo1) a9 b9)) (plV w h ru (rows pl) (bnO bo0 bo1) a9 b9)) g (.inr (2, [.ref b, .int ru, .int (nI (pl + 1)), .ref (g + 2), .ref (g + 3), .int bo0, .int bo1])) from rfl) ?_
  have hri1 : rdI K L (rdU K σ (g + 5 + 4 * pl) (w * h) (ccF a9 b9 (D pl).1) (mkX a9 b9 (stK ru (ldF (rows pl) (w * h) bo0 bo1))) (wvU w h (plM ru (w * h) (rows pl) (bnO bo0 bo1) a9 b9) (goW w h ru (rows pl) (bnO bo0 bo1) a9 b9)) (plV w h ru (rows pl) (bnO bo0 bo1) a9 b9)) (g + 5 + 4 * pl) (w * h) (ccF a9 b9 (D pl).1) (mkX a9 b9 (stK ru (ldF (rows pl) (w * h) bo0 bo1))) (wvU w h (plM ru (w * h) (rows pl) (bnO bo0 bo1) a9 b9) (goW w h ru (rows pl) (bnO bo0 bo1) a9 b9)) (plV w h ru (rows pl) (bnO bo0 bo1) a9 b9) := rdU_I hrd.1
  have hG1 : gmI K L (va_up (rdU K σ (g + 5 + 4 * pl) (w * h) (ccF a9 b9 (D pl).1) (mkX a9 b9 (stK ru (ldF (rows pl) (w * h) bo0 bo1))) (wvU w h (plM ru (w * h) (rows pl) (bnO bo0 bo1) a9 b9) (goW w h ru (rows pl) (bnO bo0 bo1) a9 b9)) (plV w h ru (rows pl) (bnO bo0 bo1) a9 b9)) g (gmO g b ru (pl + 1) bo0 bo1)) g b ru (pl + 1) bo0 bo1 (va_up D pl (rdOf (w * h) (ccF a9 b9 (D pl).1) (mkX a9 b9 (stK ru (ldF (rows pl) (w * h) bo0 bo1))) (wvU w h (plM ru (w * h) (rows pl) (bnO bo0 bo1) a9 b9) (goW w h ru (rows pl) (bnO bo0 bo1) a9 b9)) (plV w h ru (rows pl) (bnO bo0 bo1) a9 b9))) := gm_set hG hp60 (rdI_D ⟨hrd.1, by rw [va_up_ne _ _ (by omega)]; exact hri1.2.1, by rw [va_up_ne _ _ (by omega)]; exact hri1.2.2.1, by rw [va_up_ne _ _ (by omega)]; exact hri1.2.2.2.1, by rw [va_up_ne _ _ (by omega)]; exact hri1.2.2.2.2⟩) (fun c9 hc1 hc2 => by rw [va_up_ne _ _ hc2]; exact rdU_o hc1) (va_up_self _ _ _) hbL
  have hsb1 : (va_up (rdU K σ (g + 5 + 4 * pl) (w * h) (ccF a9 b9 (D pl).1) (mkX a9 b9 (stK ru (ldF (rows pl) (w * h) bo0 bo1))) (wvU w h (plM ru (w * h) (rows pl) (bnO bo0 bo1) a9 b9) (goW w h ru (rows pl) (bnO bo0 bo1) a9 b9)) (plV w h ru (rows pl) (bnO bo0 bo1) a9 b9)) g (gmO g b ru (pl + 1) bo0 bo1)) b = bdA w h := by rw [va_up_ne _ _ (by omega), rdU_o (by omega)]; exact hsb
  have hP1 := gmP_add hP hp60 (c := ccF a9 b9 (D pl).1) (p := (mkX a9 b9 (stK ru (ldF (rows pl) (w * h) bo0 bo1)))) (u := (wvU w h (plM ru (w * h) (rows pl) (bnO bo0 bo1) a9 b9) (goW w h ru (rows pl) (bnO bo0 bo1) a9 b9))) (f := (plV w h ru (rows pl) (bnO bo0 bo1) a9 b9))
  have hrw : (va_up rows (pl + 1) (plV w h ru (rows pl) (bnO bo0 bo1) a9 b9)) (pl + 1) = (plV w h ru (rows pl) (bnO bo0 bo1) a9 b9) := va_up_self _ _ _
  refine g_aload_n (n := 63) hC rfl dX2_addRound_62 ?_
  refine g_aload_n (n := 64) hC rfl dX2_addRound_63 ?_
  refine g_iconst (n := 65) (v := (nI 0)) hC (by decide) dX2_addRound_64 ?_
  refine g_cV (n := 68) hC gv_X2_111 (m0) (va_up_self _ _ _) (X_score K hG1 hsb1 hw1 hw2 hh1 hh2 hP1 (p := 0) (by omega)) dX2_addRound_65 ?_
  refine G.eqi (show _ = (scF (plV w h ru (rows pl) (bnO bo0 bo1) a9 b9) (bnO bo0 bo1) (w * h) 0) from by rw [hrw]) ?_
  refine g_putf (n := 71) hC gp_X2_114 (hrd.1.1) ((va_up_ne _ _ (by omega)).trans (rdU_0)) dX2_addRound_68 ?_
  refine G.eqs (show _ = va_up (va_up (rdU K σ (g + 5 + 4 * pl) (w * h) (ccF a9 b9 (D pl).1) (mkX a9 b9 (stK ru (ldF (rows pl) (w * h) bo0 bo1))) (wvU w h (plM ru (w * h) (rows pl) (bnO bo0 bo1) a9 b9) (goW w h ru (rows pl) (bnO bo0 bo1) a9 b9)) (plV w h ru (rows pl) (bnO bo0 bo1) a9 b9)) g (.inr (2, [.ref b, .int ru, .int (nI (pl + 1)), .ref (g + 2), .ref (g + 3), .int bo0, .int bo1]))) (g + 5 + 4 * pl) (.inr (6, [.int a9, .int b9, .int (scF (plV w h ru (rows pl) (bnO bo0 bo1) a9 b9) (bnO bo0 bo1) (w * h) 0), .int ((D pl).1 3), .ref (g + 5 + 4 * pl + 1), .long (mkX a9 b9 (stK ru (ldF (rows pl) (w * h) bo0 bo1))), .ref (g + 5 + 4 * pl + 3)])) from rfl) ?_
  refine G.eqs (show _ = va_up (va_up (rdU K σ (g + 5 + 4 * pl) (w * h) (ccF a9 b9 (D pl).1) (mkX a9 b9 (stK ru (ldF (rows pl) (w * h) bo0 bo1))) (wvU w h (plM ru (w * h) (rows pl) (bnO bo0 bo1) a9 b9) (goW w h ru (rows pl) (bnO bo0 bo1) a9 b9)) (plV w h ru (rows pl) (bnO bo0 bo1) a9 b9)) g (gmO g b ru (pl + 1) bo0 bo1)) (g + 5 + 4 * pl) (rndO (g + 5 + 4 * pl) (va_up (ccF a9 b9 (D pl).1) 2 (scF (plV w h ru (rows pl) (bnO bo0 bo1) a9 b9) (bnO bo0 bo1) (w * h) 0)) (mkX a9 b9 (stK ru (ldF (rows pl) (w * h) bo0 bo1)))) from by congr 1) ?_
  have hG2 : gmI K L (va_up (va_up (rdU K σ (g + 5 + 4 * pl) (w * h) (ccF a9 b9 (D pl).1) (mkX a9 b9 (stK ru (ldF (rows pl) (w * h) bo0 bo1))) (wvU w h (plM ru (w * h) (rows pl) (bnO bo0 bo1) a9 b9) (goW w h ru (rows pl) (bnO bo0 bo1) a9 b9)) (plV w h ru (rows pl) (bnO bo0 bo1) a9 b9)) g (gmO g b ru (pl + 1) bo0 bo1)) (g + 5 + 4 * pl) (rndO (g + 5 + 4 * pl) (va_up (ccF a9 b9 (D pl).1) 2 (scF (plV w h ru (rows pl) (bnO bo0 bo1) a9 b9) (bnO bo0 bo1) (w * h) 0)) (mkX a9 b9 (stK ru (ldF (rows pl) (w * h) bo0 bo1))))) g b ru (pl + 1) bo0 bo1 (va_up (va_up D pl (rdOf (w * h) (ccF a9 b9 (D pl).1) (mkX a9 b9 (stK ru (ldF (rows pl) (w * h) bo0 bo1))) (wvU w h (plM ru (w * h) (rows pl) (bnO bo0 bo1) a9 b9) (goW w h ru (rows pl) (bnO bo0 bo1) a9 b9)) (plV w h ru (rows pl) (bnO bo0 bo1) a9 b9))) pl (rdOf (w * h) (va_up (ccF a9 b9 (D pl).1) 2 (scF (plV w h ru (rows pl) (bnO bo0 bo1) a9 b9) (bnO bo0 bo1) (w * h) 0)) (mkX a9 b9 (stK ru (ldF (rows pl) (w * h) bo0 bo1))) (wvU w h (plM ru (w * h) (rows pl) (bnO bo0 bo1) a9 b9) (goW w h ru (rows pl) (bnO bo0 bo1) a9 b9)) (plV w h ru (rows pl) (bnO bo0 bo1) a9 b9))) := gm_set hG1 hp60 (rdI_D ⟨hrd.1, va_up_self _ _ _, by rw [va_up_ne _ _ (by omega), va_up_ne _ _ (by omega)]; exact hri1.2.2.1, by rw [va_up_ne _ _ (by omega), va_up_ne _ _ (by omega)]; exact hri1.2.2.2.1, by rw [va_up_ne _ _ (by omega), va_up_ne _ _ (by omega)]; exact hri1.2.2.2.2⟩) (fun c9 hc1 hc2 => va_up_ne _ _ (by omega)) (by rw [va_up_ne _ _ (by omega), va_up_self]) hbL
  have hsb2 : (va_up (va_up (rdU K σ (g + 5 + 4 * pl) (w * h) (ccF a9 b9 (D pl).1) (mkX a9 b9 (stK ru (ldF (rows pl) (w * h) bo0 bo1))) (wvU w h (plM ru (w * h) (rows pl) (bnO bo0 bo1) a9 b9) (goW w h ru (rows pl) (bnO bo0 bo1) a9 b9)) (plV w h ru (rows pl) (bnO bo0 bo1) a9 b9)) g (gmO g b ru (pl + 1) bo0 bo1)) (g + 5 + 4 * pl) (rndO (g + 5 + 4 * pl) (va_up (ccF a9 b9 (D pl).1) 2 (scF (plV w h ru (rows pl) (bnO bo0 bo1) a9 b9) (bnO bo0 bo1) (w * h) 0)) (mkX a9 b9 (stK ru (ldF (rows pl) (w * h) bo0 bo1))))) b = bdA w h := by rw [va_up_ne _ _ (by omega)]; exact hsb1
  have hP2 : gmP (w * h) (pl + 1) (va_up (va_up D pl (rdOf (w * h) (ccF a9 b9 (D pl).1) (mkX a9 b9 (stK ru (ldF (rows pl) (w * h) bo0 bo1))) (wvU w h (plM ru (w * h) (rows pl) (bnO bo0 bo1) a9 b9) (goW w h ru (rows pl) (bnO bo0 bo1) a9 b9)) (plV w h ru (rows pl) (bnO bo0 bo1) a9 b9))) pl (rdOf (w * h) (va_up (ccF a9 b9 (D pl).1) 2 (scF (plV w h ru (rows pl) (bnO bo0 bo1) a9 b9) (bnO bo0 bo1) (w * h) 0)) (mkX a9 b9 (stK ru (ldF (rows pl) (w * h) bo0 bo1))) (wvU w h (plM ru (w * h) (rows pl) (bnO bo0 bo1) a9 b9) (goW w h ru (rows pl) (bnO bo0 bo1) a9 b9)) (plV w h ru (rows pl) (bnO bo0 bo1) a9 b9))) (va_up rows (pl + 1) (plV w h ru (rows pl) (bnO bo0 bo1) a9 b9)) := by rw [bx_uu]; exact gmP_add hP hp60
  refine g_aload_n (n := 72) hC rfl dX2_addRound_71 ?_
  refine g_aload_n (n := 73) hC rfl dX2_addRound_72 ?_
  refine g_iconst (n := 74) (v := (nI 1)) hC (by decide) dX2_addRound_73 ?_
  refine g_cV (n := 77) hC gv_X2_111 (m0) ((hG2.2.1)) (X_score K hG2 hsb2 hw1 hw2 hh1 hh2 hP2 (p := 1) (by omega)) dX2_addRound_74 ?_
  refine G.eqi (show _ = (scF (plV w h ru (rows pl) (bnO bo0 bo1) a9 b9) (bnO bo0 bo1) (w * h) 1) from by rw [hrw]) ?_
  refine g_putf (n := 80) hC gp_X2_117 (hrd.1.1) (va_up_self _ _ _) dX2_addRound_77 ?_
  refine G.eqs (show _ = va_up (va_up (rdU K σ (g + 5 + 4 * pl) (w * h) (ccF a9 b9 (D pl).1) (mkX a9 b9 (stK ru (ldF (rows pl) (w * h) bo0 bo1))) (wvU w h (plM ru (w * h) (rows pl) (bnO bo0 bo1) a9 b9) (goW w h ru (rows pl) (bnO bo0 bo1) a9 b9)) (plV w h ru (rows pl) (bnO bo0 bo1) a9 b9)) g (gmO g b ru (pl + 1) bo0 bo1)) (g + 5 + 4 * pl) (.inr (6, [.int a9, .int b9, .int (scF (plV w h ru (rows pl) (bnO bo0 bo1) a9 b9) (bnO bo0 bo1) (w * h) 0), .int (scF (plV w h ru (rows pl) (bnO bo0 bo1) a9 b9) (bnO bo0 bo1) (w * h) 1), .ref (g + 5 + 4 * pl + 1), .long (mkX a9 b9 (stK ru (ldF (rows pl) (w * h) bo0 bo1))), .ref (g + 5 + 4 * pl + 3)])) from bx_uu _ _ _ _) ?_
  refine G.eqs (show _ = rdU K (va_up σ g (gmO g b ru (pl + 1) bo0 bo1)) (g + 5 + 4 * pl) (w * h) (scC a9 b9 (scF (plV w h ru (rows pl) (bnO bo0 bo1) a9 b9) (bnO bo0 bo1) (w * h) 0) (scF (plV w h ru (rows pl) (bnO bo0 bo1) a9 b9) (bnO bo0 bo1) (w * h) 1) (D pl).1) (mkX a9 b9 (stK ru (ldF (rows pl) (w * h) bo0 bo1))) (wvU w h (plM ru (w * h) (rows pl) (bnO bo0 bo1) a9 b9) (goW w h ru (rows pl) (bnO bo0 bo1) a9 b9)) (plV w h ru (rows pl) (bnO bo0 bo1) a9 b9) from (congrArg (va_up _ _) (by simp [rndO, scC, ccF, va_up])).trans (rdU_g (by omega))) ?_
  have hri2 : rdI K L (rdU K (va_up σ g (gmO g b ru (pl + 1) bo0 bo1)) (g + 5 + 4 * pl) (w * h) (scC a9 b9 (scF (plV w h ru (rows pl) (bnO bo0 bo1) a9 b9) (bnO bo0 bo1) (w * h) 0) (scF (plV w h ru (rows pl) (bnO bo0 bo1) a9 b9) (bnO bo0 bo1) (w * h) 1) (D pl).1) (mkX a9 b9 (stK ru (ldF (rows pl) (w * h) bo0 bo1))) (wvU w h (plM ru (w * h) (rows pl) (bnO bo0 bo1) a9 b9) (goW w h ru (rows pl) (bnO bo0 bo1) a9 b9)) (plV w h ru (rows pl) (bnO bo0 bo1) a9 b9)) (g + 5 + 4 * pl) (w * h) (scC a9 b9 (scF (plV w h ru (rows pl) (bnO bo0 bo1) a9 b9) (bnO bo0 bo1) (w * h) 0) (scF (plV w h ru (rows pl) (bnO bo0 bo1) a9 b9) (bnO bo0 bo1) (w * h) 1) (D pl).1) (mkX a9 b9 (stK ru (ldF (rows pl) (w * h) bo0 bo1))) (wvU w h (plM ru (w * h) (rows pl) (bnO bo0 bo1) a9 b9) (goW w h ru (rows pl) (bnO bo0 bo1) a9 b9)) (plV w h ru (rows pl) (bnO bo0 bo1) a9 b9) := rdU_I hrd.1
  refine g_aload_n (n := 81) hC rfl dX2_addRound_80 ?_
  refine g_cV (n := 84) hC gv_X2_120 (hrd.1.1) (hri2.2.1) (X_changedByWaves K hri2 hn49) dX2_addRound_81 ?_
  exact g_iret hC dX2_addRound_84 (⟨rI (congrArg nI (by rw [cbw_sm hn49, show min 8 (goW w h ru (rows pl) (bnO bo0 bo1) a9 b9) = (goW w h ru (rows pl) (bnO bo0 bo1) a9 b9) from Nat.min_eq_right (wC_ok _ _ _).1]; rfl)), rfl, rfl, rfl⟩)
