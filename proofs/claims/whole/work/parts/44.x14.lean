/-! ===== the class: a game ===== -/
abbrev RD : Type := (Nat → Int32) × Int64 × (Nat → Int64) × (Nat → Int64)
def rdsF (g : Nat) : Nat → Option Nat := fun r => if r < 60 then some (g + 5 + 4 * r) else none
theorem rds_at {g r : Nat} (h : r < 60) : rdsF g r = some (g + 5 + 4 * r) := if_pos h
def gmO (g b : Nat) (ru : Int32) (pl : Nat) (x y : Int32) : va_E := .inr (2, [.ref b, .int ru, .int (nI pl), .ref (g + 2), .ref (g + 3), .int x, .int y])
def rdD (K : GK) (L : List Nat) (σ : GS) (a : Nat) (d : RD) : Prop := (a ∈ L ∧ a + 1 ∈ L ∧ a + 1 + 1 ∈ L ∧ a + 3 ∈ L) ∧ σ a = rndO a d.1 d.2.1 ∧ σ (a + 1) = .inr (4, [.ref (a + 1 + 1), .int (d.1 4), .int (d.1 5)]) ∧ σ (a + 1 + 1) = lA K 6 d.2.2.2 ∧ σ (a + 3) = lA K 8 d.2.2.1
/-- the game at g -/
def gmI (K : GK) (L : List Nat) (σ : GS) (g b : Nat) (ru : Int32) (pl : Nat) (x y : Int32) (D : Nat → RD) : Prop := (g ∈ L ∧ g + 2 ∈ L ∧ g + 3 ∈ L ∧ g + 3 + 1 ∈ L ∧ b ∈ L) ∧ σ g = gmO g b ru pl x y ∧ σ (g + 2) = rA K 60 (rdsF g) ∧ σ (g + 3) = .inr (4, [.ref (g + 3 + 1), .int ((D 60).1 4), .int ((D 60).1 5)]) ∧ σ (g + 3 + 1) = lA K 6 (D 60).2.2.2 ∧ ∀ r, r < 60 → rdD K L σ (g + 5 + 4 * r) (D r)
/-- a position's data are the reference's row f -/
def psM (n : Nat) (d : RD) (f : Nat → Int32) : Prop := d.1 4 = f 147 ∧ d.1 5 = f 148 ∧ d.2.2.2 = psS n f
def gmP (n pl : Nat) (D : Nat → RD) (rows : Nat → Nat → Int32) : Prop := pl ≤ 60 ∧ psM n (D 60) (rows 0) ∧ ∀ r, r < pl → psM n (D r) (rows (r + 1))
/-- where the latest position lies -/
def latA (g pl : Nat) : Nat := if pl = 0 then g + 3 else g + 5 + 4 * (pl - 1) + 1
section GM
variable {K : GK} {L : List Nat} {σ : GS} {g b n : Nat} {ru : Int32} {pl : Nat} {x y : Int32} {D : Nat → RD} {rows : Nat → Nat → Int32}
theorem gm_rd (hG : gmI K L σ g b ru pl x y D) {r : Nat} (hr : r < 60) : rdD K L σ (g + 5 + 4 * r) (D r) := hG.2.2.2.2.2 r hr
theorem rdD_I {a : Nat} {d : RD} {f : Nat → Int32} (h : rdD K L σ a d) (hp : psM n d f) : rdI K L σ a n d.1 d.2.1 d.2.2.1 f := ⟨h.1, h.2.1, by rw [h.2.2.1, hp.1, hp.2.1, psO], by rw [h.2.2.2.1, hp.2.2], h.2.2.2.2⟩
theorem gm_rdI (hG : gmI K L σ g b ru pl x y D) (hP : gmP n pl D rows) {r : Nat} (hr : r < pl) : rdI K L σ (g + 5 + 4 * r) n (D r).1 (D r).2.1 (D r).2.2.1 (rows (r + 1)) := rdD_I (gm_rd hG (by have := hP.1; omega)) (hP.2.2 r hr)
theorem gm_lat (hG : gmI K L σ g b ru pl x y D) (hP : gmP n pl D rows) : latA g pl ∈ L ∧ latA g pl + 1 ∈ L ∧ σ (latA g pl) = psO (latA g pl) (rows pl) ∧ σ (latA g pl + 1) = lA K 6 (psS n (rows pl)) := by
  by_cases e : pl = 0
  · subst e
    obtain ⟨⟨_, _, m3, m4, _⟩, _, _, s3, s4, _⟩ := hG
    obtain ⟨p1, p2, p3⟩ := hP.2.1
    refine ⟨m3, m4, ?_, ?_⟩
    · show σ (g + 3) = psO (g + 3) _
      rw [s3, p1, p2, psO]
    · show σ (g + 3 + 1) = _
      rw [s4, p3]
  · have h1 := gm_rdI hG hP (r := pl - 1) (by omega)
    rw [show pl - 1 + 1 = pl by omega] at h1
    rw [latA, if_neg e]
    exact ⟨h1.1.2.1, h1.1.2.2.1, h1.2.2.1, h1.2.2.2.1⟩
end GM
def endP (pl n : Nat) (D : Nat → RD) (rows : Nat → Nat → Int32) : Prop := 0 < pl ∧ (((D (pl - 1)).1 0 = -1 ∧ (D (pl - 1)).1 1 = -1) ∨ mny (rows pl) n (nI 0) = 0 ∨ 60 ≤ pl)
def bnO (x y : Int32) (p : Nat) : Int32 := if p = 0 then x else y
def ldF (f : Nat → Int32) (n : Nat) (x y : Int32) : Int32 := nI (mny f n (nI 3)) - nI (mny f n (nI 4)) + nI 2 * (f 147 - f 148) + x - y
def stK (ru d : Int32) : Nat := if ru = nI 1 then 0 else if ru = 0 ∨ d = 0 then 5 else if d < 0 then 1 else 2
def clX (D : Nat → RD) (r : Nat) : Nat := ct (fun i => decide ((D i).1 0 = (D i).1 1 ∧ (D i).1 0 ≠ -1)) r
def paX (D : Nat → RD) (p r : Nat) : Nat := ct (fun i => decide ((D i).1 p = -1)) r
def smX (D : Nat → RD) : Nat → Nat
  | 0 => 0
  | r + 1 => smX D r + wvn (D r).2.2.1 8
def chX (d : RD) (q : Nat) : Prop := tb d.2.1 q = true ∨ ¬ lwv d.2.2.1 q 8 < 0
noncomputable def rtX (D : Nat → RD) (q : Nat) : Nat → Int32
  | 0 => -1
  | r + 1 => @ite _ (chX (D r) q) (Classical.propDecidable _) (nI r) (rtX D q r)
noncomputable def wtX (D : Nat → RD) (q : Nat) : Nat → Int32
  | 0 => -1
  | r + 1 => @ite _ (chX (D r) q) (Classical.propDecidable _) (lwv (D r).2.2.1 q 8) (wtX D q r)
theorem smX_le (D : Nat → RD) : ∀ r, smX D r ≤ 8 * r
  | 0 => Nat.zero_le _
  | r + 1 => by have := smX_le D r; have := ct_le (fun i => decide ((D r).2.2.1 i ≠ 0)) 8; rw [smX, wvn]; omega
theorem ix_s {p : Nat → Bool} {k : Nat} (h : p k = true) : ct p k + 1 = ct p (k + 1) := by simp [ct, h]
theorem ix_n {p : Nat → Bool} {k : Nat} (h : p k = false) : ct p k + 0 = ct p (k + 1) := by simp [ct, h]
theorem rtX_c (D : Nat → RD) (q : Nat) : ∀ r, (rtX D q r = -1 ∧ wtX D q r = -1) ∨ ∃ i, i < r ∧ rtX D q r = nI i ∧ wtX D q r = lwv (D i).2.2.1 q 8
  | 0 => Or.inl ⟨rfl, rfl⟩
  | r + 1 => by
    by_cases h : chX (D r) q
    · refine Or.inr ⟨r, by omega, ?_, ?_⟩
      · rw [rtX]; exact if_pos h
      · rw [wtX]; exact if_pos h
    · have e1 : rtX D q (r + 1) = rtX D q r := by rw [rtX]; exact if_neg h
      have e2 : wtX D q (r + 1) = wtX D q r := by rw [wtX]; exact if_neg h
      rw [e1, e2]
      rcases rtX_c D q r with z | ⟨i, h1, h2, h3⟩
      · exact Or.inl z
      · exact Or.inr ⟨i, by omega, h2, h3⟩
theorem ab_s {a b : Int32} (h : (if b < a then a - b else b - a) = (if 0 ≤ a - b then a - b else 0 - (a - b))) {v : Int32} (hv : v = if b < a then a - b else b - a) : (if 0 ≤ a - b then a - b else 0 - (a - b)) = v := by rw [hv, h]

set_option maxRecDepth 20000 in
theorem X_latest (K : GK) {σ : GS} {L : List Nat} {z : Nat} {g b : Nat} {w h : Nat} {ru : Int32} {pl : Nat} {bo0 bo1 : Int32} {D : Nat → RD} {rows : Nat → Nat → Int32} (hG : gmI K L σ g b ru pl bo0 bo1 D) (hsb : σ b = bdA w h) (hw1 : 4 ≤ w) (hw2 : w ≤ 7) (hh1 : 4 ≤ h) (hh2 : h ≤ 7) (hP : gmP (w * h) pl D rows) : gT K yX2_latest cX2_latest 1 (some (.object "EnclosureReferee$Position")) 0 [.ref g] z L (σ) (some (.ref (latA g pl))) (σ) := by
  have hn : w * h ≤ 49 := Nat.mul_le_mul hw2 hh2
  have hn1 : 16 ≤ w * h := Nat.mul_le_mul hw1 hh1
  have hn49 : w * h ≤ 49 := hn
  obtain ⟨m0, m2, m3, m4, hbL⟩ := hG.1
  have s0 := hG.2.1
  have s2 := hG.2.2.1
  have hpl := hP.1
  have hlat := gm_lat hG hP
  refine g_intro [some (.ref g)] (fun Γ hC => ?_) (by simp [g_en, lv_args, Value.category])
  refine g_aload_n (n := 1) hC rfl dX2_latest_0 ?_
  refine g_getf (n := 4) (v := .int (nI pl)) hC gf_X2_60 (m0) (s0) rfl dX2_latest_1 ?_
  refine g_if_leN (n := 7) (tgt := 33) hC (by omega) dX2_latest_4 (fun h4 => ?_) (fun h4 => ?_)
  ·
    refine g_aload_n (n := 34) hC rfl dX2_latest_33 ?_
    refine g_getf (n := 37) (v := .ref (g + 3)) hC gf_X2_33 (m0) (s0) rfl dX2_latest_34 ?_
    exact g_aret hC dX2_latest_37 (⟨by rw [latA, if_pos h4], rfl, rfl, rfl⟩)
  ·
    refine g_aload_n (n := 8) hC rfl dX2_latest_7 ?_
    refine g_getf (n := 11) (v := .int (nI pl)) hC gf_X2_60 (m0) (s0) rfl dX2_latest_8 ?_
    refine g_bipush (n := 13) (v := (nI 60)) hC (by decide) dX2_latest_11 ?_
    refine g_icmp_gtN (n := 16) (tgt := 33) hC (by omega) (by omega) dX2_latest_13 (fun h13 => absurd h13 (by omega)) (fun h13 => ?_)
    refine g_aload_n (n := 17) hC rfl dX2_latest_16 ?_
    refine g_getf (n := 20) (v := .ref (g + 2)) hC gf_X2_26 (m0) (s0) rfl dX2_latest_17 ?_
    refine g_aload_n (n := 21) hC rfl dX2_latest_20 ?_
    refine g_getf (n := 24) (v := .int (nI pl)) hC gf_X2_60 (m0) (s0) rfl dX2_latest_21 ?_
    refine g_iconst (n := 25) (v := (nI 1)) hC (by decide) dX2_latest_24 ?_
    refine g_isubN (n := 26) hC (by omega) dX2_latest_25 ?_
    refine g_aald (n := 27) (j := (pl - 1)) (v := (g + 5 + 4 * (pl - 1))) hC (m2) (s2) (rfl) (by omega) (by decide) (rds_at (by omega)) dX2_latest_26 ?_
    have hri1 := gm_rdI hG hP (r := (pl - 1)) (by omega)
    refine g_getf (n := 30) (v := .ref (g + 5 + 4 * (pl - 1) + 1)) hC gf_X2_80 (hri1.1.1) (hri1.2.1) rfl dX2_latest_27 ?_
    refine g_goto (n := 37) hC dX2_latest_30 ?_
    exact g_aret hC dX2_latest_37 (⟨by rw [latA, if_neg (by omega)], rfl, rfl, rfl⟩)

set_option maxRecDepth 20000 in
theorem X_hasEnded (K : GK) {σ : GS} {L : List Nat} {z : Nat} {g b : Nat} {w h : Nat} {ru : Int32} {pl : Nat} {bo0 bo1 : Int32} {D : Nat → RD} {rows : Nat → Nat → Int32} (hG : gmI K L σ g b ru pl bo0 bo1 D) (hsb : σ b = bdA w h) (hw1 : 4 ≤ w) (hw2 : w ≤ 7) (hh1 : 4 ≤ h) (hh2 : h ≤ 7) (hP : gmP (w * h) pl D rows) : gT K yX2_hasEnded cX2_hasEnded 1 (some .boolean) 2 [.ref g] z L (σ) (some (.int (bI (endP pl (w * h) D rows)))) (σ) := by
  have hn : w * h ≤ 49 := Nat.mul_le_mul hw2 hh2
  have hn1 : 16 ≤ w * h := Nat.mul_le_mul hw1 hh1
  have hn49 : w * h ≤ 49 := hn
  obtain ⟨m0, m2, m3, m4, hbL⟩ := hG.1
  have s0 := hG.2.1
  have s2 := hG.2.2.1
  have hpl := hP.1
  have hlat := gm_lat hG hP
  refine g_intro [some (.ref g)] (fun Γ hC => ?_) (by simp [g_en, lv_args, Value.category])
  refine g_aload_n (n := 1) hC rfl dX2_hasEnded_0 ?_
  refine g_getf (n := 4) (v := .int (nI pl)) hC gf_X2_60 (m0) (s0) rfl dX2_hasEnded_1 ?_
  refine g_if_leN (n := 7) (tgt := 41) hC (by omega) dX2_hasEnded_4 (fun h4 => ?_) (fun h4 => ?_)
  ·
    refine g_iconst (n := 42) (v := (nI 0)) hC (by decide) dX2_hasEnded_41 ?_
    exact g_zret hC (by rfl) dX2_hasEnded_42 (⟨rI (bI_f (fun q => absurd q.1 (by omega))).symm, rfl, rfl, rfl⟩)
  ·
    refine g_aload_n (n := 8) hC rfl dX2_hasEnded_7 ?_
    refine g_getf (n := 11) (v := .int (nI pl)) hC gf_X2_60 (m0) (s0) rfl dX2_hasEnded_8 ?_
    refine g_bipush (n := 13) (v := (nI 60)) hC (by decide) dX2_hasEnded_11 ?_
    refine g_icmp_gtN (n := 16) (tgt := 41) hC (by omega) (by omega) dX2_hasEnded_13 (fun h13 => absurd h13 (by omega)) (fun h13 => ?_)
    refine g_aload_n (n := 17) hC rfl dX2_hasEnded_16 ?_
    refine g_getf (n := 20) (v := .ref (g + 2)) hC gf_X2_26 (m0) (s0) rfl dX2_hasEnded_17 ?_
    refine g_aload_n (n := 21) hC rfl dX2_hasEnded_20 ?_
    refine g_getf (n := 24) (v := .int (nI pl)) hC gf_X2_60 (m0) (s0) rfl dX2_hasEnded_21 ?_
    refine g_iconst (n := 25) (v := (nI 1)) hC (by decide) dX2_hasEnded_24 ?_
    refine g_isubN (n := 26) hC (by omega) dX2_hasEnded_25 ?_
    refine g_aald (n := 27) (j := (pl - 1)) (v := (g + 5 + 4 * (pl - 1))) hC (m2) (s2) (rfl) (by omega) (by decide) (rds_at (by omega)) dX2_hasEnded_26 ?_
    refine g_aload_n (n := 28) hC rfl dX2_hasEnded_27 ?_
    refine g_getf (n := 31) (v := .int (nI pl)) hC gf_X2_60 (m0) (s0) rfl dX2_hasEnded_28 ?_
    have hri1 := gm_rdI hG hP (r := (pl - 1)) (by omega)
    refine g_cV (n := 34) hC gv_X2_83 (hri1.1.1) (hri1.2.1) (X_ends K hri1 hn49 (k := pl) (by omega)) dX2_hasEnded_31 ?_
    refine g_ifb_eq (n := 37) (tgt := 41) hC dX2_hasEnded_34 (fun h34 => ?_) (fun h34 => ?_)
    ·
      refine g_iconst (n := 42) (v := (nI 0)) hC (by decide) dX2_hasEnded_41 ?_
      exact g_zret hC (by rfl) dX2_hasEnded_42 (⟨rI (bI_f (fun q => h34 (by rw [show pl - 1 + 1 = pl by omega]; exact q.2))).symm, rfl, rfl, rfl⟩)
    ·
      refine g_iconst (n := 38) (v := (nI 1)) hC (by decide) dX2_hasEnded_37 ?_
      refine g_goto (n := 42) hC dX2_hasEnded_38 ?_
      exact g_zret hC (by rfl) dX2_hasEnded_42 (⟨rI (bI_t ⟨by omega, by rw [show pl - 1 + 1 = pl by omega] at h34; exact h34⟩).symm, rfl, rfl, rfl⟩)

set_option maxRecDepth 20000 in
theorem X_bonus (K : GK) {σ : GS} {L : List Nat} {z : Nat} {g b : Nat} {w h : Nat} {ru : Int32} {pl : Nat} {bo0 bo1 : Int32} {D : Nat → RD} {rows : Nat → Nat → Int32} (hG : gmI K L σ g b ru pl bo0 bo1 D) (hsb : σ b = bdA w h) (hw1 : 4 ≤ w) (hw2 : w ≤ 7) (hh1 : 4 ≤ h) (hh2 : h ≤ 7) (hP : gmP (w * h) pl D rows) {p : Nat} (hp : p ≤ 1) : gT K yX2_bonus cX2_bonus 2 (some .int) 0 [.ref g, .int (nI p)] z L (σ) (some (.int (bnO bo0 bo1 p))) (σ) := by
  have hn : w * h ≤ 49 := Nat.mul_le_mul hw2 hh2
  have hn1 : 16 ≤ w * h := Nat.mul_le_mul hw1 hh1
  have hn49 : w * h ≤ 49 := hn
  obtain ⟨m0, m2, m3, m4, hbL⟩ := hG.1
  have s0 := hG.2.1
  have s2 := hG.2.2.1
  have hpl := hP.1
  have hlat := gm_lat hG hP
  refine g_intro [some (.ref g), some (.int (nI p))] (fun Γ hC => ?_) (by simp [g_en, lv_args, Value.category])
  refine g_iload_n (n := 1) hC rfl dX2_bonus_0 ?_
  refine g_if_neN (n := 4) (tgt := 11) hC (by omega) dX2_bonus_1 (fun h1 => ?_) (fun h1 => ?_)
  ·
    refine g_aload_n (n := 12) hC rfl dX2_bonus_11 ?_
    refine g_getf (n := 15) (v := .int bo1) hC gf_X2_66 (m0) (s0) rfl dX2_bonus_12 ?_
    exact g_iret hC dX2_bonus_15 (⟨rI (if_neg (by omega)).symm, rfl, rfl, rfl⟩)
  ·
    refine g_aload_n (n := 5) hC rfl dX2_bonus_4 ?_
    refine g_getf (n := 8) (v := .int bo0) hC gf_X2_63 (m0) (s0) rfl dX2_bonus_5 ?_
    refine g_goto (n := 15) hC dX2_bonus_8 ?_
    exact g_iret hC dX2_bonus_15 (⟨rI (if_pos (by omega)).symm, rfl, rfl, rfl⟩)

set_option maxRecDepth 20000 in
theorem X_changeBonus (K : GK) {σ : GS} {L : List Nat} {z : Nat} {g b : Nat} {w h : Nat} {ru : Int32} {pl : Nat} {bo0 bo1 : Int32} {D : Nat → RD} {rows : Nat → Nat → Int32} (hG : gmI K L σ g b ru pl bo0 bo1 D) (hsb : σ b = bdA w h) (hw1 : 4 ≤ w) (hw2 : w ≤ 7) (hh1 : 4 ≤ h) (hh2 : h ≤ 7) (hP : gmP (w * h) pl D rows) {p : Nat} {v : Int32} (hp : p ≤ 1) : gT K yX2_changeBonus cX2_changeBonus 3 none 0 [.ref g, .int (nI p), .int v] z L (σ) none (va_up σ g (gmO g b ru pl (if p = 0 then v else bo0) (if p = 0 then bo1 else v))) := by
  have hn : w * h ≤ 49 := Nat.mul_le_mul hw2 hh2
  have hn1 : 16 ≤ w * h := Nat.mul_le_mul hw1 hh1
  have hn49 : w * h ≤ 49 := hn
  obtain ⟨m0, m2, m3, m4, hbL⟩ := hG.1
  have s0 := hG.2.1
  have s2 := hG.2.2.1
  have hpl := hP.1
  have hlat := gm_lat hG hP
  refine g_intro [some (.ref g), some (.int (nI p)), some (.int v)] (fun Γ hC => ?_) (by simp [g_en, lv_args, Value.category])
  refine g_iload_n (n := 1) hC rfl dX2_changeBonus_0 ?_
  refine g_if_neN (n := 4) (tgt := 12) hC (by omega) dX2_changeBonus_1 (fun h1 => ?_) (fun h1 => ?_)
  ·
    refine g_aload_n (n := 13) hC rfl dX2_changeBonus_12 ?_
    refine g_iload_n (n := 14) hC rfl dX2_changeBonus_13 ?_
    refine g_putf (n := 17) hC gp_X2_66 (m0) (s0) dX2_changeBonus_14 ?_
    refine G.eqs (show _ = va_up (σ) g (.inr (2, [.ref b, .int ru, .int (nI pl), .ref (g + 2), .ref (g + 3), .int bo0, .int v])) from rfl) ?_
    exact g_vret hC dX2_changeBonus_17 (⟨rfl, rfl, rfl, (by rw [if_neg (show ¬ p = 0 by omega), if_neg (show ¬ p = 0 by omega)]; rfl)⟩)
  ·
    refine g_aload_n (n := 5) hC rfl dX2_changeBonus_4 ?_
    refine g_iload_n (n := 6) hC rfl dX2_changeBonus_5 ?_
    refine g_putf (n := 9) hC gp_X2_63 (m0) (s0) dX2_changeBonus_6 ?_
    refine G.eqs (show _ = va_up (σ) g (.inr (2, [.ref b, .int ru, .int (nI pl), .ref (g + 2), .ref (g + 3), .int v, .int bo1])) from rfl) ?_
    refine g_goto (n := 17) hC dX2_changeBonus_9 ?_
    exact g_vret hC dX2_changeBonus_17 (⟨rfl, rfl, rfl, (by rw [if_pos (show p = 0 by omega), if_pos (show p = 0 by omega)]; rfl)⟩)

set_option maxRecDepth 20000 in
theorem X_score (K : GK) {σ : GS} {L : List Nat} {z : Nat} {g b : Nat} {w h : Nat} {ru : Int32} {pl : Nat} {bo0 bo1 : Int32} {D : Nat → RD} {rows : Nat → Nat → Int32} (hG : gmI K L σ g b ru pl bo0 bo1 D) (hsb : σ b = bdA w h) (hw1 : 4 ≤ w) (hw2 : w ≤ 7) (hh1 : 4 ≤ h) (hh2 : h ≤ 7) (hP : gmP (w * h) pl D rows) {p : Nat} (hp : p ≤ 1) : gT K yX2_score cX2_score 2 (some .int) 3 [.ref g, .int (nI p)] z L (σ) (some (.int (scF (rows pl) (bnO bo0 bo1) (w * h) p))) (σ) := by
  have hn : w * h ≤ 49 := Nat.mul_le_mul hw2 hh2
  have hn1 : 16 ≤ w * h := Nat.mul_le_mul hw1 hh1
  have hn49 : w * h ≤ 49 := hn
  obtain ⟨m0, m2, m3, m4, hbL⟩ := hG.1
  have s0 := hG.2.1
  have s2 := hG.2.2.1
  have hpl := hP.1
  have hlat := gm_lat hG hP
  refine g_intro [some (.ref g), some (.int (nI p))] (fun Γ hC => ?_) (by simp [g_en, lv_args, Value.category])
  refine g_aload_n (n := 1) hC rfl dX2_score_0 ?_
  refine g_cV (n := 4) hC gv_X2_87 (m0) (s0) (X_latest K hG hsb hw1 hw2 hh1 hh2 hP) dX2_score_1 ?_
  refine g_iload_n (n := 5) hC rfl dX2_score_4 ?_
  refine g_cV (n := 8) hC gv_X2_91 (hlat.1) (hlat.2.2.1) (X_points K hlat.1 hlat.2.1 hlat.2.2.1 hlat.2.2.2 hn49 hp) dX2_score_5 ?_
  refine g_aload_n (n := 9) hC rfl dX2_score_8 ?_
  refine g_iload_n (n := 10) hC rfl dX2_score_9 ?_
  refine g_cV (n := 13) hC gv_X2_94 (m0) (s0) (X_bonus K hG hsb hw1 hw2 hh1 hh2 hP hp) dX2_score_10 ?_
  refine g_iadd (n := 14) hC dX2_score_13 ?_
  exact g_iret hC dX2_score_14 (⟨by first | rfl | (simp [*]; done), rfl, rfl, rfl⟩)

set_option maxRecDepth 20000 in
theorem X_lead (K : GK) {σ : GS} {L : List Nat} {z : Nat} {g b : Nat} {w h : Nat} {ru : Int32} {pl : Nat} {bo0 bo1 : Int32} {D : Nat → RD} {rows : Nat → Nat → Int32} (hG : gmI K L σ g b ru pl bo0 bo1 D) (hsb : σ b = bdA w h) (hw1 : 4 ≤ w) (hw2 : w ≤ 7) (hh1 : 4 ≤ h) (hh2 : h ≤ 7) (hP : gmP (w * h) pl D rows) {q : Nat} {f : Nat → Int32} (hqL : q ∈ L) (hqL1 : q + 1 ∈ L) (tq : σ q = psO q f) (tq1 : σ (q + 1) = lA K 6 (psS (w * h) f)) : gT K yX2_lead cX2_lead 2 (some .int) 2 [.ref g, .ref q] z L (σ) (some (.int (ldF f (w * h) bo0 bo1))) (σ) := by
  have hn : w * h ≤ 49 := Nat.mul_le_mul hw2 hh2
  have hn1 : 16 ≤ w * h := Nat.mul_le_mul hw1 hh1
  have hn49 : w * h ≤ 49 := hn
  obtain ⟨m0, m2, m3, m4, hbL⟩ := hG.1
  have s0 := hG.2.1
  have s2 := hG.2.2.1
  have hpl := hP.1
  have hlat := gm_lat hG hP
  refine g_intro [some (.ref g), some (.ref q)] (fun Γ hC => ?_) (by simp [g_en, lv_args, Value.category])
  refine g_aload_n (n := 1) hC rfl dX2_lead_0 ?_
  refine g_cV (n := 4) hC gv_X2_97 (hqL) (tq) (X_leadP K hqL hqL1 tq tq1 hn49) dX2_lead_1 ?_
  refine g_aload_n (n := 5) hC rfl dX2_lead_4 ?_
  refine g_getf (n := 8) (v := .int bo0) hC gf_X2_63 (m0) (s0) rfl dX2_lead_5 ?_
  refine g_iadd (n := 9) hC dX2_lead_8 ?_
  refine g_aload_n (n := 10) hC rfl dX2_lead_9 ?_
  refine g_getf (n := 13) (v := .int bo1) hC gf_X2_66 (m0) (s0) rfl dX2_lead_10 ?_
  refine g_isub (n := 14) hC dX2_lead_13 ?_
  exact g_iret hC dX2_lead_14 (⟨by first | rfl | (simp [*]; done), rfl, rfl, rfl⟩)

set_option maxRecDepth 20000 in
theorem X_stateAfter (K : GK) {σ : GS} {L : List Nat} {z : Nat} {g b : Nat} {w h : Nat} {ru : Int32} {pl : Nat} {bo0 bo1 : Int32} {D : Nat → RD} {rows : Nat → Nat → Int32} (hG : gmI K L σ g b ru pl bo0 bo1 D) (hsb : σ b = bdA w h) (hw1 : 4 ≤ w) (hw2 : w ≤ 7) (hh1 : 4 ≤ h) (hh2 : h ≤ 7) (hP : gmP (w * h) pl D rows) {q : Nat} {f : Nat → Int32} (hqL : q ∈ L) (hqL1 : q + 1 ∈ L) (tq : σ q = psO q f) (tq1 : σ (q + 1) = lA K 6 (psS (w * h) f)) : gT K yX2_stateAfterClash cX2_stateAfterClash 3 (some .int) 3 [.ref g, .ref q] z L (σ) (some (.int (nI (stK ru (ldF f (w * h) bo0 bo1))))) (σ) := by
  have hn : w * h ≤ 49 := Nat.mul_le_mul hw2 hh2
  have hn1 : 16 ≤ w * h := Nat.mul_le_mul hw1 hh1
  have hn49 : w * h ≤ 49 := hn
  obtain ⟨m0, m2, m3, m4, hbL⟩ := hG.1
  have s0 := hG.2.1
  have s2 := hG.2.2.1
  have hpl := hP.1
  have hlat := gm_lat hG hP
  refine g_intro [some (.ref g), some (.ref q), none] (fun Γ hC => ?_) (by simp [g_en, lv_args, Value.category])
  refine g_aload_n (n := 1) hC rfl dX2_stateAfterClash_0 ?_
  refine g_aload_n (n := 2) hC rfl dX2_stateAfterClash_1 ?_
  refine g_cV (n := 5) hC gv_X2_101 (m0) (s0) (X_lead K hG hsb hw1 hw2 hh1 hh2 hP hqL hqL1 tq tq1) dX2_stateAfterClash_2 ?_
  refine g_istore_n (n := 6) (ll1 := [some (.ref g), some (.ref q), some (.int (ldF f (w * h) bo0 bo1))]) hC dX2_stateAfterClash_5 rfl ?_
  refine g_aload_n (n := 7) hC rfl dX2_stateAfterClash_6 ?_
  refine g_getf (n := 10) (v := .int ru) hC gf_X2_20 (m0) (s0) rfl dX2_stateAfterClash_7 ?_
  refine g_iconst (n := 11) (v := (nI 1)) hC (by decide) dX2_stateAfterClash_10 ?_
  refine g_icmp_ne (n := 14) (tgt := 16) hC dX2_stateAfterClash_11 (fun h11 => ?_) (fun h11 => ?_)
  ·
    refine g_aload_n (n := 17) hC rfl dX2_stateAfterClash_16 ?_
    refine g_getf (n := 20) (v := .int ru) hC gf_X2_20 (m0) (s0) rfl dX2_stateAfterClash_17 ?_
    refine g_if_eq (n := 23) (tgt := 27) hC dX2_stateAfterClash_20 (fun h20 => ?_) (fun h20 => ?_)
    ·
      refine g_iconst (n := 28) (v := (nI 5)) hC (by decide) dX2_stateAfterClash_27 ?_
      exact g_iret hC dX2_stateAfterClash_28 (⟨rI (congrArg nI (by rw [stK, if_neg h11, if_pos (Or.inl h20)])), rfl, rfl, rfl⟩)
    ·
      refine g_iload_n (n := 24) hC rfl dX2_stateAfterClash_23 ?_
      refine g_if_ne (n := 27) (tgt := 29) hC dX2_stateAfterClash_24 (fun h24 => ?_) (fun h24 => ?_)
      ·
        refine g_iload_n (n := 30) hC rfl dX2_stateAfterClash_29 ?_
        refine g_if_ge (n := 33) (tgt := 37) hC dX2_stateAfterClash_30 (fun h30 => ?_) (fun h30 => ?_)
        ·
          refine g_iconst (n := 38) (v := (nI 2)) hC (by decide) dX2_stateAfterClash_37 ?_
          exact g_iret hC dX2_stateAfterClash_38 (⟨rI (congrArg nI (by rw [stK, if_neg h11, if_neg (fun z => z.elim h20 h24), if_neg (Int32.not_lt.mpr h30)])), rfl, rfl, rfl⟩)
        ·
          refine g_iconst (n := 34) (v := (nI 1)) hC (by decide) dX2_stateAfterClash_33 ?_
          refine g_goto (n := 38) hC dX2_stateAfterClash_34 ?_
          exact g_iret hC dX2_stateAfterClash_38 (⟨rI (congrArg nI (by rw [stK, if_neg h11, if_neg (fun z => z.elim h20 h24), if_pos (Int32.not_le.mp h30)])), rfl, rfl, rfl⟩)
      ·
        refine g_iconst (n := 28) (v := (nI 5)) hC (by decide) dX2_stateAfterClash_27 ?_
        exact g_iret hC dX2_stateAfterClash_28 (⟨rI (congrArg nI (by rw [stK, if_neg h11, if_pos (Or.inr h24)])), rfl, rfl, rfl⟩)
  ·
    refine g_iconst (n := 15) (v := (nI 0)) hC (by decide) dX2_stateAfterClash_14 ?_
    exact g_iret hC dX2_stateAfterClash_15 (⟨rI (congrArg nI (by rw [stK, if_pos h11])), rfl, rfl, rfl⟩)

set_option maxRecDepth 20000 in
theorem X_clashes (K : GK) {σ : GS} {L : List Nat} {z : Nat} {g b : Nat} {w h : Nat} {ru : Int32} {pl : Nat} {bo0 bo1 : Int32} {D : Nat → RD} {rows : Nat → Nat → Int32} (hG : gmI K L σ g b ru pl bo0 bo1 D) (hsb : σ b = bdA w h) (hw1 : 4 ≤ w) (hw2 : w ≤ 7) (hh1 : 4 ≤ h) (hh2 : h ≤ 7) (hP : gmP (w * h) pl D rows) : gT K yX2_clashes cX2_clashes 3 (some .int) 1 [.ref g] z L (σ) (some (.int (nI (clX D pl)))) (σ) := by
  have hn : w * h ≤ 49 := Nat.mul_le_mul hw2 hh2
  have hn1 : 16 ≤ w * h := Nat.mul_le_mul hw1 hh1
  have hn49 : w * h ≤ 49 := hn
  obtain ⟨m0, m2, m3, m4, hbL⟩ := hG.1
  have s0 := hG.2.1
  have s2 := hG.2.2.1
  have hpl := hP.1
  have hlat := gm_lat hG hP
  refine g_intro [some (.ref g), none, none] (fun Γ hC => ?_) (by simp [g_en, lv_args, Value.category])
  refine g_iconst (n := 1) (v := (nI 0)) hC (by decide) dX2_clashes_0 ?_
  refine g_istore_n (n := 2) (ll1 := [some (.ref g), some (.int (nI 0)), none]) hC dX2_clashes_1 rfl ?_
  refine g_iconst (n := 3) (v := (nI 0)) hC (by decide) dX2_clashes_2 ?_
  refine g_istore_n (n := 4) (ll1 := [some (.ref g), some (.int (nI 0)), some (.int (nI 0))]) hC dX2_clashes_3 rfl ?_
  have lp4 : ∀ (n9 : Nat) (i : Nat) (hi : i ≤ pl) (y1 : Int32) (ey1 : y1 = (nI (clX D i))) (y2 : Int32) (ey2 : y2 = (nI i)) (hm9 : pl - i < n9), G K Γ (z, 0, 0, L) (σ) 4 [some (.ref g), some (.int y1), some (.int y2)] [] := by
    intro n9
    induction n9 with
    | zero =>
      intro i hi y1 ey1 y2 ey2 hm9
      exact absurd hm9 (Nat.not_lt_zero _)
    | succ n9 ih4 =>
      intro i hi y1 ey1 y2 ey2 hm9
      subst ey1
      subst ey2
      refine g_iload_n (n := 5) hC rfl dX2_clashes_4 ?_
      refine g_aload_n (n := 6) hC rfl dX2_clashes_5 ?_
      refine g_getf (n := 9) (v := .int (nI pl)) hC gf_X2_60 (m0) (s0) rfl dX2_clashes_6 ?_
      refine g_icmp_geN (n := 12) (tgt := 44) hC (by omega) (by omega) dX2_clashes_9 (fun h9 => ?_) (fun h9 => ?_)
      ·
        refine g_iload_n (n := 45) hC rfl dX2_clashes_44 ?_
        exact g_iret hC dX2_clashes_45 (⟨rI (by rw [show i = pl by omega]), rfl, rfl, rfl⟩)
      ·
        refine g_iload_n (n := 13) hC rfl dX2_clashes_12 ?_
        refine g_bipush (n := 15) (v := (nI 60)) hC (by decide) dX2_clashes_13 ?_
        refine g_icmp_geN (n := 18) (tgt := 44) hC (by omega) (by omega) dX2_clashes_15 (fun h15 => absurd h15 (by omega)) (fun h15 => ?_)
        refine g_iload_n (n := 19) hC rfl dX2_clashes_18 ?_
        refine g_aload_n (n := 20) hC rfl dX2_clashes_19 ?_
        refine g_getf (n := 23) (v := .ref (g + 2)) hC gf_X2_26 (m0) (s0) rfl dX2_clashes_20 ?_
        refine g_iload_n (n := 24) hC rfl dX2_clashes_23 ?_
        refine g_aald (n := 25) (j := i) (v := (g + 5 + 4 * i)) hC (m2) (s2) (rfl) (by omega) (by decide) (rds_at (by omega)) dX2_clashes_24 ?_
        have hri1 := gm_rdI hG hP (r := i) (by omega)
        refine g_cV (n := 28) hC gv_X2_123 (hri1.1.1) (hri1.2.1) (X_isClash K hri1 hn49 ) dX2_clashes_25 ?_
        refine g_ifb_eq (n := 31) (tgt := 35) hC dX2_clashes_28 (fun h28 => ?_) (fun h28 => ?_)
        ·
          refine g_iconst (n := 36) (v := (nI 0)) hC (by decide) dX2_clashes_35 ?_
          refine g_iaddN (n := 37) hC dX2_clashes_36 ?_
          refine g_istore_n (n := 38) (ll1 := [some (.ref g), some (.int (nI ((clX D i) + 0))), some (.int (nI i))]) hC dX2_clashes_37 rfl ?_
          refine g_iinc (n := 41) (ll1 := [some (.ref g), some (.int (nI ((clX D i) + 0))), some (.int (nI (i + 1)))]) hC dX2_clashes_38 rfl (nI_inc _) rfl ?_
          refine g_goto (n := 4) hC dX2_clashes_41 ?_
          exact ih4 (i + 1) (by omega) _ (congrArg nI (ix_n (decide_eq_false h28))) _ (by first | rfl | (simp [*]; done)) (by omega)
        ·
          refine g_iconst (n := 32) (v := (nI 1)) hC (by decide) dX2_clashes_31 ?_
          refine g_goto (n := 36) hC dX2_clashes_32 ?_
          refine g_iaddN (n := 37) hC dX2_clashes_36 ?_
          refine g_istore_n (n := 38) (ll1 := [some (.ref g), some (.int (nI ((clX D i) + 1))), some (.int (nI i))]) hC dX2_clashes_37 rfl ?_
          refine g_iinc (n := 41) (ll1 := [some (.ref g), some (.int (nI ((clX D i) + 1))), some (.int (nI (i + 1)))]) hC dX2_clashes_38 rfl (nI_inc _) rfl ?_
          refine g_goto (n := 4) hC dX2_clashes_41 ?_
          exact ih4 (i + 1) (by omega) _ (congrArg nI (ix_s (decide_eq_true h28))) _ (by first | rfl | (simp [*]; done)) (by omega)
  exact lp4 _ 0 (by omega) _ (rfl) _ (by first | rfl | (simp [*]; done)) (Nat.lt_succ_self _)

set_option maxRecDepth 20000 in
theorem X_gwaves (K : GK) {σ : GS} {L : List Nat} {z : Nat} {g b : Nat} {w h : Nat} {ru : Int32} {pl : Nat} {bo0 bo1 : Int32} {D : Nat → RD} {rows : Nat → Nat → Int32} (hG : gmI K L σ g b ru pl bo0 bo1 D) (hsb : σ b = bdA w h) (hw1 : 4 ≤ w) (hw2 : w ≤ 7) (hh1 : 4 ≤ h) (hh2 : h ≤ 7) (hP : gmP (w * h) pl D rows) : gT K yX2_waves cX2_waves 3 (some .int) 1 [.ref g] z L (σ) (some (.int (nI (smX D pl)))) (σ) := by
  have hn : w * h ≤ 49 := Nat.mul_le_mul hw2 hh2
  have hn1 : 16 ≤ w * h := Nat.mul_le_mul hw1 hh1
  have hn49 : w * h ≤ 49 := hn
  obtain ⟨m0, m2, m3, m4, hbL⟩ := hG.1
  have s0 := hG.2.1
  have s2 := hG.2.2.1
  have hpl := hP.1
  have hlat := gm_lat hG hP
  refine g_intro [some (.ref g), none, none] (fun Γ hC => ?_) (by simp [g_en, lv_args, Value.category])
  refine g_iconst (n := 1) (v := (nI 0)) hC (by decide) dX2_waves_0 ?_
  refine g_istore_n (n := 2) (ll1 := [some (.ref g), some (.int (nI 0)), none]) hC dX2_waves_1 rfl ?_
  refine g_iconst (n := 3) (v := (nI 0)) hC (by decide) dX2_waves_2 ?_
  refine g_istore_n (n := 4) (ll1 := [some (.ref g), some (.int (nI 0)), some (.int (nI 0))]) hC dX2_waves_3 rfl ?_
  have lp4 : ∀ (n9 : Nat) (i : Nat) (hi : i ≤ pl) (y1 : Int32) (ey1 : y1 = (nI (smX D i))) (y2 : Int32) (ey2 : y2 = (nI i)) (hm9 : pl - i < n9), G K Γ (z, 0, 0, L) (σ) 4 [some (.ref g), some (.int y1), some (.int y2)] [] := by
    intro n9
    induction n9 with
    | zero =>
      intro i hi y1 ey1 y2 ey2 hm9
      exact absurd hm9 (Nat.not_lt_zero _)
    | succ n9 ih4 =>
      intro i hi y1 ey1 y2 ey2 hm9
      subst ey1
      subst ey2
      refine g_iload_n (n := 5) hC rfl dX2_waves_4 ?_
      refine g_aload_n (n := 6) hC rfl dX2_waves_5 ?_
      refine g_getf (n := 9) (v := .int (nI pl)) hC gf_X2_60 (m0) (s0) rfl dX2_waves_6 ?_
      refine g_icmp_geN (n := 12) (tgt := 36) hC (by omega) (by omega) dX2_waves_9 (fun h9 => ?_) (fun h9 => ?_)
      ·
        refine g_iload_n (n := 37) hC rfl dX2_waves_36 ?_
        exact g_iret hC dX2_waves_37 (⟨rI (by rw [show i = pl by omega]), rfl, rfl, rfl⟩)
      ·
        refine g_iload_n (n := 13) hC rfl dX2_waves_12 ?_
        refine g_bipush (n := 15) (v := (nI 60)) hC (by decide) dX2_waves_13 ?_
        refine g_icmp_geN (n := 18) (tgt := 36) hC (by omega) (by omega) dX2_waves_15 (fun h15 => absurd h15 (by omega)) (fun h15 => ?_)
        refine g_iload_n (n := 19) hC rfl dX2_waves_18 ?_
        refine g_aload_n (n := 20) hC rfl dX2_waves_19 ?_
        refine g_getf (n := 23) (v := .ref (g + 2)) hC gf_X2_26 (m0) (s0) rfl dX2_waves_20 ?_
        refine g_iload_n (n := 24) hC rfl dX2_waves_23 ?_
        refine g_aald (n := 25) (j := i) (v := (g + 5 + 4 * i)) hC (m2) (s2) (rfl) (by omega) (by decide) (rds_at (by omega)) dX2_waves_24 ?_
        have hri1 := gm_rdI hG hP (r := i) (by omega)
        refine g_cV (n := 28) hC gv_X2_127 (hri1.1.1) (hri1.2.1) (X_rwaves K hri1 hn49 ) dX2_waves_25 ?_
        refine g_iaddN (n := 29) hC dX2_waves_28 ?_
        refine g_istore_n (n := 30) (ll1 := [some (.ref g), some (.int (nI ((smX D i) + (wvn (D i).2.2.1 8)))), some (.int (nI i))]) hC dX2_waves_29 rfl ?_
        refine g_iinc (n := 33) (ll1 := [some (.ref g), some (.int (nI ((smX D i) + (wvn (D i).2.2.1 8)))), some (.int (nI (i + 1)))]) hC dX2_waves_30 rfl (nI_inc _) rfl ?_
        refine g_goto (n := 4) hC dX2_waves_33 ?_
        exact ih4 (i + 1) (by omega) _ (by first | rfl | (simp [*]; done)) _ (by first | rfl | (simp [*]; done)) (by omega)
  exact lp4 _ 0 (by omega) _ (by first | rfl | (simp [*]; done)) _ (by first | rfl | (simp [*]; done)) (Nat.lt_succ_self _)

set_option maxRecDepth 20000 in
theorem X_passes (K : GK) {σ : GS} {L : List Nat} {z : Nat} {g b : Nat} {w h : Nat} {ru : Int32} {pl : Nat} {bo0 bo1 : Int32} {D : Nat → RD} {rows : Nat → Nat → Int32} (hG : gmI K L σ g b ru pl bo0 bo1 D) (hsb : σ b = bdA w h) (hw1 : 4 ≤ w) (hw2 : w ≤ 7) (hh1 : 4 ≤ h) (hh2 : h ≤ 7) (hP : gmP (w * h) pl D rows) {p : Nat} (hp : p ≤ 1) : gT K yX2_passes cX2_passes 4 (some .int) 1 [.ref g, .int (nI p)] z L (σ) (some (.int (nI (paX D p pl)))) (σ) := by
  have hn : w * h ≤ 49 := Nat.mul_le_mul hw2 hh2
  have hn1 : 16 ≤ w * h := Nat.mul_le_mul hw1 hh1
  have hn49 : w * h ≤ 49 := hn
  obtain ⟨m0, m2, m3, m4, hbL⟩ := hG.1
  have s0 := hG.2.1
  have s2 := hG.2.2.1
  have hpl := hP.1
  have hlat := gm_lat hG hP
  refine g_intro [some (.ref g), some (.int (nI p)), none, none] (fun Γ hC => ?_) (by simp [g_en, lv_args, Value.category])
  refine g_iconst (n := 1) (v := (nI 0)) hC (by decide) dX2_passes_0 ?_
  refine g_istore_n (n := 2) (ll1 := [some (.ref g), some (.int (nI p)), some (.int (nI 0)), none]) hC dX2_passes_1 rfl ?_
  refine g_iconst (n := 3) (v := (nI 0)) hC (by decide) dX2_passes_2 ?_
  refine g_istore_n (n := 4) (ll1 := [some (.ref g), some (.int (nI p)), some (.int (nI 0)), some (.int (nI 0))]) hC dX2_passes_3 rfl ?_
  have lp4 : ∀ (n9 : Nat) (i : Nat) (hi : i ≤ pl) (y2 : Int32) (ey2 : y2 = (nI (paX D p i))) (y3 : Int32) (ey3 : y3 = (nI i)) (hm9 : pl - i < n9), G K Γ (z, 0, 0, L) (σ) 4 [some (.ref g), some (.int (nI p)), some (.int y2), some (.int y3)] [] := by
    intro n9
    induction n9 with
    | zero =>
      intro i hi y2 ey2 y3 ey3 hm9
      exact absurd hm9 (Nat.not_lt_zero _)
    | succ n9 ih4 =>
      intro i hi y2 ey2 y3 ey3 hm9
      subst ey2
      subst ey3
      refine g_iload_n (n := 5) hC rfl dX2_passes_4 ?_
      refine g_aload_n (n := 6) hC rfl dX2_passes_5 ?_
      refine g_getf (n := 9) (v := .int (nI pl)) hC gf_X2_60 (m0) (s0) rfl dX2_passes_6 ?_
      refine g_icmp_geN (n := 12) (tgt := 46) hC (by omega) (by omega) dX2_passes_9 (fun h9 => ?_) (fun h9 => ?_)
      ·
        refine g_iload_n (n := 47) hC rfl dX2_passes_46 ?_
        exact g_iret hC dX2_passes_47 (⟨rI (by rw [show i = pl by omega]), rfl, rfl, rfl⟩)
      ·
        refine g_iload_n (n := 13) hC rfl dX2_passes_12 ?_
        refine g_bipush (n := 15) (v := (nI 60)) hC (by decide) dX2_passes_13 ?_
        refine g_icmp_geN (n := 18) (tgt := 46) hC (by omega) (by omega) dX2_passes_15 (fun h15 => absurd h15 (by omega)) (fun h15 => ?_)
        refine g_iload_n (n := 19) hC rfl dX2_passes_18 ?_
        refine g_aload_n (n := 20) hC rfl dX2_passes_19 ?_
        refine g_getf (n := 23) (v := .ref (g + 2)) hC gf_X2_26 (m0) (s0) rfl dX2_passes_20 ?_
        refine g_iload_n (n := 24) hC rfl dX2_passes_23 ?_
        refine g_aald (n := 25) (j := i) (v := (g + 5 + 4 * i)) hC (m2) (s2) (rfl) (by omega) (by decide) (rds_at (by omega)) dX2_passes_24 ?_
        refine g_iload_n (n := 26) hC rfl dX2_passes_25 ?_
        have hri1 := gm_rdI hG hP (r := i) (by omega)
        refine g_cV (n := 29) hC gv_X2_130 (hri1.1.1) (hri1.2.1) (X_rchoice K hri1 hn49 hp) dX2_passes_26 ?_
        refine g_iconst (n := 30) (v := (-1)) hC (by decide) dX2_passes_29 ?_
        refine g_icmp_ne (n := 33) (tgt := 37) hC dX2_passes_30 (fun h30 => ?_) (fun h30 => ?_)
        ·
          refine g_iconst (n := 38) (v := (nI 0)) hC (by decide) dX2_passes_37 ?_
          refine g_iaddN (n := 39) hC dX2_passes_38 ?_
          refine g_istore_n (n := 40) (ll1 := [some (.ref g), some (.int (nI p)), some (.int (nI ((paX D p i) + 0))), some (.int (nI i))]) hC dX2_passes_39 rfl ?_
          refine g_iinc (n := 43) (ll1 := [some (.ref g), some (.int (nI p)), some (.int (nI ((paX D p i) + 0))), some (.int (nI (i + 1)))]) hC dX2_passes_40 rfl (nI_inc _) rfl ?_
          refine g_goto (n := 4) hC dX2_passes_43 ?_
          exact ih4 (i + 1) (by omega) _ (congrArg nI (ix_n (decide_eq_false h30))) _ (by first | rfl | (simp [*]; done)) (by omega)
        ·
          refine g_iconst (n := 34) (v := (nI 1)) hC (by decide) dX2_passes_33 ?_
          refine g_goto (n := 38) hC dX2_passes_34 ?_
          refine g_iaddN (n := 39) hC dX2_passes_38 ?_
          refine g_istore_n (n := 40) (ll1 := [some (.ref g), some (.int (nI p)), some (.int (nI ((paX D p i) + 1))), some (.int (nI i))]) hC dX2_passes_39 rfl ?_
          refine g_iinc (n := 43) (ll1 := [some (.ref g), some (.int (nI p)), some (.int (nI ((paX D p i) + 1))), some (.int (nI (i + 1)))]) hC dX2_passes_40 rfl (nI_inc _) rfl ?_
          refine g_goto (n := 4) hC dX2_passes_43 ?_
          exact ih4 (i + 1) (by omega) _ (congrArg nI (ix_s (decide_eq_true h30))) _ (by first | rfl | (simp [*]; done)) (by omega)
  exact lp4 _ 0 (by omega) _ (rfl) _ (by first | rfl | (simp [*]; done)) (Nat.lt_succ_self _)

set_option maxRecDepth 20000 in
theorem X_roundOf (K : GK) {σ : GS} {L : List Nat} {z : Nat} {g b : Nat} {w h : Nat} {ru : Int32} {pl : Nat} {bo0 bo1 : Int32} {D : Nat → RD} {rows : Nat → Nat → Int32} (hG : gmI K L σ g b ru pl bo0 bo1 D) (hsb : σ b = bdA w h) (hw1 : 4 ≤ w) (hw2 : w ≤ 7) (hh1 : 4 ≤ h) (hh2 : h ≤ 7) (hP : gmP (w * h) pl D rows) {q : Nat} (hq : q < 49) : gT K yX2_roundThatChanged cX2_roundThatChanged 4 (some .int) 2 [.ref g, .int (nI q)] z L (σ) (some (.int (rtX D q pl))) (σ) := by
  have hn : w * h ≤ 49 := Nat.mul_le_mul hw2 hh2
  have hn1 : 16 ≤ w * h := Nat.mul_le_mul hw1 hh1
  have hn49 : w * h ≤ 49 := hn
  obtain ⟨m0, m2, m3, m4, hbL⟩ := hG.1
  have s0 := hG.2.1
  have s2 := hG.2.2.1
  have hpl := hP.1
  have hlat := gm_lat hG hP
  refine g_intro [some (.ref g), some (.int (nI q)), none, none] (fun Γ hC => ?_) (by simp [g_en, lv_args, Value.category])
  refine g_iconst (n := 1) (v := (-1)) hC (by decide) dX2_roundThatChanged_0 ?_
  refine g_istore_n (n := 2) (ll1 := [some (.ref g), some (.int (nI q)), some (.int (-1)), none]) hC dX2_roundThatChanged_1 rfl ?_
  refine g_iconst (n := 3) (v := (nI 0)) hC (by decide) dX2_roundThatChanged_2 ?_
  refine g_istore_n (n := 4) (ll1 := [some (.ref g), some (.int (nI q)), some (.int (-1)), some (.int (nI 0))]) hC dX2_roundThatChanged_3 rfl ?_
  have lp4 : ∀ (n9 : Nat) (i : Nat) (hi : i ≤ pl) (y2 : Int32) (ey2 : y2 = (rtX D q i)) (y3 : Int32) (ey3 : y3 = (nI i)) (hm9 : pl - i < n9), G K Γ (z, 0, 0, L) (σ) 4 [some (.ref g), some (.int (nI q)), some (.int y2), some (.int y3)] [] := by
    intro n9
    induction n9 with
    | zero =>
      intro i hi y2 ey2 y3 ey3 hm9
      exact absurd hm9 (Nat.not_lt_zero _)
    | succ n9 ih4 =>
      intro i hi y2 ey2 y3 ey3 hm9
      subst ey2
      subst ey3
      refine g_iload_n (n := 5) hC rfl dX2_roundThatChanged_4 ?_
      refine g_aload_n (n := 6) hC rfl dX2_roundThatChanged_5 ?_
      refine g_getf (n := 9) (v := .int (nI pl)) hC gf_X2_60 (m0) (s0) rfl dX2_roundThatChanged_6 ?_
      refine g_icmp_geN (n := 12) (tgt := 39) hC (by omega) (by omega) dX2_roundThatChanged_9 (fun h9 => ?_) (fun h9 => ?_)
      ·
        refine g_iload_n (n := 40) hC rfl dX2_roundThatChanged_39 ?_
        exact g_iret hC dX2_roundThatChanged_40 (⟨rI (by rw [show i = pl by omega]), rfl, rfl, rfl⟩)
      ·
        refine g_iload_n (n := 13) hC rfl dX2_roundThatChanged_12 ?_
        refine g_bipush (n := 15) (v := (nI 60)) hC (by decide) dX2_roundThatChanged_13 ?_
        refine g_icmp_geN (n := 18) (tgt := 39) hC (by omega) (by omega) dX2_roundThatChanged_15 (fun h15 => absurd h15 (by omega)) (fun h15 => ?_)
        refine g_aload_n (n := 19) hC rfl dX2_roundThatChanged_18 ?_
        refine g_getf (n := 22) (v := .ref (g + 2)) hC gf_X2_26 (m0) (s0) rfl dX2_roundThatChanged_19 ?_
        refine g_iload_n (n := 23) hC rfl dX2_roundThatChanged_22 ?_
        refine g_aald (n := 24) (j := i) (v := (g + 5 + 4 * i)) hC (m2) (s2) (rfl) (by omega) (by decide) (rds_at (by omega)) dX2_roundThatChanged_23 ?_
        refine g_iload_n (n := 25) hC rfl dX2_roundThatChanged_24 ?_
        have hri1 := gm_rdI hG hP (r := i) (by omega)
        refine g_cV (n := 28) hC gv_X2_133 (hri1.1.1) (hri1.2.1) (X_changed K hri1 hn49 hq) dX2_roundThatChanged_25 ?_
        refine g_ifb_eq (n := 31) (tgt := 33) hC dX2_roundThatChanged_28 (fun h28 => ?_) (fun h28 => ?_)
        ·
          refine g_iinc (n := 36) (ll1 := [some (.ref g), some (.int (nI q)), some (.int (rtX D q i)), some (.int (nI (i + 1)))]) hC dX2_roundThatChanged_33 rfl (nI_inc _) rfl ?_
          refine g_goto (n := 4) hC dX2_roundThatChanged_36 ?_
          exact ih4 (i + 1) (by omega) _ ((by rw [rtX]; exact (if_neg h28).symm)) _ (by first | rfl | (simp [*]; done)) (by omega)
        ·
          refine g_iload_n (n := 32) hC rfl dX2_roundThatChanged_31 ?_
          refine g_istore_n (n := 33) (ll1 := [some (.ref g), some (.int (nI q)), some (.int (nI i)), some (.int (nI i))]) hC dX2_roundThatChanged_32 rfl ?_
          refine g_iinc (n := 36) (ll1 := [some (.ref g), some (.int (nI q)), some (.int (nI i)), some (.int (nI (i + 1)))]) hC dX2_roundThatChanged_33 rfl (nI_inc _) rfl ?_
          refine g_goto (n := 4) hC dX2_roundThatChanged_36 ?_
          exact ih4 (i + 1) (by omega) _ ((by rw [rtX]; exact (if_pos h28).symm)) _ (by first | rfl | (simp [*]; done)) (by omega)
  exact lp4 _ 0 (by omega) _ (rfl) _ (by first | rfl | (simp [*]; done)) (Nat.lt_succ_self _)
