/-! ===== the class: a game begins, is copied, is made ===== -/
section AA
variable {K : GK} {Γ : GX} {cc : ByteArray} {nL d mc ms : Nat} {own mn : String} {rt : Option FieldType} {Po : GP} {ω : GO} {σ : GS} {pc n : Nat} {ll ll1 : List (Option Value)} {r : List Value}
theorem g_aast (hC : gC K Γ cc nL own mn d mc ms rt Po) {a N j v : Nat} {f : Nat → Option Nat} {vs : List Value} (ha : a ∈ ω.2.2.2) (hσ : σ a = rA K N f) (hj : j < N) (hN : N < 2 ^ 31) (hv : v ∈ ω.2.2.2) (hσv : σ v = .inr (6, vs)) (hd : decode cc pc = .ok (.aastore, 1)) (kk : G K Γ ω (va_up σ a (rA K N (va_up f j (some v)))) n ll r) (hn : n = pc + 1 := by rfl) : G K Γ ω σ pc ll (.ref v :: .int (nI j) :: .ref a :: r) := by
  subst hn
  obtain ⟨l, D, cy⟩ := K
  obtain ⟨p, e, R, s, m, args, below, meth, c, A, H0, Q⟩ := Γ
  obtain ⟨z, k9, n9, L⟩ := ω
  obtain ⟨⟨hx, hb, hml, hown, hts⟩, hrt, hlk, ⟨hK, hEv⟩, hA, hR, hmn, hE⟩ := hC
  intro H locs ls hz hW hS hl
  obtain ⟨q0, hq⟩ := g_pk ha hσ
  obtain ⟨qk, hqk⟩ := g_pk hv hσv
  have hin : ¬ (nI j < 0 ∨ N ≤ (nI j).toNatClampNeg) := vp_in_nI hj hN
  have hlt : (nI j).toNatClampNeg < N := Nat.not_le.mp fun q => hin (Or.inr q)
  have h0 : ¬ nI j < 0 := fun q => hin (Or.inl q)
  obtain ⟨r', hr', cellV, g1, g2, g3, -⟩ := hW.1 qk _ hqk
  have hcls := (hK.1 6 (RX6, TX6, 7) rfl).2
  obtain ⟨kA, comp, k1, k2, k3, -⟩ := (hK.2 3 _ rfl).2
  have hcomp : comp = D.1 6 := Option.some.inj (k3.symm.trans hcls.1)
  subst hcomp
  obtain ⟨kC, hkC, -⟩ := hcls.2
  refine W.aast hx hb (hW.1 q0 _ hq) (fun q h => by cases h) (fun h => by cases h) k1 k2 rfl hkC ⟨h0, by show _ < (arrV _ _ _).slots.size; rw [arrV_size]; exact hlt⟩ g1 (fun q h => by rw [g3] at h; cases h) (by rw [g2]; exact hkC) (by rw [g2]; exact va_assign hcls) rfl rfl hd fun H1 e z9 oq => ?_
  refine kk H1 _ ls (z9.trans hz) (hW.up ha ?_ oq) (hS.put z9 oq (hW.A ha)) hl
  show H1[a]? = some (vp_cell _ _)
  rw [e]
  rw [vp_cell_q, vp_cell_q, arrV_store, nI_clamp (Nat.lt_trans hj hN)]
  congr 2
  funext q
  by_cases hq : q = j
  · subst hq
    simp [updV, va_up, va_rf]
  · simp [updV, va_up, hq]
end AA
theorem rdD_mono {K : GK} {L L' : List Nat} {σ : GS} {a : Nat} {d : RD} (hL : ∀ b, b ∈ L → b ∈ L') (h : rdD K L σ a d) : rdD K L' σ a d := ⟨⟨hL _ h.1.1, hL _ h.1.2.1, hL _ h.1.2.2.1, hL _ h.1.2.2.2⟩, h.2⟩
theorem rdD_eq {K : GK} {L : List Nat} {σ σ' : GS} {a : Nat} {d : RD} (he : ∀ b, a ≤ b → b ≤ a + 3 → σ' b = σ b) (h : rdD K L σ a d) : rdD K L σ' a d := ⟨h.1, by rw [he _ (by omega) (by omega)]; exact h.2.1, by rw [he _ (by omega) (by omega)]; exact h.2.2.1, by rw [he _ (by omega) (by omega)]; exact h.2.2.2.1, by rw [he _ (by omega) (by omega)]; exact h.2.2.2.2⟩
theorem ladd_ladd {L : List Nat} {z k : Nat} : ∀ m, ladd (ladd L z k) (z + k) m = ladd L z (k + m)
  | 0 => rfl
  | m + 1 => by rw [ladd, ladd_ladd m, ← Nat.add_assoc, ladd, Nat.add_assoc z k m]
theorem psU_giv {K : GK} {σ : GS} {a n s : Nat} {x : Int32} {f : Nat → Int32} (hn : n ≤ 49) : va_up (psU K σ a n f) (a + 1) (lA K 6 (psS n (givF n x s f))) = psU K σ a n (givF n x s f) := by
  rw [psU, psU, va_upc (by omega), bx_uu, psO_giv hn]
/-- the position with k stones of a handicap -/
def hdF (n w h : Nat) : Nat → Nat → Int32
  | 0 => fun _ => nI 0
  | k + 1 => givF n (nI (hcC w h k)) 2 (hdF n w h k)
theorem psU_at {K : GK} {σ : GS} {a n b : Nat} {f : Nat → Int32} (h : b < a ∨ a + 1 < b) : psU K σ a n f b = σ b := by rw [psU, va_up_ne _ _ (by omega), va_up_ne _ _ (by omega)]
theorem psU_a {K : GK} {σ : GS} {a n : Nat} {f : Nat → Int32} : psU K σ a n f a = psO a f := va_up_self _ _ _
theorem psU_b {K : GK} {σ : GS} {a n : Nat} {f : Nat → Int32} : psU K σ a n f (a + 1) = lA K 6 (psS n f) := by rw [psU, va_up_ne _ _ (by omega), va_up_self]
theorem psU_g {K : GK} {σ : GS} {a n g : Nat} {f : Nat → Int32} {w1 w2 : va_E} (h : g < a ∨ a + 1 < g) : va_up (psU K (va_up σ g w1) a n f) g w2 = va_up (psU K σ a n f) g w2 := by
  funext b
  by_cases e : b = g
  · subst e; rw [va_up_self, va_up_self]
  · rw [va_up_ne _ _ e, va_up_ne _ _ e]
    by_cases e1 : b < a ∨ a + 1 < b
    · rw [psU_at e1, psU_at e1, va_up_ne _ _ e]
    · rcases (show b = a ∨ b = a + 1 by omega) with rfl | rfl
      · rw [psU_a, psU_a]
      · rw [psU_b, psU_b]
/-- i rounds have been copied -/
def cpW (K : GK) (σ : GS) (g n : Nat) (D : Nat → RD) (rows : Nat → Nat → Int32) : Nat → GS
  | 0 => σ
  | i + 1 => rdU K (cpW K σ g n D rows i) (g + 5 + 4 * i) n (D i).1 (D i).2.1 (D i).2.2.1 (rows (i + 1))
section CW
variable {K : GK} {L : List Nat} {σ : GS} {g n : Nat} {D : Nat → RD} {rows : Nat → Nat → Int32}
theorem cpW_o {a : Nat} : ∀ i, (a < g + 5 ∨ g + 5 + 4 * i ≤ a) → cpW K σ g n D rows i a = σ a
  | 0, _ => rfl
  | i + 1, h => by rw [cpW, rdU_o (by omega)]; exact cpW_o i (by omega)
theorem cpW_r {r : Nat} : ∀ i, r < i → ∀ b, g + 5 + 4 * r ≤ b → b ≤ g + 5 + 4 * r + 3 → cpW K σ g n D rows i b = rdU K σ (g + 5 + 4 * r) n (D r).1 (D r).2.1 (D r).2.2.1 (rows (r + 1)) b
  | 0, h, _, _, _ => absurd h (Nat.not_lt_zero _)
  | i + 1, h, b, h1, h2 => by
    rw [cpW]
    by_cases e : r = i
    · subst e
      rcases (show b = g + 5 + 4 * r ∨ b = g + 5 + 4 * r + 1 ∨ b = g + 5 + 4 * r + 1 + 1 ∨ b = g + 5 + 4 * r + 3 by omega) with rfl | rfl | rfl | rfl
      · rw [rdU_0, rdU_0]
      · rw [rdU_1, rdU_1]
      · rw [rdU_2, rdU_2]
      · rw [rdU_3, rdU_3]
    · rw [rdU_o (by omega)]
      exact cpW_r i (by omega) b h1 h2
end CW

set_option maxRecDepth 20000 in
theorem X_handicapCell (K : GK) {σ : GS} {L : List Nat} {z : Nat} {g b : Nat} {w h : Nat} {o9 : List Value} (m0 : g ∈ L) (hbL : b ∈ L) (s0 : σ g = .inr (2, .ref b :: o9)) (hsb : σ b = bdA w h) (hw1 : 4 ≤ w) (hw2 : w ≤ 7) (hh1 : 4 ≤ h) (hh2 : h ≤ 7) {k : Nat} (hk : k < 4) : gT K yX2_handicapCell cX2_handicapCell 4 (some .int) 1 [.ref g, .int (nI k)] z L (σ) (some (.int (nI (hcC w h k)))) (σ) := by
  have hn : w * h ≤ 49 := Nat.mul_le_mul hw2 hh2
  have hn1 : 16 ≤ w * h := Nat.mul_le_mul hw1 hh1
  refine g_intro [some (.ref g), some (.int (nI k)), none, none] (fun Γ hC => ?_) (by simp [g_en, lv_args, Value.category])
  refine g_aload_n (n := 1) hC rfl dX2_handicapCell_0 ?_
  refine g_getf (n := 4) (v := .ref b) hC gf_X2_14 (m0) (s0) rfl dX2_handicapCell_1 ?_
  refine g_getf (n := 7) (v := .int (nI w)) hC gf_X2_46 (hbL) (hsb) rfl dX2_handicapCell_4 ?_
  refine g_iconst (n := 8) (v := (nI 2)) hC (by decide) dX2_handicapCell_7 ?_
  refine g_isubN (n := 9) hC (by omega) dX2_handicapCell_8 ?_
  refine g_istore_n (n := 10) (ll1 := [some (.ref g), some (.int (nI k)), some (.int (nI (w - 2))), none]) hC dX2_handicapCell_9 rfl ?_
  refine g_aload_n (n := 11) hC rfl dX2_handicapCell_10 ?_
  refine g_getf (n := 14) (v := .ref b) hC gf_X2_14 (m0) (s0) rfl dX2_handicapCell_11 ?_
  refine g_getf (n := 17) (v := .int (nI h)) hC gf_X2_49 (hbL) (hsb) rfl dX2_handicapCell_14 ?_
  refine g_iconst (n := 18) (v := (nI 2)) hC (by decide) dX2_handicapCell_17 ?_
  refine g_isubN (n := 19) hC (by omega) dX2_handicapCell_18 ?_
  refine g_istore_n (n := 20) (ll1 := [some (.ref g), some (.int (nI k)), some (.int (nI (w - 2))), some (.int (nI (h - 2)))]) hC dX2_handicapCell_19 rfl ?_
  refine g_iload_n (n := 21) hC rfl dX2_handicapCell_20 ?_
  refine g_tsw (n := 78) hC dX2_handicapCell_21 (by decide) (fun j9 hj9 e9 tgt9 ht9 => ?_) (fun ho9 => ?_)
  · match j9, hj9 with
    | 0, _ =>
      obtain rfl : tgt9 = 48 := by revert ht9; show _ = (_ : Int) → _; intro ht9; exact (by have h8 := ht9; simp at h8; omega)
      have ek := (nI_eq (by omega) (by omega)).mp e9
      subst ek
      refine g_aload_n (n := 49) hC rfl dX2_handicapCell_48 ?_
      refine g_getf (n := 52) (v := .ref b) hC gf_X2_14 (m0) (s0) rfl dX2_handicapCell_49 ?_
      refine g_iconst (n := 53) (v := (nI 1)) hC (by decide) dX2_handicapCell_52 ?_
      refine g_iconst (n := 54) (v := (nI 1)) hC (by decide) dX2_handicapCell_53 ?_
      refine g_cV (n := 57) hC gv_X2_69 (hbL) (hsb) (X_cellAt K hbL hsb hw1 hw2 hh1 hh2 (a := 1) (b := 1)) dX2_handicapCell_54 ?_
      exact g_iret hC dX2_handicapCell_57 (⟨rI rfl, rfl, rfl, rfl⟩)
    | 1, _ =>
      obtain rfl : tgt9 = 58 := by revert ht9; show _ = (_ : Int) → _; intro ht9; exact (by have h8 := ht9; simp at h8; omega)
      have ek := (nI_eq (by omega) (by omega)).mp e9
      subst ek
      refine g_aload_n (n := 59) hC rfl dX2_handicapCell_58 ?_
      refine g_getf (n := 62) (v := .ref b) hC gf_X2_14 (m0) (s0) rfl dX2_handicapCell_59 ?_
      refine g_iload_n (n := 63) hC rfl dX2_handicapCell_62 ?_
      refine g_iload_n (n := 64) hC rfl dX2_handicapCell_63 ?_
      refine g_cV (n := 67) hC gv_X2_69 (hbL) (hsb) (X_cellAt K hbL hsb hw1 hw2 hh1 hh2 (a := w - 2) (b := h - 2)) dX2_handicapCell_64 ?_
      exact g_iret hC dX2_handicapCell_67 (⟨rI rfl, rfl, rfl, rfl⟩)
    | 2, _ =>
      obtain rfl : tgt9 = 68 := by revert ht9; show _ = (_ : Int) → _; intro ht9; exact (by have h8 := ht9; simp at h8; omega)
      have ek := (nI_eq (by omega) (by omega)).mp e9
      subst ek
      refine g_aload_n (n := 69) hC rfl dX2_handicapCell_68 ?_
      refine g_getf (n := 72) (v := .ref b) hC gf_X2_14 (m0) (s0) rfl dX2_handicapCell_69 ?_
      refine g_iload_n (n := 73) hC rfl dX2_handicapCell_72 ?_
      refine g_iconst (n := 74) (v := (nI 1)) hC (by decide) dX2_handicapCell_73 ?_
      refine g_cV (n := 77) hC gv_X2_69 (hbL) (hsb) (X_cellAt K hbL hsb hw1 hw2 hh1 hh2 (a := w - 2) (b := 1)) dX2_handicapCell_74 ?_
      exact g_iret hC dX2_handicapCell_77 (⟨rI rfl, rfl, rfl, rfl⟩)
    | j + 3, hj => exact absurd hj (by simp)
  ·
    refine g_aload_n (n := 79) hC rfl dX2_handicapCell_78 ?_
    refine g_getf (n := 82) (v := .ref b) hC gf_X2_14 (m0) (s0) rfl dX2_handicapCell_79 ?_
    refine g_iconst (n := 83) (v := (nI 1)) hC (by decide) dX2_handicapCell_82 ?_
    refine g_iload_n (n := 84) hC rfl dX2_handicapCell_83 ?_
    refine g_cV (n := 87) hC gv_X2_69 (hbL) (hsb) (X_cellAt K hbL hsb hw1 hw2 hh1 hh2 (a := 1) (b := h - 2)) dX2_handicapCell_84 ?_
    exact g_iret hC dX2_handicapCell_87 (⟨rI (congrArg nI (by
        have h3 : k = 3 := by
          rcases (show k = 0 ∨ k = 1 ∨ k = 2 ∨ k = 3 by omega) with rfl | rfl | rfl | rfl
          · exact absurd rfl (ho9 0 (by decide))
          · exact absurd rfl (ho9 1 (by decide))
          · exact absurd rfl (ho9 2 (by decide))
          · rfl
        subst h3; rfl)), rfl, rfl, rfl⟩)

set_option maxRecDepth 20000 in
set_option maxHeartbeats 2000000 in
theorem X_begin0 (K : GK) {σ : GS} {L : List Nat} {z : Nat} {g b : Nat} {w2 h2 : Nat} {ru : Int32} {pl : Nat} {bo0 bo1 : Int32} {D : Nat → RD} (hG : gmI K L σ g b ru pl bo0 bo1 D) (hsb : σ b = bdA w2 h2) (hT : gmT D) (hbo : b < g ∨ b = g + 1 ∨ g + 245 ≤ b) (hw1 : 4 ≤ w2) (hw2 : w2 ≤ 7) (hh1 : 4 ≤ h2) (hh2 : h2 ≤ 7) {k : Nat} (hk : k ≤ 4) : gT K yX2_begin cX2_begin 5 none 5 [.ref g, .int (nI w2), .int (nI h2), .int (nI k)] z L (σ) none (va_up (psU K (σ) (g + 3) (w2 * h2) (hdF (w2 * h2) w2 h2 k)) g (gmO g b ru 0 (nI 0) (nI 0))) := by
  have hn : w2 * h2 ≤ 49 := Nat.mul_le_mul hw2 hh2
  have hn1 : 16 ≤ w2 * h2 := Nat.mul_le_mul hw1 hh1
  obtain ⟨m0, m2, m3, m4, hbL⟩ := hG.1
  have s0 := hG.2.1
  have s3 := hG.2.2.2.1
  have s4 := hG.2.2.2.2.1
  refine g_intro [some (.ref g), some (.int (nI w2)), some (.int (nI h2)), some (.int (nI k)), none] (fun Γ hC => ?_) (by simp [g_en, lv_args, Value.category])
  refine g_aload_n (n := 1) hC rfl dX2_begin_0 ?_
  refine g_getf (n := 4) (v := .ref b) hC gf_X2_14 (m0) (s0) rfl dX2_begin_1 ?_
  refine g_getf (n := 7) (v := .int (nI w2)) hC gf_X2_46 (hbL) (hsb) rfl dX2_begin_4 ?_
  refine g_iload_n (n := 8) hC rfl dX2_begin_7 ?_
  refine g_icmp_neN (n := 11) (tgt := 22) hC (by omega) (by omega) dX2_begin_8 (fun h8 => absurd rfl h8) (fun h8 => ?_)
  refine g_aload_n (n := 12) hC rfl dX2_begin_11 ?_
  refine g_getf (n := 15) (v := .ref b) hC gf_X2_14 (m0) (s0) rfl dX2_begin_12 ?_
  refine g_getf (n := 18) (v := .int (nI h2)) hC gf_X2_49 (hbL) (hsb) rfl dX2_begin_15 ?_
  refine g_iload_n (n := 19) hC rfl dX2_begin_18 ?_
  refine g_icmp_eqN (n := 22) (tgt := 35) hC (by omega) (by omega) dX2_begin_19 (fun h19 => ?_) (fun h19 => absurd rfl h19)
  refine g_aload_n (n := 36) hC rfl dX2_begin_35 ?_
  refine g_getf (n := 39) (v := .ref (g + 3)) hC gf_X2_33 (m0) (s0) rfl dX2_begin_36 ?_
  refine g_aload_n (n := 40) hC rfl dX2_begin_39 ?_
  refine g_getf (n := 43) (v := .ref b) hC gf_X2_14 (m0) (s0) rfl dX2_begin_40 ?_
  refine g_getf (n := 46) (v := .long (allF (w2 * h2))) hC gf_X2_38 (hbL) (hsb) rfl dX2_begin_43 ?_
  refine g_cVv (n := 49) hC gv_X2_42 (m3) (s3) (X_clear K (a := g + 3) (n := (w2 * h2)) (m3) (m4) (s3) (s4) (hT 60 (by omega)).1 (x := allF (w2 * h2)) rfl) dX2_begin_46 ?_
  refine g_iconst (n := 50) (v := (nI 0)) hC (by decide) dX2_begin_49 ?_
  refine g_istore (n := 52) (ll1 := [some (.ref g), some (.int (nI w2)), some (.int (nI h2)), some (.int (nI k)), some (.int (nI 0))]) hC dX2_begin_50 rfl ?_
  have lp52 : ∀ (n9 : Nat) (i : Nat) (hi : i ≤ k) (y4 : Int32) (ey4 : y4 = (nI i)) (hm9 : k - i < n9), G K Γ (z, 0, 0, L) (psU K (σ) (g + 3) (w2 * h2) (hdF (w2 * h2) w2 h2 i)) 52 [some (.ref g), some (.int (nI w2)), some (.int (nI h2)), some (.int (nI k)), some (.int y4)] [] := by
    intro n9
    induction n9 with
    | zero =>
      intro i hi y4 ey4 hm9
      exact absurd hm9 (Nat.not_lt_zero _)
    | succ n9 ih52 =>
      intro i hi y4 ey4 hm9
      subst ey4
      refine g_iload (n := 54) hC rfl dX2_begin_52 ?_
      refine g_iload_n (n := 55) hC rfl dX2_begin_54 ?_
      refine g_icmp_geN (n := 58) (tgt := 79) hC (by omega) (by omega) dX2_begin_55 (fun h55 => ?_) (fun h55 => ?_)
      ·
        refine g_aload_n (n := 80) hC rfl dX2_begin_79 ?_
        refine g_iconst (n := 81) (v := (nI 0)) hC (by decide) dX2_begin_80 ?_
        refine g_putf (n := 84) hC gp_X2_60 (m0) (((psU_at (by omega)).trans (s0))) dX2_begin_81 ?_
        refine G.eqs (show _ = va_up (psU K (σ) (g + 3) (w2 * h2) (hdF (w2 * h2) w2 h2 i)) g (.inr (2, [.ref b, .int ru, .int (nI 0), .ref (g + 2), .ref (g + 3), .int bo0, .int bo1])) from rfl) ?_
        refine g_aload_n (n := 85) hC rfl dX2_begin_84 ?_
        refine g_iconst (n := 86) (v := (nI 0)) hC (by decide) dX2_begin_85 ?_
        refine g_putf (n := 89) hC gp_X2_63 (m0) (va_up_self _ _ _) dX2_begin_86 ?_
        refine G.eqs (show _ = va_up (psU K (σ) (g + 3) (w2 * h2) (hdF (w2 * h2) w2 h2 i)) g (.inr (2, [.ref b, .int ru, .int (nI 0), .ref (g + 2), .ref (g + 3), .int (nI 0), .int bo1])) from bx_uu _ _ _ _) ?_
        refine g_aload_n (n := 90) hC rfl dX2_begin_89 ?_
        refine g_iconst (n := 91) (v := (nI 0)) hC (by decide) dX2_begin_90 ?_
        refine g_putf (n := 94) hC gp_X2_66 (m0) (va_up_self _ _ _) dX2_begin_91 ?_
        refine G.eqs (show _ = va_up (psU K (σ) (g + 3) (w2 * h2) (hdF (w2 * h2) w2 h2 i)) g (.inr (2, [.ref b, .int ru, .int (nI 0), .ref (g + 2), .ref (g + 3), .int (nI 0), .int (nI 0)])) from bx_uu _ _ _ _) ?_
        exact g_vret hC dX2_begin_94 (⟨rfl, rfl, rfl, (by rw [show i = k by omega]; rfl)⟩)
      ·
        refine g_aload_n (n := 59) hC rfl dX2_begin_58 ?_
        refine g_getf (n := 62) (v := .ref (g + 3)) hC gf_X2_33 (m0) (((psU_at (by omega)).trans (s0))) rfl dX2_begin_59 ?_
        refine g_aload_n (n := 63) hC rfl dX2_begin_62 ?_
        refine g_iload (n := 65) hC rfl dX2_begin_63 ?_
        refine g_cV (n := 68) hC gv_X2_52 (m0) (((psU_at (by omega)).trans (s0))) (X_handicapCell K (m0) (hbL) (((psU_at (by omega)).trans (s0))) (((psU_at (by omega)).trans (hsb))) hw1 hw2 hh1 hh2 (k := i) (by omega)) dX2_begin_65 ?_
        refine g_iconst (n := 69) (v := (nI 2)) hC (by decide) dX2_begin_68 ?_
        refine g_cV (n := 72) hC gv_X2_56 (m3) (psU_a) (X_give K (m3) (m4) psU_a psU_b hn (x := nI (hcC w2 h2 i)) (s := 2) (Or.inr ⟨_, hcC_lt hw1 hh1, rfl⟩) (by omega)) dX2_begin_69 ?_
        refine G.eqs (show _ = psU K (σ) (g + 3) (w2 * h2) (hdF (w2 * h2) w2 h2 (i + 1)) from psU_giv hn) ?_
        refine g_pop2 (n := 73) hC rfl dX2_begin_72 ?_
        refine g_iinc (n := 76) (ll1 := [some (.ref g), some (.int (nI w2)), some (.int (nI h2)), some (.int (nI k)), some (.int (nI (i + 1)))]) hC dX2_begin_73 rfl (nI_inc _) rfl ?_
        refine g_goto (n := 52) hC dX2_begin_76 ?_
        exact ih52 (i + 1) (by omega) _ (by first | rfl | (simp [*]; done)) (by omega)
  refine G.eqs (show _ = psU K (σ) (g + 3) (w2 * h2) (hdF (w2 * h2) w2 h2 0) from rfl) ?_
  exact lp52 _ 0 (by omega) _ (by first | rfl | (simp [*]; done)) (Nat.lt_succ_self _)

set_option maxRecDepth 20000 in
set_option maxHeartbeats 2000000 in
theorem X_begin1 (K : GK) {σ : GS} {L : List Nat} {z : Nat} {g b : Nat} {w h w2 h2 : Nat} {ru : Int32} {pl : Nat} {bo0 bo1 : Int32} {D : Nat → RD} (hG : gmI K L σ g b ru pl bo0 bo1 D) (hsb : σ b = bdA w h) (hT : gmT D) (hbo : b < g ∨ b = g + 1 ∨ g + 245 ≤ b) (hw1 : 4 ≤ w2) (hw2 : w2 ≤ 7) (hh1 : 4 ≤ h2) (hh2 : h2 ≤ 7) {k : Nat} (hk : k ≤ 4) (hwB : w ≤ 7) (hhB : h ≤ 7) (hne : ¬ (w = w2 ∧ h = h2)) (hzL : ∀ a, a ∈ L → a < z) : gM K yX2_begin cX2_begin 5 none 5 1 7 [.ref g, .int (nI w2), .int (nI h2), .int (nI k)] z L (σ) (fun r z1 L1 σ2 => r = none ∧ z1 = z + 1 ∧ L1 = L ++ [z] ∧ σ2 = va_up (psU K (va_up σ z (bdA w2 h2)) (g + 3) (w2 * h2) (hdF (w2 * h2) w2 h2 k)) g (gmO g z ru 0 (nI 0) (nI 0))) := by
  have hn : w2 * h2 ≤ 49 := Nat.mul_le_mul hw2 hh2
  have hn1 : 16 ≤ w2 * h2 := Nat.mul_le_mul hw1 hh1
  obtain ⟨m0, m2, m3, m4, hbL⟩ := hG.1
  have s0 := hG.2.1
  have s3 := hG.2.2.2.1
  have s4 := hG.2.2.2.2.1
  have q0 := hzL _ m0
  have q3 := hzL _ m3
  have q4 := hzL _ m4
  have qb := hzL _ hbL
  refine g_intro [some (.ref g), some (.int (nI w2)), some (.int (nI h2)), some (.int (nI k)), none] (fun Γ hC => ?_) (by simp [g_en, lv_args, Value.category])
  have lp22 : G K Γ (z, 0, 0, L) (σ) 22 [some (.ref g), some (.int (nI w2)), some (.int (nI h2)), some (.int (nI k)), none] [] := by
    refine g_aload_n (n := 23) hC rfl dX2_begin_22 ?_
    refine g_new (n := 26) hC gn_X2_9 dX2_begin_23 ?_ (by exact ⟨Nat.le_of_ble_eq_true rfl, Nat.le_of_ble_eq_true rfl⟩)
    show G K Γ (z + 1, 1, 7, L ++ [z]) (va_up σ z (.inr (0, [.int 0, .int 0, .int 0, .long 0, .long 0, .long 0, .long 0]))) 26 [some (.ref g), some (.int (nI w2)), some (.int (nI h2)), some (.int (nI k)), none] [.ref z, .ref g]
    refine g_dup (n := 27) hC rfl dX2_begin_26 ?_
    refine g_iload_n (n := 28) hC rfl dX2_begin_27 ?_
    refine g_iload_n (n := 29) hC rfl dX2_begin_28 ?_
    refine g_callI (rt2 := none) hC gi_X2_11 (X_newBoard K (List.mem_append_right _ (List.mem_singleton.mpr rfl)) (va_up_self _ _ _) hw1 hw2 hh1 hh2) (by decide) (by decide) rfl (by rfl) (by exact Nat.le_of_ble_eq_true rfl) (by exact ⟨Nat.le_of_ble_eq_true rfl, Nat.le_of_ble_eq_true rfl⟩) dX2_begin_29 (fun rv9 z9 L9 σ9 hp9 => ?_)
    obtain ⟨rfl, rfl, rfl, rfl⟩ := hp9
    refine G.eqs (show _ = va_up σ z (bdA w2 h2) from bx_uu _ _ _ _) ?_
    show G K Γ (z + 1, 1, 7, L ++ [z]) (va_up σ z (bdA w2 h2)) 32 [some (.ref g), some (.int (nI w2)), some (.int (nI h2)), some (.int (nI k)), none] [.ref z, .ref g]
    refine g_putf (n := 35) hC gp_X2_14 (List.mem_append_left _ (m0)) (((va_up_ne _ _ (by omega)).trans s0)) dX2_begin_32 ?_
    refine G.eqs (show _ = va_up (va_up σ z (bdA w2 h2)) g (.inr (2, [.ref z, .int ru, .int (nI pl), .ref (g + 2), .ref (g + 3), .int bo0, .int bo1])) from rfl) ?_
    refine G.eqs (show _ = va_up (va_up σ z (bdA w2 h2)) g (gmO g z ru pl bo0 bo1) from rfl) ?_
    have hs0 : (va_up (va_up σ z (bdA w2 h2)) g (gmO g z ru pl bo0 bo1)) g = gmO g z ru pl bo0 bo1 := va_up_self _ _ _
    have hsz : (va_up (va_up σ z (bdA w2 h2)) g (gmO g z ru pl bo0 bo1)) z = bdA w2 h2 := by rw [va_up_ne _ _ (by omega), va_up_self]
    have hs3 : (va_up (va_up σ z (bdA w2 h2)) g (gmO g z ru pl bo0 bo1)) (g + 3) = _ := (va_up_ne _ _ (by omega)).trans ((va_up_ne _ _ (by omega)).trans s3)
    have hs4 : (va_up (va_up σ z (bdA w2 h2)) g (gmO g z ru pl bo0 bo1)) (g + 3 + 1) = _ := (va_up_ne _ _ (by omega)).trans ((va_up_ne _ _ (by omega)).trans s4)
    refine g_aload_n (n := 36) hC rfl dX2_begin_35 ?_
    refine g_getf (n := 39) (v := .ref (g + 3)) hC gf_X2_33 (List.mem_append_left _ (m0)) (hs0) rfl dX2_begin_36 ?_
    refine g_aload_n (n := 40) hC rfl dX2_begin_39 ?_
    refine g_getf (n := 43) (v := .ref z) hC gf_X2_14 (List.mem_append_left _ (m0)) (hs0) rfl dX2_begin_40 ?_
    refine g_getf (n := 46) (v := .long (allF (w2 * h2))) hC gf_X2_38 ((List.mem_append_right _ (List.mem_singleton.mpr rfl))) (hsz) rfl dX2_begin_43 ?_
    refine g_cVv (n := 49) hC gv_X2_42 (List.mem_append_left _ (m3)) (hs3) (X_clear K (a := g + 3) (n := (w2 * h2)) (List.mem_append_left _ (m3)) (List.mem_append_left _ (m4)) (hs3) (hs4) (hT 60 (by omega)).1 (x := allF (w2 * h2)) rfl) dX2_begin_46 ?_
    refine g_iconst (n := 50) (v := (nI 0)) hC (by decide) dX2_begin_49 ?_
    refine g_istore (n := 52) (ll1 := [some (.ref g), some (.int (nI w2)), some (.int (nI h2)), some (.int (nI k)), some (.int (nI 0))]) hC dX2_begin_50 rfl ?_
    have lp52 : ∀ (n9 : Nat) (i : Nat) (hi : i ≤ k) (y4 : Int32) (ey4 : y4 = (nI i)) (hm9 : k - i < n9), G K Γ (z + 1, 1, 7, L ++ [z]) (psU K (va_up (va_up σ z (bdA w2 h2)) g (gmO g z ru pl bo0 bo1)) (g + 3) (w2 * h2) (hdF (w2 * h2) w2 h2 i)) 52 [some (.ref g), some (.int (nI w2)), some (.int (nI h2)), some (.int (nI k)), some (.int y4)] [] := by
      intro n9
      induction n9 with
      | zero =>
        intro i hi y4 ey4 hm9
        exact absurd hm9 (Nat.not_lt_zero _)
      | succ n9 ih52 =>
        intro i hi y4 ey4 hm9
        subst ey4
        refine g_iload (n := 54) hC rfl dX2_begin_52 ?_
        refine g_iload_n (n := 55) hC rfl dX2_begin_54 ?_
        refine g_icmp_geN (n := 58) (tgt := 79) hC (by omega) (by omega) dX2_begin_55 (fun h55 => ?_) (fun h55 => ?_)
        ·
          refine g_aload_n (n := 80) hC rfl dX2_begin_79 ?_
          refine g_iconst (n := 81) (v := (nI 0)) hC (by decide) dX2_begin_80 ?_
          refine g_putf (n := 84) hC gp_X2_60 (List.mem_append_left _ (m0)) (((psU_at (by omega)).trans (hs0))) dX2_begin_81 ?_
          refine G.eqs (show _ = va_up (psU K (va_up (va_up σ z (bdA w2 h2)) g (gmO g z ru pl bo0 bo1)) (g + 3) (w2 * h2) (hdF (w2 * h2) w2 h2 i)) g (.inr (2, [.ref z, .int ru, .int (nI 0), .ref (g + 2), .ref (g + 3), .int bo0, .int bo1])) from rfl) ?_
          refine g_aload_n (n := 85) hC rfl dX2_begin_84 ?_
          refine g_iconst (n := 86) (v := (nI 0)) hC (by decide) dX2_begin_85 ?_
          refine g_putf (n := 89) hC gp_X2_63 (List.mem_append_left _ (m0)) (va_up_self _ _ _) dX2_begin_86 ?_
          refine G.eqs (show _ = va_up (psU K (va_up (va_up σ z (bdA w2 h2)) g (gmO g z ru pl bo0 bo1)) (g + 3) (w2 * h2) (hdF (w2 * h2) w2 h2 i)) g (.inr (2, [.ref z, .int ru, .int (nI 0), .ref (g + 2), .ref (g + 3), .int (nI 0), .int bo1])) from bx_uu _ _ _ _) ?_
          refine g_aload_n (n := 90) hC rfl dX2_begin_89 ?_
          refine g_iconst (n := 91) (v := (nI 0)) hC (by decide) dX2_begin_90 ?_
          refine g_putf (n := 94) hC gp_X2_66 (List.mem_append_left _ (m0)) (va_up_self _ _ _) dX2_begin_91 ?_
          refine G.eqs (show _ = va_up (psU K (va_up (va_up σ z (bdA w2 h2)) g (gmO g z ru pl bo0 bo1)) (g + 3) (w2 * h2) (hdF (w2 * h2) w2 h2 i)) g (.inr (2, [.ref z, .int ru, .int (nI 0), .ref (g + 2), .ref (g + 3), .int (nI 0), .int (nI 0)])) from bx_uu _ _ _ _) ?_
          exact g_vret hC dX2_begin_94 (⟨rfl, rfl, rfl, by rw [show i = k by omega]; exact psU_g (by omega)⟩)
        ·
          refine g_aload_n (n := 59) hC rfl dX2_begin_58 ?_
          refine g_getf (n := 62) (v := .ref (g + 3)) hC gf_X2_33 (List.mem_append_left _ (m0)) (((psU_at (by omega)).trans (hs0))) rfl dX2_begin_59 ?_
          refine g_aload_n (n := 63) hC rfl dX2_begin_62 ?_
          refine g_iload (n := 65) hC rfl dX2_begin_63 ?_
          refine g_cV (n := 68) hC gv_X2_52 (List.mem_append_left _ (m0)) (((psU_at (by omega)).trans (hs0))) (X_handicapCell K (List.mem_append_left _ (m0)) ((List.mem_append_right _ (List.mem_singleton.mpr rfl))) (((psU_at (by omega)).trans (hs0))) (((psU_at (by omega)).trans (hsz))) hw1 hw2 hh1 hh2 (k := i) (by omega)) dX2_begin_65 ?_
          refine g_iconst (n := 69) (v := (nI 2)) hC (by decide) dX2_begin_68 ?_
          refine g_cV (n := 72) hC gv_X2_56 (List.mem_append_left _ (m3)) (psU_a) (X_give K (List.mem_append_left _ (m3)) (List.mem_append_left _ (m4)) psU_a psU_b hn (x := nI (hcC w2 h2 i)) (s := 2) (Or.inr ⟨_, hcC_lt hw1 hh1, rfl⟩) (by omega)) dX2_begin_69 ?_
          refine G.eqs (show _ = psU K (va_up (va_up σ z (bdA w2 h2)) g (gmO g z ru pl bo0 bo1)) (g + 3) (w2 * h2) (hdF (w2 * h2) w2 h2 (i + 1)) from psU_giv hn) ?_
          refine g_pop2 (n := 73) hC rfl dX2_begin_72 ?_
          refine g_iinc (n := 76) (ll1 := [some (.ref g), some (.int (nI w2)), some (.int (nI h2)), some (.int (nI k)), some (.int (nI (i + 1)))]) hC dX2_begin_73 rfl (nI_inc _) rfl ?_
          refine g_goto (n := 52) hC dX2_begin_76 ?_
          exact ih52 (i + 1) (by omega) _ (by first | rfl | (simp [*]; done)) (by omega)
    refine G.eqs (show _ = psU K (va_up (va_up σ z (bdA w2 h2)) g (gmO g z ru pl bo0 bo1)) (g + 3) (w2 * h2) (hdF (w2 * h2) w2 h2 0) from rfl) ?_
    exact lp52 _ 0 (by omega) _ (by first | rfl | (simp [*]; done)) (Nat.lt_succ_self _)
  refine g_aload_n (n := 1) hC rfl dX2_begin_0 ?_
  refine g_getf (n := 4) (v := .ref b) hC gf_X2_14 (m0) (s0) rfl dX2_begin_1 ?_
  refine g_getf (n := 7) (v := .int (nI w)) hC gf_X2_46 (hbL) (hsb) rfl dX2_begin_4 ?_
  refine g_iload_n (n := 8) hC rfl dX2_begin_7 ?_
  refine g_icmp_neN (n := 11) (tgt := 22) hC (by omega) (by omega) dX2_begin_8 (fun h8 => ?_) (fun h8 => ?_)
  ·
    exact lp22 
  ·
    refine g_aload_n (n := 12) hC rfl dX2_begin_11 ?_
    refine g_getf (n := 15) (v := .ref b) hC gf_X2_14 (m0) (s0) rfl dX2_begin_12 ?_
    refine g_getf (n := 18) (v := .int (nI h)) hC gf_X2_49 (hbL) (hsb) rfl dX2_begin_15 ?_
    refine g_iload_n (n := 19) hC rfl dX2_begin_18 ?_
    refine g_icmp_eqN (n := 22) (tgt := 35) hC (by omega) (by omega) dX2_begin_19 (fun h19 => absurd ⟨h8, h19⟩ hne) (fun h19 => ?_)
    exact lp22 
