theorem lwv_c {u : Nat → Int64} {q : Nat} : ∀ k, lwv u q k = -1 ∨ ∃ j, j < k ∧ lwv u q k = nI j
  | 0 => Or.inl rfl
  | k + 1 => by
    rw [lwv]
    by_cases h : tb (u k) q = true
    · rw [if_pos h]; exact Or.inr ⟨k, by omega, rfl⟩
    · rw [if_neg h]
      rcases lwv_c (u := u) (q := q) k with z | ⟨j, h1, h2⟩
      · exact Or.inl z
      · exact Or.inr ⟨j, by omega, h2⟩
/-- what is told of a cell q that is refused -/
def tlR (K : GK) (σ : GS) (rf : Nat) (cd dt : Nat → Int32) (D : Nat → RD) (rows : Nat → Nat → Int32) (pl who q : Nat) (σ2 : GS) : Prop := (wtX D q pl = -1 ∧ σ2 = rfU K σ rf 3 (va_up (va_up (va_up cd 0 (nI 1)) 1 (nI (2 + who))) 2 (nI 10 + rows pl q)) (va_up (va_up (va_up dt 0 (nI pl)) 1 (nI q)) 2 (rtX D q pl))) ∨ ∃ r9 wn, r9 < pl ∧ rtX D q pl = nI r9 ∧ wn < 8 ∧ wtX D q pl = nI wn ∧ σ2 = rfU K σ rf 4 (va_up (va_up (va_up (va_up cd 0 (nI 1)) 1 (nI (2 + who))) 2 (nI 10 + rows pl q)) 3 (nI (20 + wn))) (va_up (va_up (va_up (va_up dt 0 (nI pl)) 1 (nI q)) 2 (nI r9)) 3 (nI (ct (tb ((D r9).2.2.1 wn)) 64)))
theorem X_tellR (K : GK) {σ : GS} {L : List Nat} {z : Nat} {g b : Nat} {w h : Nat} {ru : Int32} {pl : Nat} {bo0 bo1 : Int32} {D : Nat → RD} {rows : Nat → Nat → Int32} (hG : gmI K L σ g b ru pl bo0 bo1 D) (hsb : σ b = bdA w h) (hw1 : 4 ≤ w) (hw2 : w ≤ 7) (hh1 : 4 ≤ h) (hh2 : h ≤ 7) (hP : gmP (w * h) pl D rows) {rf k0 : Nat} {cd dt : Nat → Int32} (n0 : rf ∈ L) (n1 : rf + 1 ∈ L) (n2 : rf + 2 ∈ L) (t0 : σ rf = rfsO rf k0) (t1 : σ (rf + 1) = iA K 4 cd) (t2 : σ (rf + 2) = iA K 4 dt) (hrf : g + 245 ≤ rf) (hbr : b < rf ∨ rf + 2 < b) {who q s0 : Nat} (hq : q < w * h) (hs0 : s0 ≤ 5) (hfq : rows pl q = nI s0) (hwho : who ≤ 1) : gM K yX5_tell cX5_tell 6 none 4 0 0 [.ref rf, .ref g, .int (nI (2 + who)), .int (nI q)] z L (σ) (fun r z1 L1 σ2 => r = none ∧ z1 = z ∧ L1 = L ∧ tlR K σ rf cd dt D rows pl who q σ2) := by
  rcases rtX_c D q pl with ⟨h1, h2⟩ | ⟨r9, h0, h1, h2⟩
  · exact gM_mono (X_tell0 K hG hsb hw1 hw2 hh1 hh2 hP n0 n1 n2 t0 t1 t2 hrf hbr hq hs0 hfq hwho h2) (fun r z1 L1 σ2 hp => ⟨hp.1, hp.2.1, hp.2.2.1, Or.inl ⟨h2, hp.2.2.2⟩⟩)
  · rcases lwv_c (u := (D r9).2.2.1) (q := q) 8 with h3 | ⟨wn, h3, h4⟩
    · exact gM_mono (X_tell0 K hG hsb hw1 hw2 hh1 hh2 hP n0 n1 n2 t0 t1 t2 hrf hbr hq hs0 hfq hwho (h2.trans h3)) (fun r z1 L1 σ2 hp => ⟨hp.1, hp.2.1, hp.2.2.1, Or.inl ⟨h2.trans h3, hp.2.2.2⟩⟩)
    · exact gM_mono (X_tell1 K hG hsb hw1 hw2 hh1 hh2 hP n0 n1 n2 t0 t1 t2 hrf hbr hq hs0 hfq hwho h0 h1 h3 (h2.trans h4)) (fun r z1 L1 σ2 hp => ⟨hp.1, hp.2.1, hp.2.2.1, Or.inr ⟨r9, wn, h0, h1, h3, h2.trans h4, hp.2.2.2⟩⟩)
/-- the rounds that look ahead have other contents, all else stays -/
def foR (K : GK) (L : List Nat) (fo : Nat) (σ σ2 : GS) : Prop := (∃ d, ((∀ k, 6 ≤ k → d.2.2.2 k = 0) ∧ ∀ k, 8 ≤ k → d.2.2.1 k = 0) ∧ rdD K L σ2 (fo + 5) d) ∧ (∃ d, ((∀ k, 6 ≤ k → d.2.2.2 k = 0) ∧ ∀ k, 8 ≤ k → d.2.2.1 k = 0) ∧ rdD K L σ2 (fo + 1) d) ∧ ∀ b9, b9 < fo + 1 ∨ fo + 8 < b9 → σ2 b9 = σ b9

theorem X_leastV (K : GK) {σ : GS} {L : List Nat} {z : Nat} {g b : Nat} {w h : Nat} {ru : Int32} {pl : Nat} {bo0 bo1 : Int32} {D : Nat → RD} {rows : Nat → Nat → Int32} (hG : gmI K L σ g b ru pl bo0 bo1 D) (hsb : σ b = bdA w h) (hw1 : 4 ≤ w) (hw2 : w ≤ 7) (hh1 : 4 ≤ h) (hh2 : h ≤ 7) (hP : gmP (w * h) pl D rows) {q : Nat} {f : Nat → Int32} (hqL : q ∈ L) (hqL1 : q + 1 ∈ L) (tq : σ q = psO q f) (tq1 : σ (q + 1) = lA K 6 (psS (w * h) f)) {fo : Nat} (mF : fo ∈ L) (sF : σ fo = .inr (1, [.ref (fo + 1), .ref (fo + 5)])) (hgf : g + 245 ≤ fo) (hru : ∃ r0, r0 ≤ 2 ∧ ru = nI r0) {mm8 : Nat} (hmm8 : mm8 ≤ 79000) (hcb : cpB f mm8) (hbb : bnB (bnO bo0 bo1)) (hla : ∃ d, ((∀ k, 6 ≤ k → d.2.2.2 k = 0) ∧ ∀ k, 8 ≤ k → d.2.2.1 k = 0) ∧ rdD K L σ (fo + 5) d) (hna : ∃ d, ((∀ k, 6 ≤ k → d.2.2.2 k = 0) ∧ ∀ k, 8 ≤ k → d.2.2.1 k = 0) ∧ rdD K L σ (fo + 1) d) (hbf : b < fo + 1 ∨ fo + 8 < b) (hf153 : f 153 = nI pl) (hqf : q + 1 < fo + 1) (hp60 : pl < 60) {p dp : Nat} (hp1 : p ≤ 1) (hd1 : 1 ≤ dp) (hd2 : dp ≤ 2) {ch : Int32} (hch : chOK (w * h) ch) : gM K yX1_leastValue cX1_leastValue 15 (some .int) (4 + 2 * dp) 0 0 [.ref fo, .ref g, .ref q, .int (nI p), .int ch, .int (nI dp)] z L (σ) (fun r z1 L1 σ2 => r = some (.int (gvF w h ru (bnO bo0 bo1) p f ch dp)) ∧ z1 = z ∧ L1 = L ∧ foR K L fo σ σ2) := by
  rcases (show dp = 1 ∨ dp = 2 by omega) with rfl | rfl
  · rcases (show p = 0 ∨ p = 1 by omega) with rfl | rfl
    · exact gM_mono (X_least1_0 K hG hsb hw1 hw2 hh1 hh2 hP hqL hqL1 tq tq1 mF sF hgf hru (by omega) hcb hbb hla (by omega) hbf hch) (fun r z1 L1 σ2 hp => ⟨hp.1.trans (rI (if_pos rfl).symm), hp.2.1, hp.2.2.1, hp.2.2.2.1, hna.imp fun d h9 => ⟨h9.1, rdD_eq (fun b9 q1 q2 => hp.2.2.2.2 b9 (by omega)) h9.2⟩, fun b9 q1 => hp.2.2.2.2 b9 (by omega)⟩)
    · exact gM_mono (X_least1_1 K hG hsb hw1 hw2 hh1 hh2 hP hqL hqL1 tq tq1 mF sF hgf hru (by omega) hcb hbb hla (by omega) hbf hch) (fun r z1 L1 σ2 hp => ⟨hp.1.trans (rI (if_pos rfl).symm), hp.2.1, hp.2.2.1, hp.2.2.2.1, hna.imp fun d h9 => ⟨h9.1, rdD_eq (fun b9 q1 q2 => hp.2.2.2.2 b9 (by omega)) h9.2⟩, fun b9 q1 => hp.2.2.2.2 b9 (by omega)⟩)
  · rcases (show p = 0 ∨ p = 1 by omega) with rfl | rfl
    · exact gM_mono (X_least2_0 K hG hsb hw1 hw2 hh1 hh2 hP hqL hqL1 tq tq1 mF sF hgf hru (by omega) hcb hbb hla hna hqf hbf hmm8 hp60 hf153 hch) (fun r z1 L1 σ2 hp => ⟨hp.1.trans (rI (if_neg (by decide)).symm), hp.2.1, hp.2.2.1, hp.2.2.2⟩)
    · exact gM_mono (X_least2_1 K hG hsb hw1 hw2 hh1 hh2 hP hqL hqL1 tq tq1 mF sF hgf hru (by omega) hcb hbb hla hna hqf hbf hmm8 hp60 hf153 hch) (fun r z1 L1 σ2 hp => ⟨hp.1.trans (rI (if_neg (by decide)).symm), hp.2.1, hp.2.2.1, hp.2.2.2⟩)

set_option maxRecDepth 20000 in
set_option maxHeartbeats 2000000 in
theorem X_admitsX (K : GK) {σ : GS} {L : List Nat} {z : Nat} {g b : Nat} {w h : Nat} {ru : Int32} {pl : Nat} {bo0 bo1 : Int32} {D : Nat → RD} {rows : Nat → Nat → Int32} (hG : gmI K L σ g b ru pl bo0 bo1 D) (hsb : σ b = bdA w h) (hw1 : 4 ≤ w) (hw2 : w ≤ 7) (hh1 : 4 ≤ h) (hh2 : h ≤ 7) (hP : gmP (w * h) pl D rows) {X kp rf ip fo : Nat} {hk : Int32} (mX : X ∈ L) (sX : σ X = xOg g kp hk rf ip fo) (hXg : X < g) {rk : Nat} {cd dt : Nat → Int32} (mr : rf ∈ L) (mr1 : rf + 1 ∈ L) (mr2 : rf + 2 ∈ L) (sr : σ rf = rfsO rf rk) (sr1 : σ (rf + 1) = iA K 4 cd) (sr2 : σ (rf + 2) = iA K 4 dt) (hgr : g + 245 ≤ rf) (hbr : b < rf ∨ rf + 2 < b) (hst : stA (w * h) (rows pl)) {a9 b9 : Int32} (ha9 : chOK (w * h) a9) (hb9 : chOK (w * h) b9) : gM K yX7_admits cX7_admits 4 (some .boolean) 5 0 0 [.ref X, .int a9, .int b9] z L (σ) (fun r z1 L1 σ2 => z1 = z ∧ L1 = L ∧ (((mayF (rows pl) a9 ∧ mayF (rows pl) b9) ∧ r = some (.int (nI 1)) ∧ σ2 = σ) ∨ (¬ mayF (rows pl) a9 ∧ r = some (.int (nI 0)) ∧ ∃ c, c < w * h ∧ a9 = nI c ∧ tlR K σ rf cd dt D rows pl 0 c σ2) ∨ ((mayF (rows pl) a9 ∧ ¬ mayF (rows pl) b9) ∧ r = some (.int (nI 0)) ∧ ∃ c, c < w * h ∧ b9 = nI c ∧ tlR K σ rf cd dt D rows pl 1 c σ2))) := by
  have hn : w * h ≤ 49 := Nat.mul_le_mul hw2 hh2
  have hn1 : 16 ≤ w * h := Nat.mul_le_mul hw1 hh1
  have hn49 : w * h ≤ 49 := hn
  obtain ⟨m0, m2, m3, m4, hbL⟩ := hG.1
  have s0 := hG.2.1
  have s2 := hG.2.2.1
  have hpl := hP.1
  have hlat := gm_lat hG hP
  refine g_intro [some (.ref X), some (.int a9), some (.int b9), none] (fun Γ hC => ?_) (by simp [g_en, lv_args, Value.category])
  refine g_aload_n (n := 1) hC rfl dX7_admits_0 ?_
  refine g_getf (n := 4) (v := .ref g) hC gf_X7_10 (mX) (sX) rfl dX7_admits_1 ?_
  refine g_cV (n := 7) hC gv_X7_57 (m0) (s0) (X_latest K hG hsb hw1 hw2 hh1 hh2 hP) dX7_admits_4 ?_
  refine g_astore_n (n := 8) (ll1 := [some (.ref X), some (.int a9), some (.int b9), some (.ref (latA g pl))]) hC dX7_admits_7 rfl ?_
  refine g_aload_n (n := 9) hC rfl dX7_admits_8 ?_
  refine g_iload_n (n := 10) hC rfl dX7_admits_9 ?_
  refine g_cV (n := 13) hC gv_X7_250 (hlat.1) (hlat.2.2.1) (X_admits K hlat.1 hlat.2.1 hlat.2.2.1 hlat.2.2.2 hn49 (x := a9) ha9) dX7_admits_10 ?_
  refine g_ifb_ne (n := 16) (tgt := 31) hC dX7_admits_13 (fun h13 => ?_) (fun h13 => ?_)
  ·
    refine g_aload_n (n := 32) hC rfl dX7_admits_31 ?_
    refine g_iload_n (n := 33) hC rfl dX7_admits_32 ?_
    refine g_cV (n := 36) hC gv_X7_250 (hlat.1) (hlat.2.2.1) (X_admits K hlat.1 hlat.2.1 hlat.2.2.1 hlat.2.2.2 hn49 (x := b9) hb9) dX7_admits_33 ?_
    refine g_ifb_ne (n := 39) (tgt := 54) hC dX7_admits_36 (fun h36 => ?_) (fun h36 => ?_)
    ·
      refine g_iconst (n := 55) (v := (nI 1)) hC (by decide) dX7_admits_54 ?_
      exact g_zret hC (by rfl) dX7_admits_55 (⟨rfl, rfl, Or.inl ⟨⟨h13, h36⟩, rfl, rfl⟩⟩)
    ·
      refine g_aload_n (n := 40) hC rfl dX7_admits_39 ?_
      refine g_getf (n := 43) (v := .ref rf) hC gf_X7_26 (mX) (sX) rfl dX7_admits_40 ?_
      refine g_aload_n (n := 44) hC rfl dX7_admits_43 ?_
      refine g_getf (n := 47) (v := .ref g) hC gf_X7_10 (mX) (sX) rfl dX7_admits_44 ?_
      refine g_iconst (n := 48) (v := (nI 3)) hC (by decide) dX7_admits_47 ?_
      refine g_iload_n (n := 49) hC rfl dX7_admits_48 ?_
      obtain ⟨c0, hc0, rfl⟩ := hb9.resolve_left (fun q9 => h36 (Or.inl q9))
      obtain ⟨v0, hv0, hv1⟩ := hst c0 hc0
      refine g_callV hC gv_X7_308 (X_tellR K hG hsb hw1 hw2 hh1 hh2 hP mr mr1 mr2 sr sr1 sr2 hgr hbr (who := 1) hc0 hv0 hv1 (by omega)) mr sr (by rfl) (by decide) (by decide) (by rfl) (by rfl) (Nat.le_of_ble_eq_true rfl) (by exact ⟨Nat.le_refl _, Nat.le_refl _⟩) dX7_admits_49 (fun rv9 z9 L9 σ9 hp9 => ?_)
      obtain ⟨hr9, hz9, hL9, hs9⟩ := hp9
      rw [hr9, hz9, hL9]
      show G K Γ (z, 0, 0, L) (σ9) 52 [some (.ref X), some (.int a9), some (.int (nI c0)), some (.ref (latA g pl))] []
      refine g_iconst (n := 53) (v := (nI 0)) hC (by decide) dX7_admits_52 ?_
      exact g_zret hC (by rfl) dX7_admits_53 (⟨rfl, rfl, Or.inr (Or.inr ⟨⟨h13, h36⟩, rfl, c0, hc0, rfl, hs9⟩)⟩)
  ·
    refine g_aload_n (n := 17) hC rfl dX7_admits_16 ?_
    refine g_getf (n := 20) (v := .ref rf) hC gf_X7_26 (mX) (sX) rfl dX7_admits_17 ?_
    refine g_aload_n (n := 21) hC rfl dX7_admits_20 ?_
    refine g_getf (n := 24) (v := .ref g) hC gf_X7_10 (mX) (sX) rfl dX7_admits_21 ?_
    refine g_iconst (n := 25) (v := (nI 2)) hC (by decide) dX7_admits_24 ?_
    refine g_iload_n (n := 26) hC rfl dX7_admits_25 ?_
    obtain ⟨c0, hc0, rfl⟩ := ha9.resolve_left (fun q9 => h13 (Or.inl q9))
    obtain ⟨v0, hv0, hv1⟩ := hst c0 hc0
    refine g_callV hC gv_X7_308 (X_tellR K hG hsb hw1 hw2 hh1 hh2 hP mr mr1 mr2 sr sr1 sr2 hgr hbr (who := 0) hc0 hv0 hv1 (by omega)) mr sr (by rfl) (by decide) (by decide) (by rfl) (by rfl) (Nat.le_of_ble_eq_true rfl) (by exact ⟨Nat.le_refl _, Nat.le_refl _⟩) dX7_admits_26 (fun rv9 z9 L9 σ9 hp9 => ?_)
    obtain ⟨hr9, hz9, hL9, hs9⟩ := hp9
    rw [hr9, hz9, hL9]
    show G K Γ (z, 0, 0, L) (σ9) 29 [some (.ref X), some (.int (nI c0)), some (.int b9), some (.ref (latA g pl))] []
    refine g_iconst (n := 30) (v := (nI 0)) hC (by decide) dX7_admits_29 ?_
    exact g_zret hC (by rfl) dX7_admits_30 (⟨rfl, rfl, Or.inr (Or.inl ⟨h13, rfl, c0, hc0, rfl, hs9⟩)⟩)

set_option maxRecDepth 20000 in
set_option maxHeartbeats 2000000 in
theorem F_play (K : GK) {σ : GS} {L : List Nat} {z : Nat} {g b : Nat} {w h : Nat} {ru : Int32} {pl : Nat} {bo0 bo1 : Int32} {D : Nat → RD} {rows : Nat → Nat → Int32} (hG : gmI K L σ g b ru pl bo0 bo1 D) (hsb : σ b = bdA w h) (hw1 : 4 ≤ w) (hw2 : w ≤ 7) (hh1 : 4 ≤ h) (hh2 : h ≤ 7) (hP : gmP (w * h) pl D rows) {X kp rf ip fo : Nat} {hk : Int32} (mX : X ∈ L) (sX : σ X = xOg g kp hk rf ip fo) (hXg : X < g) {rk : Nat} {cd dt : Nat → Int32} (mr : rf ∈ L) (mr1 : rf + 1 ∈ L) (mr2 : rf + 2 ∈ L) (sr : σ rf = rfsO rf rk) (sr1 : σ (rf + 1) = iA K 4 cd) (sr2 : σ (rf + 2) = iA K 4 dt) (hgr : g + 245 ≤ rf) (hbr : b < rf ∨ rf + 2 < b) (hst : stA (w * h) (rows pl)) (hT : gmT D) (hbo : b < g ∨ b = g + 1 ∨ g + 245 ≤ b) (hru : ∃ r0, r0 ≤ 2 ∧ ru = nI r0) (hld : ldOK (rows pl) (w * h) bo0 bo1) {a9 b9 : Int32} : gX K yX7_play cX7_play 3 (some .int) 8 1 7 [.ref X, .int a9, .int b9] z L (σ) (fun r z1 L1 σ2 => (chOK (w * h) a9 ∧ chOK (w * h) b9) ∧ ¬ endP pl (w * h) D rows ∧ (mayF (rows pl) a9 ∧ mayF (rows pl) b9) ∧ r = some (.int (nI (goU w h ru (rows pl) (bnO bo0 bo1) a9 b9))) ∧ z1 = z ∧ L1 = L ∧ σ2 = rdU K (va_up σ g (gmO g b ru (pl + 1) bo0 bo1)) (g + 5 + 4 * pl) (w * h) (scC a9 b9 (scF (plV w h ru (rows pl) (bnO bo0 bo1) a9 b9) (bnO bo0 bo1) (w * h) 0) (scF (plV w h ru (rows pl) (bnO bo0 bo1) a9 b9) (bnO bo0 bo1) (w * h) 1) (D pl).1) (mkX a9 b9 (stK ru (ldF (rows pl) (w * h) bo0 bo1))) (wvU w h (plM ru (w * h) (rows pl) (bnO bo0 bo1) a9 b9) (goW w h ru (rows pl) (bnO bo0 bo1) a9 b9)) (plV w h ru (rows pl) (bnO bo0 bo1) a9 b9)) (fun E z1 L1 σ2 => z ≤ z1 ∧ L1 = L ∧ ((E = "java/lang/IndexOutOfBoundsException" ∧ ¬ (chOK (w * h) a9 ∧ chOK (w * h) b9) ∧ σ2 = σ) ∨ (E = "java/lang/IllegalStateException" ∧ (chOK (w * h) a9 ∧ chOK (w * h) b9) ∧ endP pl (w * h) D rows ∧ σ2 = σ) ∨ (E = "java/lang/UnsupportedOperationException" ∧ (chOK (w * h) a9 ∧ chOK (w * h) b9) ∧ ¬ endP pl (w * h) D rows ∧ ((¬ mayF (rows pl) a9 ∧ ∃ c, c < w * h ∧ a9 = nI c ∧ tlR K σ rf cd dt D rows pl 0 c σ2) ∨ ((mayF (rows pl) a9 ∧ ¬ mayF (rows pl) b9) ∧ ∃ c, c < w * h ∧ b9 = nI c ∧ tlR K σ rf cd dt D rows pl 1 c σ2))))) := by
  have hn : w * h ≤ 49 := Nat.mul_le_mul hw2 hh2
  have hn1 : 16 ≤ w * h := Nat.mul_le_mul hw1 hh1
  have hn49 : w * h ≤ 49 := hn
  obtain ⟨m0, m2, m3, m4, hbL⟩ := hG.1
  have s0 := hG.2.1
  have s2 := hG.2.2.1
  have hpl := hP.1
  have hlat := gm_lat hG hP
  refine g_introX [some (.ref X), some (.int a9), some (.int b9)] (fun Γ hC hX => ?_) (by simp [g_en, lv_args, Value.category])
  refine g_aload_n (n := 1) hC rfl dX7_play_0 ?_
  refine g_iload_n (n := 2) hC rfl dX7_play_1 ?_
  refine g_cV (n := 5) (hroom := by exact ⟨Nat.zero_le _, Nat.zero_le _⟩) hC gv_X7_91 (mX) (sX) (X_isChoice K hG hsb hw1 hw2 hh1 hh2 hP mX sX hXg) dX7_play_2 ?_
  refine g_ifb_eq (n := 8) (tgt := 16) hC dX7_play_5 (fun h5 => ?_) (fun h5 => ?_)
  ·
    exact g_throwS hC hX th_IOB (List.mem_of_getElem? (i := 5) rfl) dX7_play_16 dX7_play_19 dX7_play_20 dX7_play_22 dX7_play_25 (fun z9 hz9 => ⟨hz9, rfl, Or.inl ⟨rfl, fun q => h5 q.1, rfl⟩⟩)
  ·
    refine g_aload_n (n := 9) hC rfl dX7_play_8 ?_
    refine g_iload_n (n := 10) hC rfl dX7_play_9 ?_
    refine g_cV (n := 13) (hroom := by exact ⟨Nat.zero_le _, Nat.zero_le _⟩) hC gv_X7_91 (mX) (sX) (X_isChoice K hG hsb hw1 hw2 hh1 hh2 hP mX sX hXg) dX7_play_10 ?_
    refine g_ifb_ne (n := 16) (tgt := 26) hC dX7_play_13 (fun h13 => ?_) (fun h13 => ?_)
    ·
      have hch9 : chOK (w * h) a9 ∧ chOK (w * h) b9 := ⟨h5, h13⟩
      refine g_aload_n (n := 27) hC rfl dX7_play_26 ?_
      refine g_getf (n := 30) (v := .ref g) hC gf_X7_10 (mX) (sX) rfl dX7_play_27 ?_
      refine g_cV (n := 33) (hroom := by exact ⟨Nat.zero_le _, Nat.zero_le _⟩) hC gv_X7_96 (m0) (s0) (X_hasEnded K hG hsb hw1 hw2 hh1 hh2 hP) dX7_play_30 ?_
      refine g_ifb_eq (n := 36) (tgt := 46) hC dX7_play_33 (fun h33 => ?_) (fun h33 => ?_)
      ·
        refine g_aload_n (n := 47) hC rfl dX7_play_46 ?_
        refine g_iload_n (n := 48) hC rfl dX7_play_47 ?_
        refine g_iload_n (n := 49) hC rfl dX7_play_48 ?_
        refine g_callV hC gv_X7_105 (X_admitsX K hG hsb hw1 hw2 hh1 hh2 hP mX sX hXg mr mr1 mr2 sr sr1 sr2 hgr hbr hst hch9.1 hch9.2) mX sX (by rfl) (by decide) (by decide) (by rfl) (by rfl) (Nat.le_of_ble_eq_true rfl) (by exact ⟨Nat.zero_le _, Nat.zero_le _⟩) dX7_play_49 (fun rv9 z9 L9 σ9 hp9 => ?_)
        obtain ⟨hz9, hL9, hp9⟩ := hp9
        rw [hz9, hL9]
        rcases hp9 with ⟨hmm, hr9, hs9⟩ | ⟨hmm, hr9, hs9⟩ | ⟨hmm, hr9, hs9⟩
        ·
          rw [hr9, hs9]
          show G K Γ (z, 0, 0, L) (σ) 52 [some (.ref X), some (.int a9), some (.int b9)] [.int (nI 1)]
          refine g_if_ne (n := 55) (tgt := 65) hC dX7_play_52 (fun _ => ?_) (fun h9 => absurd h9 (by decide))
          refine g_aload_n (n := 66) hC rfl dX7_play_65 ?_
          refine g_getf (n := 69) (v := .ref g) hC gf_X7_10 (mX) (sX) rfl dX7_play_66 ?_
          refine g_iload_n (n := 70) hC rfl dX7_play_69 ?_
          refine g_iload_n (n := 71) hC rfl dX7_play_70 ?_
          have hp60 : pl < 60 := by
            rcases Nat.lt_or_ge pl 60 with q | q
            · exact q
            · exact absurd ⟨by omega, Or.inr (Or.inr q)⟩ h33
          refine g_cV (n := 74) (hroom := by exact ⟨Nat.zero_le _, Nat.zero_le _⟩) hC gv_X7_114 (m0) (s0) (X_addRound K hG hsb hw1 hw2 hh1 hh2 hP hT hp60 hbo (a9 := a9) (b9 := b9) hch9.1 hch9.2 hru hld) dX7_play_71 ?_
          exact g_iret hC dX7_play_74 (⟨⟨h5, h13⟩, h33, hmm, rfl, rfl, rfl, rfl⟩) (Nat.zero_le _) (Nat.zero_le _)
        ·
          rw [hr9]
          show G K Γ (z, 0, 0, L) (σ9) 52 [some (.ref X), some (.int a9), some (.int b9)] [.int (nI 0)]
          refine g_if_ne (n := 55) (tgt := 65) hC dX7_play_52 (fun h9 => absurd h9 (by decide)) (fun _ => ?_)
          exact g_throwS hC hX th_UOE (List.mem_of_getElem? (i := 7) rfl) dX7_play_55 dX7_play_58 dX7_play_59 dX7_play_61 dX7_play_64 (fun z9 hz9 => ⟨hz9, rfl, Or.inr (Or.inr ⟨rfl, ⟨h5, h13⟩, h33, Or.inl ⟨hmm, hs9⟩⟩)⟩)
        ·
          rw [hr9]
          show G K Γ (z, 0, 0, L) (σ9) 52 [some (.ref X), some (.int a9), some (.int b9)] [.int (nI 0)]
          refine g_if_ne (n := 55) (tgt := 65) hC dX7_play_52 (fun h9 => absurd h9 (by decide)) (fun _ => ?_)
          exact g_throwS hC hX th_UOE (List.mem_of_getElem? (i := 7) rfl) dX7_play_55 dX7_play_58 dX7_play_59 dX7_play_61 dX7_play_64 (fun z9 hz9 => ⟨hz9, rfl, Or.inr (Or.inr ⟨rfl, ⟨h5, h13⟩, h33, Or.inr ⟨hmm, hs9⟩⟩)⟩)
      ·
        exact g_throwS hC hX th_ISE (List.mem_of_getElem? (i := 6) rfl) dX7_play_36 dX7_play_39 dX7_play_40 dX7_play_42 dX7_play_45 (fun z9 hz9 => ⟨hz9, rfl, Or.inr (Or.inl ⟨rfl, ⟨h5, h13⟩, h33, rfl⟩)⟩)
    ·
      exact g_throwS hC hX th_IOB (List.mem_of_getElem? (i := 5) rfl) dX7_play_16 dX7_play_19 dX7_play_20 dX7_play_22 dX7_play_25 (fun z9 hz9 => ⟨hz9, rfl, Or.inl ⟨rfl, fun q => h13 q.2, rfl⟩⟩)

set_option maxRecDepth 20000 in
set_option maxHeartbeats 2000000 in
theorem F_guarantee (K : GK) {σ : GS} {L : List Nat} {z : Nat} {g b : Nat} {w h : Nat} {ru : Int32} {pl : Nat} {bo0 bo1 : Int32} {D : Nat → RD} {rows : Nat → Nat → Int32} (hG : gmI K L σ g b ru pl bo0 bo1 D) (hsb : σ b = bdA w h) (hw1 : 4 ≤ w) (hw2 : w ≤ 7) (hh1 : 4 ≤ h) (hh2 : h ≤ 7) (hP : gmP (w * h) pl D rows) {X kp rf ip fo : Nat} {hk : Int32} (mX : X ∈ L) (sX : σ X = xOg g kp hk rf ip fo) (hXg : X < g) (mF : fo ∈ L) (sF : σ fo = .inr (1, [.ref (fo + 1), .ref (fo + 5)])) (hgf : g + 245 ≤ fo) (hru : ∃ r0, r0 ≤ 2 ∧ ru = nI r0) {mm8 : Nat} (hmm8 : mm8 ≤ 79000) (hcb : cpB (rows pl) mm8) (hbb : bnB (bnO bo0 bo1)) (hla : ∃ d, ((∀ k, 6 ≤ k → d.2.2.2 k = 0) ∧ ∀ k, 8 ≤ k → d.2.2.1 k = 0) ∧ rdD K L σ (fo + 5) d) (hna : ∃ d, ((∀ k, 6 ≤ k → d.2.2.2 k = 0) ∧ ∀ k, 8 ≤ k → d.2.2.1 k = 0) ∧ rdD K L σ (fo + 1) d) (hbf : b < fo + 1 ∨ fo + 8 < b) (hf153 : rows pl 153 = nI pl) {x ch y : Int32} : gX K yX7_guarantee cX7_guarantee 4 (some .int) 9 1 7 [.ref X, .int x, .int ch, .int y] z L (σ) (fun r z1 L1 σ2 => (∃ p0 d0, p0 ≤ 1 ∧ 1 ≤ d0 ∧ d0 ≤ 2 ∧ x = nI p0 ∧ y = nI d0 ∧ chOK (w * h) ch ∧ (¬ endP pl (w * h) D rows ∧ mayF (rows pl) ch ∧ ¬ (d0 = 2 ∧ 6 < mny (rows pl) (w * h) (nI 0))) ∧ r = some (.int (gvF w h ru (bnO bo0 bo1) p0 (rows pl) ch d0))) ∧ z1 = z ∧ L1 = L ∧ foR K L fo σ σ2) (fun E z1 L1 σ2 => z ≤ z1 ∧ L1 = L ∧ ((E = "java/lang/IndexOutOfBoundsException" ∧ ¬ (inR 0 1 x ∧ chOK (w * h) ch) ∧ σ2 = σ) ∨ (E = "java/lang/IllegalArgumentException" ∧ (inR 0 1 x ∧ chOK (w * h) ch) ∧ ¬ inR 1 2 y ∧ σ2 = σ) ∨ (E = "java/lang/IllegalStateException" ∧ (∃ p0 d0, p0 ≤ 1 ∧ 1 ≤ d0 ∧ d0 ≤ 2 ∧ x = nI p0 ∧ y = nI d0 ∧ chOK (w * h) ch ∧ ¬ (¬ endP pl (w * h) D rows ∧ mayF (rows pl) ch ∧ ¬ (d0 = 2 ∧ 6 < mny (rows pl) (w * h) (nI 0)))) ∧ σ2 = σ))) := by
  have hn : w * h ≤ 49 := Nat.mul_le_mul hw2 hh2
  have hn1 : 16 ≤ w * h := Nat.mul_le_mul hw1 hh1
  have hn49 : w * h ≤ 49 := hn
  obtain ⟨m0, m2, m3, m4, hbL⟩ := hG.1
  have s0 := hG.2.1
  have s2 := hG.2.2.1
  have hpl := hP.1
  have hlat := gm_lat hG hP
  refine g_introX [some (.ref X), some (.int x), some (.int ch), some (.int y)] (fun Γ hC hX => ?_) (by simp [g_en, lv_args, Value.category])
  refine g_iload_n (n := 1) hC rfl dX7_guarantee_0 ?_
  refine g_cS (n := 4) (hroom := by exact ⟨Nat.zero_le _, Nat.zero_le _⟩) hC gs_X7_73 (X_isPlayer K) dX7_guarantee_1 ?_
  refine g_ifb_eq (n := 7) (tgt := 15) hC dX7_guarantee_4 (fun h4 => ?_) (fun h4 => ?_)
  ·
    exact g_throwS hC hX th_IOB (List.mem_of_getElem? (i := 11) rfl) dX7_guarantee_15 dX7_guarantee_18 dX7_guarantee_19 dX7_guarantee_21 dX7_guarantee_24 (fun z9 hz9 => ⟨hz9, rfl, Or.inl ⟨rfl, fun q => h4 q.1, rfl⟩⟩)
  ·
    refine g_aload_n (n := 8) hC rfl dX7_guarantee_7 ?_
    refine g_iload_n (n := 9) hC rfl dX7_guarantee_8 ?_
    refine g_cV (n := 12) (hroom := by exact ⟨Nat.zero_le _, Nat.zero_le _⟩) hC gv_X7_91 (mX) (sX) (X_isChoice K hG hsb hw1 hw2 hh1 hh2 hP mX sX hXg) dX7_guarantee_9 ?_
    refine g_ifb_ne (n := 15) (tgt := 25) hC dX7_guarantee_12 (fun h12 => ?_) (fun h12 => ?_)
    ·
      refine g_iload_n (n := 26) hC rfl dX7_guarantee_25 ?_
      refine g_cS (n := 29) (hroom := by exact ⟨Nat.zero_le _, Nat.zero_le _⟩) hC gs_X7_242 (X_isDepth K) dX7_guarantee_26 ?_
      refine g_ifb_ne (n := 32) (tgt := 42) hC dX7_guarantee_29 (fun h29 => ?_) (fun h29 => ?_)
      ·
        obtain ⟨p0, _, hp1, rfl⟩ := id h4
        obtain ⟨d0, hd1, hd2, rfl⟩ := h29
        refine g_aload_n (n := 43) hC rfl dX7_guarantee_42 ?_
        refine g_iload_n (n := 44) hC rfl dX7_guarantee_43 ?_
        refine g_cV (n := 47) (hroom := by exact ⟨Nat.zero_le _, Nat.zero_le _⟩) hC gv_X7_247 (mX) (sX) (X_canLook K hG hsb hw1 hw2 hh1 hh2 hP mX sX hXg (dp := d0) (by omega)) dX7_guarantee_44 ?_
        refine g_ifb_eq (n := 50) (tgt := 64) hC dX7_guarantee_47 (fun h47 => ?_) (fun h47 => ?_)
        ·
          exact g_throwS hC hX th_ISE (List.mem_of_getElem? (i := 19) rfl) dX7_guarantee_64 dX7_guarantee_67 dX7_guarantee_68 dX7_guarantee_70 dX7_guarantee_73 (fun z9 hz9 => ⟨hz9, rfl, Or.inr (Or.inr ⟨rfl, ⟨p0, d0, hp1, hd1, hd2, rfl, rfl, h12, fun q => h47 ⟨q.1, q.2.2⟩⟩, rfl⟩)⟩)
        ·
          refine g_aload_n (n := 51) hC rfl dX7_guarantee_50 ?_
          refine g_getf (n := 54) (v := .ref g) hC gf_X7_10 (mX) (sX) rfl dX7_guarantee_51 ?_
          refine g_cV (n := 57) (hroom := by exact ⟨Nat.zero_le _, Nat.zero_le _⟩) hC gv_X7_57 (m0) (s0) (X_latest K hG hsb hw1 hw2 hh1 hh2 hP) dX7_guarantee_54 ?_
          refine g_iload_n (n := 58) hC rfl dX7_guarantee_57 ?_
          refine g_cV (n := 61) (hroom := by exact ⟨Nat.zero_le _, Nat.zero_le _⟩) hC gv_X7_250 (hlat.1) (hlat.2.2.1) (X_admits K hlat.1 hlat.2.1 hlat.2.2.1 hlat.2.2.2 hn49 (x := ch) h12) dX7_guarantee_58 ?_
          refine g_ifb_ne (n := 64) (tgt := 74) hC dX7_guarantee_61 (fun h61 => ?_) (fun h61 => ?_)
          ·
            have hp60 : pl < 60 := by
              rcases Nat.lt_or_ge pl 60 with q | q
              · exact q
              · exact absurd ⟨by omega, Or.inr (Or.inr q)⟩ h47.1
            have hlf : latA g pl + 1 < fo + 1 := by rw [latA]; split <;> omega
            refine g_aload_n (n := 75) hC rfl dX7_guarantee_74 ?_
            refine g_getf (n := 78) (v := .ref fo) hC gf_X7_40 (mX) (sX) rfl dX7_guarantee_75 ?_
            refine g_aload_n (n := 79) hC rfl dX7_guarantee_78 ?_
            refine g_getf (n := 82) (v := .ref g) hC gf_X7_10 (mX) (sX) rfl dX7_guarantee_79 ?_
            refine g_aload_n (n := 83) hC rfl dX7_guarantee_82 ?_
            refine g_getf (n := 86) (v := .ref g) hC gf_X7_10 (mX) (sX) rfl dX7_guarantee_83 ?_
            refine g_cV (n := 89) (hroom := by exact ⟨Nat.zero_le _, Nat.zero_le _⟩) hC gv_X7_57 (m0) (s0) (X_latest K hG hsb hw1 hw2 hh1 hh2 hP) dX7_guarantee_86 ?_
            refine g_iload_n (n := 90) hC rfl dX7_guarantee_89 ?_
            refine g_iload_n (n := 91) hC rfl dX7_guarantee_90 ?_
            refine g_iload_n (n := 92) hC rfl dX7_guarantee_91 ?_
            refine g_callVN hC gv_X7_254 (X_leastV K hG hsb hw1 hw2 hh1 hh2 hP hlat.1 hlat.2.1 hlat.2.2.1 hlat.2.2.2 mF sF hgf hru hmm8 hcb hbb hla hna hbf hf153 hlf hp60 (p := p0) (dp := d0) hp1 hd1 hd2 (ch := ch) h12) mF sF (by rfl) (by omega) (by decide) (by rfl) (by rfl) (Nat.le_of_ble_eq_true rfl) (by exact ⟨Nat.zero_le _, Nat.zero_le _⟩) dX7_guarantee_92 (fun rv9 z9 L9 σ9 hp9 => ?_)
            obtain ⟨hr9, hz9, hL9, hs9σ9⟩ := hp9
            rw [hr9, hz9, hL9]
            show G K Γ (z, 0, 0, L) (σ9) 95 [some (.ref X), some (.int (nI p0)), some (.int ch), some (.int (nI d0))] [.int (gvF w h ru (bnO bo0 bo1) p0 (rows pl) (ch) d0)]
            exact g_iret hC dX7_guarantee_95 (⟨⟨p0, d0, hp1, hd1, hd2, rfl, rfl, h12, ⟨h47.1, h61, h47.2⟩, rfl⟩, rfl, rfl, hs9σ9⟩) (Nat.zero_le _) (Nat.zero_le _)
          ·
            exact g_throwS hC hX th_ISE (List.mem_of_getElem? (i := 19) rfl) dX7_guarantee_64 dX7_guarantee_67 dX7_guarantee_68 dX7_guarantee_70 dX7_guarantee_73 (fun z9 hz9 => ⟨hz9, rfl, Or.inr (Or.inr ⟨rfl, ⟨p0, d0, hp1, hd1, hd2, rfl, rfl, h12, fun q => h61 q.2.1⟩, rfl⟩)⟩)
      ·
        exact g_throwS hC hX th_IAE (List.mem_of_getElem? (i := 18) rfl) dX7_guarantee_32 dX7_guarantee_35 dX7_guarantee_36 dX7_guarantee_38 dX7_guarantee_41 (fun z9 hz9 => ⟨hz9, rfl, Or.inr (Or.inl ⟨rfl, ⟨h4, h12⟩, h29, rfl⟩)⟩)
    ·
      exact g_throwS hC hX th_IOB (List.mem_of_getElem? (i := 11) rfl) dX7_guarantee_15 dX7_guarantee_18 dX7_guarantee_19 dX7_guarantee_21 dX7_guarantee_24 (fun z9 hz9 => ⟨hz9, rfl, Or.inl ⟨rfl, fun q => h12 q.2, rfl⟩⟩)
