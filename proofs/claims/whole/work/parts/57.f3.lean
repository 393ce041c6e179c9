theorem X_sign (K : GK) {σ : GS} {L : List Nat} {z : Nat} {a n : Nat} {c : Nat → Int32} {p : Int64} {u : Nat → Int64} {f : Nat → Int32} (hr : rdI K L σ a n c p u f) (hn : n ≤ 49) {b : Nat} {w h : Nat} (hbL : b ∈ L) (hsb : σ b = bdA w h) (hw1 : 4 ≤ w) (hw2 : w ≤ 7) (hh1 : 4 ≤ h) (hh2 : h ≤ 7) (hnn : n = w * h) (hc0 : chOK (w * h) (c 0)) (hc1 : chOK (w * h) (c 1)) {k : Nat} (hk : k < lnC (c 0) + lnC (c 1) + 1) : gT K yX6_sign cX6_sign 4 (some .char) 3 [.ref a, .ref b, .int (nI k)] z L (σ) (some (.int (rsg w c k))) (σ) := by
  have h0 := lnC_le (c 0)
  have h1 := lnC_le (c 1)
  by_cases q : k < lnC (c 0)
  · exact X_sign1 K hr hn hbL hsb hw1 hw2 hh1 hh2 hnn hc0 hc1 q
  · exact X_sign2 K hr hn hbL hsb hw1 hw2 hh1 hh2 hnn hc0 hc1 (by omega) (by omega)
theorem rsg_nb {w n k : Nat} {c : Nat → Int32} (hw : w ≤ 7) (hn : n ≤ 49) (hc0 : chOK n (c 0)) (hc1 : chOK n (c 1)) : narrow .char (.int (rsg w c k)) = .int (rsg w c k) := by
  rw [rsg]
  split
  · exact sgC_nb hw hn hc0
  · split
    · exact sgC_nb hw hn hc1
    · rfl
theorem xwr_t {w m i k : Nat} {D : Nat → RD} (h : k < lnC ((D i).1 0) + lnC ((D i).1 1) + 1) (hm : 0 < m) : xwr w D m i k = some (rsg w (D i).1 k) := by
  obtain ⟨m, rfl⟩ : ∃ q, m = q + 1 := ⟨m - 1, by omega⟩
  exact if_pos h
theorem xwr_f {w m i k : Nat} {D : Nat → RD} (h : ¬ k < lnC ((D i).1 0) + lnC ((D i).1 1) + 1) (hm : 0 < m) : xwr w D m i k = xwr w D (m - 1) (i + 1) (k - (lnC ((D i).1 0) + lnC ((D i).1 1) + 1)) := by
  obtain ⟨m, rfl⟩ : ∃ q, m = q + 1 := ⟨m - 1, by omega⟩
  exact if_neg h
theorem xwr_0 {w m i k : Nat} {D : Nat → RD} (hm : m = 0) : xwr w D m i k = none := by subst hm; rfl

set_option maxRecDepth 20000 in
theorem F_written0 (K : GK) {σ : GS} {L : List Nat} {z : Nat} {g b : Nat} {w h : Nat} {ru : Int32} {pl : Nat} {bo0 bo1 : Int32} {D : Nat → RD} {rows : Nat → Nat → Int32} (hG : gmI K L σ g b ru pl bo0 bo1 D) (hsb : σ b = bdA w h) (hw1 : 4 ≤ w) (hw2 : w ≤ 7) (hh1 : 4 ≤ h) (hh2 : h ≤ 7) (hP : gmP (w * h) pl D rows) {X kp rf ip fo : Nat} {hk : Int32} (mX : X ∈ L) (sX : σ X = xOg g kp hk rf ip fo) (hXg : X < g) (hch : ∀ r, r < pl → chOK (w * h) ((D r).1 0) ∧ chOK (w * h) ((D r).1 1)) {x : Int32} (hx : x < 0) : gX K yX7_written cX7_written 5 (some .char) 7 1 7 [.ref X, .int x] z L (σ) (fun r z1 L1 σ2 => False) (fun E z1 L1 σ2 => z ≤ z1 ∧ L1 = L ∧ (E = "java/lang/IndexOutOfBoundsException" ∧ σ2 = σ)) := by
  have hn : w * h ≤ 49 := Nat.mul_le_mul hw2 hh2
  have hn1 : 16 ≤ w * h := Nat.mul_le_mul hw1 hh1
  have hn49 : w * h ≤ 49 := hn
  obtain ⟨m0, m2, m3, m4, hbL⟩ := hG.1
  have s0 := hG.2.1
  have s2 := hG.2.2.1
  have hpl := hP.1
  have hlat := gm_lat hG hP
  refine g_introX [some (.ref X), some (.int x), none, none, none] (fun Γ hC hX => ?_) (by simp [g_en, lv_args, Value.category])
  refine g_iload_n (n := 1) hC rfl dX7_written_0 ?_
  refine g_istore_n (n := 2) (ll1 := [some (.ref X), some (.int x), some (.int x), none, none]) hC dX7_written_1 rfl ?_
  refine g_iconst (n := 3) (v := (nI 0)) hC (by decide) dX7_written_2 ?_
  refine g_istore_n (n := 4) (ll1 := [some (.ref X), some (.int x), some (.int x), some (.int (nI 0)), none]) hC dX7_written_3 rfl ?_
  refine g_iload_n (n := 5) hC rfl dX7_written_4 ?_
  refine g_aload_n (n := 6) hC rfl dX7_written_5 ?_
  refine g_getf (n := 9) (v := .ref g) hC gf_X7_10 (mX) (sX) rfl dX7_written_6 ?_
  refine g_getf (n := 12) (v := .int (nI pl)) hC gf_X7_118 (m0) (s0) rfl dX7_written_9 ?_
  refine g_icmp_geN (n := 15) (tgt := 73) hC (by omega) (by omega) dX7_written_12 (fun h12 => ?_) (fun h12 => ?_)
  ·
    exact g_throwSW hC hX th_IOB (List.mem_of_getElem? (i := 24) rfl) dX7_written_73 dX7_written_76 dX7_written_77 dX7_written_80 dX7_written_83 (fun z9 hz9 => ⟨hz9, rfl, rfl, rfl⟩)
  ·
    refine g_iload_n (n := 16) hC rfl dX7_written_15 ?_
    refine g_bipush (n := 18) (v := (nI 60)) hC (by decide) dX7_written_16 ?_
    refine g_icmp_geN (n := 21) (tgt := 73) hC (by decide) (by decide) dX7_written_18 (fun h9 => absurd h9 (by decide)) (fun _ => ?_)
    refine g_iload_n (n := 22) hC rfl dX7_written_21 ?_
    refine g_if_lt (n := 25) (tgt := 73) hC dX7_written_22 (fun h22 => ?_) (fun h22 => absurd hx h22)
    exact g_throwSW hC hX th_IOB (List.mem_of_getElem? (i := 24) rfl) dX7_written_73 dX7_written_76 dX7_written_77 dX7_written_80 dX7_written_83 (fun z9 hz9 => ⟨hz9, rfl, rfl, rfl⟩)

set_option maxRecDepth 20000 in
theorem F_written1 (K : GK) {σ : GS} {L : List Nat} {z : Nat} {g b : Nat} {w h : Nat} {ru : Int32} {pl : Nat} {bo0 bo1 : Int32} {D : Nat → RD} {rows : Nat → Nat → Int32} (hG : gmI K L σ g b ru pl bo0 bo1 D) (hsb : σ b = bdA w h) (hw1 : 4 ≤ w) (hw2 : w ≤ 7) (hh1 : 4 ≤ h) (hh2 : h ≤ 7) (hP : gmP (w * h) pl D rows) {X kp rf ip fo : Nat} {hk : Int32} (mX : X ∈ L) (sX : σ X = xOg g kp hk rf ip fo) (hXg : X < g) (hch : ∀ r, r < pl → chOK (w * h) ((D r).1 0) ∧ chOK (w * h) ((D r).1 1)) {k0 : Nat} (hk0 : k0 < 2 ^ 31) : gX K yX7_written cX7_written 5 (some .char) 7 1 7 [.ref X, .int (nI k0)] z L (σ) (fun r z1 L1 σ2 => (∃ v, xwr w D pl 0 k0 = some v ∧ r = some (.int v)) ∧ z1 = z ∧ L1 = L ∧ σ2 = σ) (fun E z1 L1 σ2 => z ≤ z1 ∧ L1 = L ∧ (E = "java/lang/IndexOutOfBoundsException" ∧ xwr w D pl 0 k0 = none ∧ σ2 = σ)) := by
  have hn : w * h ≤ 49 := Nat.mul_le_mul hw2 hh2
  have hn1 : 16 ≤ w * h := Nat.mul_le_mul hw1 hh1
  have hn49 : w * h ≤ 49 := hn
  obtain ⟨m0, m2, m3, m4, hbL⟩ := hG.1
  have s0 := hG.2.1
  have s2 := hG.2.2.1
  have hpl := hP.1
  have hlat := gm_lat hG hP
  refine g_introX [some (.ref X), some (.int (nI k0)), none, none, none] (fun Γ hC hX => ?_) (by simp [g_en, lv_args, Value.category])
  refine g_iload_n (n := 1) hC rfl dX7_written_0 ?_
  refine g_istore_n (n := 2) (ll1 := [some (.ref X), some (.int (nI k0)), some (.int (nI k0)), none, none]) hC dX7_written_1 rfl ?_
  refine g_iconst (n := 3) (v := (nI 0)) hC (by decide) dX7_written_2 ?_
  refine g_istore_n (n := 4) (ll1 := [some (.ref X), some (.int (nI k0)), some (.int (nI k0)), some (.int (nI 0)), none]) hC dX7_written_3 rfl ?_
  have lp4 : ∀ (n9 : Nat) (i : Nat) (k : Nat) (hi : i ≤ pl) (hk : k < 2 ^ 31) (hinv : xwr w D pl 0 k0 = xwr w D (pl - i) i k) (y2 : Int32) (ey2 : y2 = (nI k)) (y3 : Int32) (ey3 : y3 = (nI i)) (hm9 : pl - i < n9), G K Γ (z, 0, 0, L) (σ) 4 [some (.ref X), some (.int (nI k0)), some (.int y2), some (.int y3), none] [] := by
    intro n9
    induction n9 with
    | zero =>
      intro i k hi hk hinv y2 ey2 y3 ey3 hm9
      exact absurd hm9 (Nat.not_lt_zero _)
    | succ n9 ih4 =>
      intro i k hi hk hinv y2 ey2 y3 ey3 hm9
      subst ey2
      subst ey3
      refine g_iload_n (n := 5) hC rfl dX7_written_4 ?_
      refine g_aload_n (n := 6) hC rfl dX7_written_5 ?_
      refine g_getf (n := 9) (v := .ref g) hC gf_X7_10 (mX) (sX) rfl dX7_written_6 ?_
      refine g_getf (n := 12) (v := .int (nI pl)) hC gf_X7_118 (m0) (s0) rfl dX7_written_9 ?_
      refine g_icmp_geN (n := 15) (tgt := 73) hC (by omega) (by omega) dX7_written_12 (fun h12 => ?_) (fun h12 => ?_)
      ·
        exact g_throwSW hC hX th_IOB (List.mem_of_getElem? (i := 24) rfl) dX7_written_73 dX7_written_76 dX7_written_77 dX7_written_80 dX7_written_83 (fun z9 hz9 => ⟨hz9, rfl, rfl, by rw [hinv]; exact xwr_0 (by omega), rfl⟩)
      ·
        refine g_iload_n (n := 16) hC rfl dX7_written_15 ?_
        refine g_bipush (n := 18) (v := (nI 60)) hC (by decide) dX7_written_16 ?_
        refine g_icmp_geN (n := 21) (tgt := 73) hC (by omega) (by omega) dX7_written_18 (fun h18 => absurd h18 (by omega)) (fun h18 => ?_)
        refine g_iload_n (n := 22) hC rfl dX7_written_21 ?_
        refine g_if_ltN (n := 25) (tgt := 73) hC (by omega) dX7_written_22 (fun h22 => h22.elim) (fun h22 => ?_)
        refine g_aload_n (n := 26) hC rfl dX7_written_25 ?_
        refine g_getf (n := 29) (v := .ref g) hC gf_X7_10 (mX) (sX) rfl dX7_written_26 ?_
        refine g_getf (n := 32) (v := .ref (g + 2)) hC gf_X7_215 (m0) (s0) rfl dX7_written_29 ?_
        refine g_iload_n (n := 33) hC rfl dX7_written_32 ?_
        refine g_aald (n := 34) (j := i) (v := (g + 5 + 4 * i)) hC (m2) (s2) (rfl) (by omega) (by decide) (rds_at (by omega)) dX7_written_33 ?_
        have hri1 := gm_rdI hG hP (r := i) (by omega)
        refine g_astore (n := 36) (ll1 := [some (.ref X), some (.int (nI k0)), some (.int (nI k)), some (.int (nI i)), some (.ref (g + 5 + 4 * i))]) hC dX7_written_34 rfl ?_
        refine g_iload_n (n := 37) hC rfl dX7_written_36 ?_
        refine g_aload (n := 39) hC rfl dX7_written_37 ?_
        refine g_cV (n := 42) (hroom := by exact ⟨Nat.zero_le _, Nat.zero_le _⟩) hC gv_X7_293 (hri1.1.1) (hri1.2.1) (X_signs K hri1 hn49 ) dX7_written_39 ?_
        have hl0 := lnC_le ((D i).1 0)
        have hl1 := lnC_le ((D i).1 1)
        refine g_icmp_geN (n := 45) (tgt := 59) hC (by omega) (by omega) dX7_written_42 (fun h42 => ?_) (fun h42 => ?_)
        ·
          refine g_iload_n (n := 60) hC rfl dX7_written_59 ?_
          refine g_aload (n := 62) hC rfl dX7_written_60 ?_
          refine g_cV (n := 65) (hroom := by exact ⟨Nat.zero_le _, Nat.zero_le _⟩) hC gv_X7_293 (hri1.1.1) (hri1.2.1) (X_signs K hri1 hn49 ) dX7_written_62 ?_
          refine g_isubN (n := 66) hC (h42) dX7_written_65 ?_
          refine g_istore_n (n := 67) (ll1 := [some (.ref X), some (.int (nI k0)), some (.int (nI (k - (lnC ((D i).1 0) + lnC ((D i).1 1) + 1)))), some (.int (nI i)), some (.ref (g + 5 + 4 * i))]) hC dX7_written_66 rfl ?_
          refine g_iinc (n := 70) (ll1 := [some (.ref X), some (.int (nI k0)), some (.int (nI (k - (lnC ((D i).1 0) + lnC ((D i).1 1) + 1)))), some (.int (nI (i + 1))), some (.ref (g + 5 + 4 * i))]) hC dX7_written_67 rfl (nI_inc _) rfl ?_
          refine g_goto (n := 4) hC dX7_written_70 ?_
          exact G.le (ih4 (i + 1) (k - (lnC ((D i).1 0) + lnC ((D i).1 1) + 1)) (by omega) (by omega) (by first | rfl | (rw [hinv, xwr_f (by omega) (by omega), show pl - i - 1 = pl - (i + 1) by omega])) _ (by first | rfl | (simp [*]; done)) _ (by first | rfl | (simp [*]; done)) (by omega)) (And.intro rfl (And.intro rfl (And.intro rfl (And.intro rfl (trivial)))))
        ·
          refine g_aload (n := 47) hC rfl dX7_written_45 ?_
          refine g_aload_n (n := 48) hC rfl dX7_written_47 ?_
          refine g_getf (n := 51) (v := .ref g) hC gf_X7_10 (mX) (sX) rfl dX7_written_48 ?_
          refine g_getf (n := 54) (v := .ref b) hC gf_X7_123 (m0) (s0) rfl dX7_written_51 ?_
          refine g_iload_n (n := 55) hC rfl dX7_written_54 ?_
          have hch9 := hch i (by omega)
          refine g_cV (n := 58) (hroom := by exact ⟨Nat.zero_le _, Nat.zero_le _⟩) hC gv_X7_296 (hri1.1.1) (hri1.2.1) (X_sign K hri1 hn49 hbL hsb hw1 hw2 hh1 hh2 rfl hch9.1 hch9.2 (k := k) (by omega)) dX7_written_55 ?_
          exact g_zret hC (rsg_nb (n := w * h) (by omega) hn49 hch9.1 hch9.2) dX7_written_58 (⟨⟨_, by rw [hinv]; exact xwr_t (by omega) (by omega), rfl⟩, rfl, rfl, rfl⟩) (Nat.zero_le _) (Nat.zero_le _)
  exact lp4 _ 0 k0 (by omega) (by omega) (by first | rfl | (rw [hinv, xwr_f (by omega) (by omega), show pl - i - 1 = pl - (i + 1) by omega])) _ (by first | rfl | (simp [*]; done)) _ (by first | rfl | (simp [*]; done)) (Nat.lt_succ_self _)

set_option maxRecDepth 20000 in
theorem F_save (K : GK) {σ : GS} {L : List Nat} {z : Nat} {g b : Nat} {w h : Nat} {ru : Int32} {pl : Nat} {bo0 bo1 : Int32} {D : Nat → RD} {rows : Nat → Nat → Int32} (hG : gmI K L σ g b ru pl bo0 bo1 D) (hsb : σ b = bdA w h) (hw1 : 4 ≤ w) (hw2 : w ≤ 7) (hh1 : 4 ≤ h) (hh2 : h ≤ 7) (hP : gmP (w * h) pl D rows) {X kp rf ip fo : Nat} {hk : Int32} (mX : X ∈ L) (sX : σ X = xOg g kp hk rf ip fo) (hXg : X < g) {bk : Nat} {ruk : Int32} {plk : Nat} {xk yk : Int32} {Dk : Nat → RD} (hGk : gmI K L σ kp bk ruk plk xk yk Dk) (hTk : gmT Dk) (hT : gmT D) (hgk : g + 245 ≤ kp) : gT K yX7_save cX7_save 1 (some .int) 4 [.ref X] z L (σ) (some (.int (nI pl))) (va_up (cpW K (va_up (psU K σ (kp + 3) (w * h) (rows 0)) kp (gmO kp b ru pl bo0 bo1)) kp (w * h) D rows pl) X (xOg g kp (nI 1) rf ip fo)) := by
  have hn : w * h ≤ 49 := Nat.mul_le_mul hw2 hh2
  have hn1 : 16 ≤ w * h := Nat.mul_le_mul hw1 hh1
  have hn49 : w * h ≤ 49 := hn
  obtain ⟨m0, m2, m3, m4, hbL⟩ := hG.1
  have s0 := hG.2.1
  have s2 := hG.2.2.1
  have hpl := hP.1
  have hlat := gm_lat hG hP
  refine g_intro [some (.ref X)] (fun Γ hC => ?_) (by simp [g_en, lv_args, Value.category])
  refine g_aload_n (n := 1) hC rfl dX7_save_0 ?_
  refine g_getf (n := 4) (v := .ref kp) hC gf_X7_16 (mX) (sX) rfl dX7_save_1 ?_
  refine g_aload_n (n := 5) hC rfl dX7_save_4 ?_
  refine g_getf (n := 8) (v := .ref g) hC gf_X7_10 (mX) (sX) rfl dX7_save_5 ?_
  refine g_cVv (n := 11) hC gv_X7_302 (hGk.1.1) (hGk.2.1) (X_gcopy K hGk hTk hG hT hP hn49 (by omega)) dX7_save_8 ?_
  have hX9 : (cpW K (va_up (psU K σ (kp + 3) (w * h) (rows 0)) kp (gmO kp b ru pl bo0 bo1)) kp (w * h) D rows pl) X = xOg g kp hk rf ip fo := by rw [cpW_o _ (by omega), va_up_ne _ _ (by omega), psU_at (by omega)]; exact sX
  have hg9 : (cpW K (va_up (psU K σ (kp + 3) (w * h) (rows 0)) kp (gmO kp b ru pl bo0 bo1)) kp (w * h) D rows pl) g = gmO g b ru pl bo0 bo1 := by rw [cpW_o _ (by omega), va_up_ne _ _ (by omega), psU_at (by omega)]; exact s0
  refine g_aload_n (n := 12) hC rfl dX7_save_11 ?_
  refine g_iconst (n := 13) (v := (nI 1)) hC (by decide) dX7_save_12 ?_
  refine g_putf (n := 16) hC gp_X7_19 (mX) (hX9) dX7_save_13 ?_
  refine G.eqs (show _ = va_up (cpW K (va_up (psU K σ (kp + 3) (w * h) (rows 0)) kp (gmO kp b ru pl bo0 bo1)) kp (w * h) D rows pl) X (.inr (7, [.ref g, .ref kp, .int (nI 1), .ref rf, .ref ip, .ref fo])) from rfl) ?_
  refine g_aload_n (n := 17) hC rfl dX7_save_16 ?_
  refine g_getf (n := 20) (v := .ref g) hC gf_X7_10 (mX) (va_up_self _ _ _) rfl dX7_save_17 ?_
  refine g_getf (n := 23) (v := .int (nI pl)) hC gf_X7_118 (m0) ((va_up_ne _ _ (by omega)).trans (hg9)) rfl dX7_save_20 ?_
  exact g_iret hC dX7_save_23 (⟨by first | rfl | (simp [*]; done), rfl, rfl, rfl⟩)

set_option maxRecDepth 20000 in
theorem F_restore0 (K : GK) {σ : GS} {L : List Nat} {z : Nat} {g b : Nat} {w h : Nat} {ru : Int32} {pl : Nat} {bo0 bo1 : Int32} {D : Nat → RD} {rows : Nat → Nat → Int32} (hG : gmI K L σ g b ru pl bo0 bo1 D) (hsb : σ b = bdA w h) (hw1 : 4 ≤ w) (hw2 : w ≤ 7) (hh1 : 4 ≤ h) (hh2 : h ≤ 7) (hP : gmP (w * h) pl D rows) {X kp rf ip fo : Nat} {hk : Int32} (mX : X ∈ L) (sX : σ X = xOg g kp hk rf ip fo) (hXg : X < g) (hk0 : hk = 0) : gX K yX7_restore cX7_restore 1 (some .int) 7 1 7 [.ref X] z L (σ) (fun r z1 L1 σ2 => False) (fun E z1 L1 σ2 => z ≤ z1 ∧ L1 = L ∧ (E = "java/lang/IllegalStateException" ∧ σ2 = σ)) := by
  have hn : w * h ≤ 49 := Nat.mul_le_mul hw2 hh2
  have hn1 : 16 ≤ w * h := Nat.mul_le_mul hw1 hh1
  have hn49 : w * h ≤ 49 := hn
  obtain ⟨m0, m2, m3, m4, hbL⟩ := hG.1
  have s0 := hG.2.1
  have s2 := hG.2.2.1
  have hpl := hP.1
  have hlat := gm_lat hG hP
  refine g_introX [some (.ref X)] (fun Γ hC hX => ?_) (by simp [g_en, lv_args, Value.category])
  refine g_aload_n (n := 1) hC rfl dX7_restore_0 ?_
  refine g_getf (n := 4) (v := .int hk) hC gf_X7_19 (mX) (sX) rfl dX7_restore_1 ?_
  refine g_if_ne (n := 7) (tgt := 18) hC dX7_restore_4 (fun h4 => absurd hk0 h4) (fun h4 => ?_)
  exact g_throwSW hC hX th_ISE (List.mem_of_getElem? (i := 25) rfl) dX7_restore_7 dX7_restore_10 dX7_restore_11 dX7_restore_14 dX7_restore_17 (fun z9 hz9 => ⟨hz9, rfl, rfl, rfl⟩)

set_option maxRecDepth 20000 in
theorem F_restore1 (K : GK) {σ : GS} {L : List Nat} {z : Nat} {g b : Nat} {w h : Nat} {ru : Int32} {pl : Nat} {bo0 bo1 : Int32} {D : Nat → RD} {rows : Nat → Nat → Int32} (hG : gmI K L σ g b ru pl bo0 bo1 D) (hsb : σ b = bdA w h) (hw1 : 4 ≤ w) (hw2 : w ≤ 7) (hh1 : 4 ≤ h) (hh2 : h ≤ 7) (hP : gmP (w * h) pl D rows) {X kp rf ip fo : Nat} {hk : Int32} (mX : X ∈ L) (sX : σ X = xOg g kp hk rf ip fo) (hXg : X < g) {bk : Nat} {ruk : Int32} {plk : Nat} {xk yk : Int32} {Dk : Nat → RD} (hGk : gmI K L σ kp bk ruk plk xk yk Dk) (hTk : gmT Dk) (hT : gmT D) (hgk : g + 245 ≤ kp) {nk : Nat} {rowsk : Nat → Nat → Int32} (hPk : gmP nk plk Dk rowsk) (hnk : nk ≤ 49) (hk1 : ¬ hk = 0) : gX K yX7_restore cX7_restore 1 (some .int) 7 1 7 [.ref X] z L (σ) (fun r z1 L1 σ2 => r = some (.int (nI plk)) ∧ z1 = z ∧ L1 = L ∧ σ2 = cpW K (va_up (psU K σ (g + 3) nk (rowsk 0)) g (gmO g bk ruk plk xk yk)) g nk Dk rowsk plk) (fun E z1 L1 σ2 => z ≤ z1 ∧ L1 = L ∧ False) := by
  have hn : w * h ≤ 49 := Nat.mul_le_mul hw2 hh2
  have hn1 : 16 ≤ w * h := Nat.mul_le_mul hw1 hh1
  have hn49 : w * h ≤ 49 := hn
  obtain ⟨m0, m2, m3, m4, hbL⟩ := hG.1
  have s0 := hG.2.1
  have s2 := hG.2.2.1
  have hpl := hP.1
  have hlat := gm_lat hG hP
  refine g_introX [some (.ref X)] (fun Γ hC hX => ?_) (by simp [g_en, lv_args, Value.category])
  refine g_aload_n (n := 1) hC rfl dX7_restore_0 ?_
  refine g_getf (n := 4) (v := .int hk) hC gf_X7_19 (mX) (sX) rfl dX7_restore_1 ?_
  refine g_if_ne (n := 7) (tgt := 18) hC dX7_restore_4 (fun h4 => ?_) (fun h4 => absurd h4 hk1)
  refine g_aload_n (n := 19) hC rfl dX7_restore_18 ?_
  refine g_getf (n := 22) (v := .ref g) hC gf_X7_10 (mX) (sX) rfl dX7_restore_19 ?_
  refine g_aload_n (n := 23) hC rfl dX7_restore_22 ?_
  refine g_getf (n := 26) (v := .ref kp) hC gf_X7_16 (mX) (sX) rfl dX7_restore_23 ?_
  refine g_cVv (n := 29) (hroom := by exact ⟨Nat.zero_le _, Nat.zero_le _⟩) hC gv_X7_302 (m0) (s0) (X_gcopy K hG hT hGk hTk hPk hnk (by omega)) dX7_restore_26 ?_
  have hX9 : (cpW K (va_up (psU K σ (g + 3) nk (rowsk 0)) g (gmO g bk ruk plk xk yk)) g nk Dk rowsk plk) X = xOg g kp hk rf ip fo := by rw [cpW_o _ (by omega), va_up_ne _ _ (by omega), psU_at (by omega)]; exact sX
  have hg9 : (cpW K (va_up (psU K σ (g + 3) nk (rowsk 0)) g (gmO g bk ruk plk xk yk)) g nk Dk rowsk plk) g = gmO g bk ruk plk xk yk := by rw [cpW_o _ (by omega), va_up_self]
  refine g_aload_n (n := 30) hC rfl dX7_restore_29 ?_
  refine g_getf (n := 33) (v := .ref g) hC gf_X7_10 (mX) (hX9) rfl dX7_restore_30 ?_
  refine g_getf (n := 36) (v := .int (nI plk)) hC gf_X7_118 (m0) (hg9) rfl dX7_restore_33 ?_
  exact g_iret hC dX7_restore_36 (⟨rfl, rfl, rfl, rfl⟩) (Nat.zero_le _) (Nat.zero_le _)

set_option maxRecDepth 20000 in
theorem X_latest0 (K : GK) {σ : GS} {L : List Nat} {z : Nat} {g : Nat} {v9 : Value} {ru bo0 bo1 : Int32} (m0 : g ∈ L) (s0 : σ g = .inr (2, [v9, .int ru, .int (nI 0), .ref (g + 2), .ref (g + 3), .int bo0, .int bo1])) : gT K yX2_latest cX2_latest 1 (some (.object "EnclosureReferee$Position")) 0 [.ref g] z L (σ) (some (.ref (g + 3))) (σ) := by
  refine g_intro [some (.ref g)] (fun Γ hC => ?_) (by simp [g_en, lv_args, Value.category])
  refine g_aload_n (n := 1) hC rfl dX2_latest_0 ?_
  refine g_getf (n := 4) (v := .int (nI 0)) hC gf_X2_60 (m0) (s0) rfl dX2_latest_1 ?_
  refine g_if_le (n := 7) (tgt := 33) hC dX2_latest_4 (fun _ => ?_) (fun h9 => absurd h9 (by decide))
  refine g_aload_n (n := 34) hC rfl dX2_latest_33 ?_
  refine g_getf (n := 37) (v := .ref (g + 3)) hC gf_X2_33 (m0) (s0) rfl dX2_latest_34 ?_
  exact g_aret hC dX2_latest_37 (⟨by first | rfl | (simp [*]; done), rfl, rfl, rfl⟩)

set_option maxRecDepth 20000 in
set_option maxHeartbeats 2000000 in
theorem F_start (K : GK) {σ : GS} {L : List Nat} {z : Nat} {g b : Nat} {w h : Nat} {ru : Int32} {pl : Nat} {bo0 bo1 : Int32} {D : Nat → RD} {rows : Nat → Nat → Int32} (hG : gmI K L σ g b ru pl bo0 bo1 D) (hsb : σ b = bdA w h) (hw1 : 4 ≤ w) (hw2 : w ≤ 7) (hh1 : 4 ≤ h) (hh2 : h ≤ 7) (hP : gmP (w * h) pl D rows) {X kp rf ip fo : Nat} {hk : Int32} (mX : X ∈ L) (sX : σ X = xOg g kp hk rf ip fo) (hXg : X < g) (hT : gmT D) (hbo : b < g ∨ b = g + 1 ∨ g + 245 ≤ b) (hzL : ∀ a, a ∈ L → a < z) {x y kx : Int32} : gX K yX7_start cX7_start 4 (some .int) 7 1 7 [.ref X, .int x, .int y, .int kx] z L (σ) (fun r z1 L1 σ2 => ∃ w2 h2 k0, 4 ≤ w2 ∧ w2 ≤ 7 ∧ 4 ≤ h2 ∧ h2 ≤ 7 ∧ k0 ≤ 4 ∧ x = nI w2 ∧ y = nI h2 ∧ kx = nI k0 ∧ r = some (.int (nI (mny (hdF (w2 * h2) w2 h2 k0) (w2 * h2) (nI 0)))) ∧ (((w = w2 ∧ h = h2) ∧ z1 = z ∧ L1 = L ∧ σ2 = va_up (psU K σ (g + 3) (w2 * h2) (hdF (w2 * h2) w2 h2 k0)) g (gmO g b ru 0 (nI 0) (nI 0))) ∨ (¬ (w = w2 ∧ h = h2) ∧ z1 = z + 1 ∧ L1 = L ++ [z] ∧ σ2 = va_up (psU K (va_up σ z (bdA w2 h2)) (g + 3) (w2 * h2) (hdF (w2 * h2) w2 h2 k0)) g (gmO g z ru 0 (nI 0) (nI 0))))) (fun E z1 L1 σ2 => z ≤ z1 ∧ L1 = L ∧ (E = "java/lang/IllegalArgumentException" ∧ ¬ (inR 4 7 x ∧ inR 4 7 y ∧ inR 0 4 kx) ∧ σ2 = σ)) := by
  have hn : w * h ≤ 49 := Nat.mul_le_mul hw2 hh2
  have hn1 : 16 ≤ w * h := Nat.mul_le_mul hw1 hh1
  have hn49 : w * h ≤ 49 := hn
  obtain ⟨m0, m2, m3, m4, hbL⟩ := hG.1
  have s0 := hG.2.1
  have s2 := hG.2.2.1
  have hpl := hP.1
  have hlat := gm_lat hG hP
  refine g_introX [some (.ref X), some (.int x), some (.int y), some (.int kx)] (fun Γ hC hX => ?_) (by simp [g_en, lv_args, Value.category])
  refine g_iload_n (n := 1) hC rfl dX7_start_0 ?_
  refine g_iconst (n := 2) (v := (nI 4)) hC (by decide) dX7_start_1 ?_
  refine g_icmp_lt (n := 5) (tgt := 22) hC dX7_start_2 (fun h2 => ?_) (fun h2 => ?_)
  ·
    exact g_throwS hC hX th_IAE (List.mem_of_getElem? (i := 0) rfl) dX7_start_22 dX7_start_25 dX7_start_26 dX7_start_28 dX7_start_31 (fun z9 hz9 => ⟨hz9, rfl, rfl, fun q => absurd ((inR_iff (a := 4) (by omega) (by omega)).mpr q.1).1 (Int32.not_le.mpr h2), rfl⟩)
  ·
    refine g_iload_n (n := 6) hC rfl dX7_start_5 ?_
    refine g_bipush (n := 8) (v := (nI 7)) hC (by decide) dX7_start_6 ?_
    refine g_icmp_gt (n := 11) (tgt := 22) hC dX7_start_8 (fun h8 => ?_) (fun h8 => ?_)
    ·
      exact g_throwS hC hX th_IAE (List.mem_of_getElem? (i := 0) rfl) dX7_start_22 dX7_start_25 dX7_start_26 dX7_start_28 dX7_start_31 (fun z9 hz9 => ⟨hz9, rfl, rfl, fun q => absurd ((inR_iff (a := 4) (by omega) (by omega)).mpr q.1).2 (Int32.not_le.mpr h8), rfl⟩)
    ·
      refine g_iload_n (n := 12) hC rfl dX7_start_11 ?_
      refine g_iconst (n := 13) (v := (nI 4)) hC (by decide) dX7_start_12 ?_
      refine g_icmp_lt (n := 16) (tgt := 22) hC dX7_start_13 (fun h13 => ?_) (fun h13 => ?_)
      ·
        exact g_throwS hC hX th_IAE (List.mem_of_getElem? (i := 0) rfl) dX7_start_22 dX7_start_25 dX7_start_26 dX7_start_28 dX7_start_31 (fun z9 hz9 => ⟨hz9, rfl, rfl, fun q => absurd ((inR_iff (a := 4) (by omega) (by omega)).mpr q.2.1).1 (Int32.not_le.mpr h13), rfl⟩)
      ·
        refine g_iload_n (n := 17) hC rfl dX7_start_16 ?_
        refine g_bipush (n := 19) (v := (nI 7)) hC (by decide) dX7_start_17 ?_
        refine g_icmp_le (n := 22) (tgt := 32) hC dX7_start_19 (fun h19 => ?_) (fun h19 => ?_)
        ·
          refine g_iload_n (n := 33) hC rfl dX7_start_32 ?_
          refine g_if_lt (n := 36) (tgt := 41) hC dX7_start_33 (fun h33 => ?_) (fun h33 => ?_)
          ·
            exact g_throwS hC hX th_IAE (List.mem_of_getElem? (i := 1) rfl) dX7_start_41 dX7_start_44 dX7_start_45 dX7_start_47 dX7_start_50 (fun z9 hz9 => ⟨hz9, rfl, rfl, fun q => absurd ((inR_iff (a := 0) (by omega) (by omega)).mpr q.2.2).1 (Int32.not_le.mpr h33), rfl⟩)
          ·
            refine g_iload_n (n := 37) hC rfl dX7_start_36 ?_
            refine g_iconst (n := 38) (v := (nI 4)) hC (by decide) dX7_start_37 ?_
            refine g_icmp_le (n := 41) (tgt := 51) hC dX7_start_38 (fun h38 => ?_) (fun h38 => ?_)
            ·
              obtain ⟨w2, hw3, hw4, rfl⟩ := (inR_iff (a := 4) (by omega) (by omega)).mp ⟨Int32.not_lt.mp h2, Int32.not_lt.mp h8⟩
              obtain ⟨h2n, hh3, hh4, rfl⟩ := (inR_iff (a := 4) (by omega) (by omega)).mp ⟨Int32.not_lt.mp h13, h19⟩
              obtain ⟨k0, _, hk4, rfl⟩ := (inR_iff (a := 0) (by omega) (by omega)).mp ⟨Int32.not_lt.mp h33, h38⟩
              refine g_aload_n (n := 52) hC rfl dX7_start_51 ?_
              refine g_getf (n := 55) (v := .ref g) hC gf_X7_10 (mX) (sX) rfl dX7_start_52 ?_
              refine g_iload_n (n := 56) hC rfl dX7_start_55 ?_
              refine g_iload_n (n := 57) hC rfl dX7_start_56 ?_
              refine g_iload_n (n := 58) hC rfl dX7_start_57 ?_
              by_cases hsame : w = w2 ∧ h = h2n
              ·
                obtain ⟨hs1, hs2⟩ := hsame
                subst hs1
                subst hs2
                refine g_cVv (hroom := by exact ⟨Nat.zero_le _, Nat.zero_le _⟩) (n := 61) hC gv_X7_53 m0 s0 (X_begin0 K hG hsb hT hbo hw1 hw2 hh1 hh2 hk4) dX7_start_58 ?_
                have hn2 : (w * h) ≤ 49 := Nat.mul_le_mul (show w ≤ 7 by omega) (show h ≤ 7 by omega)
                have e0 : (va_up (psU K σ (g + 3) (w * h) (hdF (w * h) w h k0)) g (gmO g b ru 0 (nI 0) (nI 0))) g = _ := va_up_self _ _ _
                have eX : (va_up (psU K σ (g + 3) (w * h) (hdF (w * h) w h k0)) g (gmO g b ru 0 (nI 0) (nI 0))) X = xOg g kp hk rf ip fo := by rw [va_up_ne _ _ (by omega), psU_at (by omega)]; exact sX
                have e3 : (va_up (psU K σ (g + 3) (w * h) (hdF (w * h) w h k0)) g (gmO g b ru 0 (nI 0) (nI 0))) (g + 3) = psO (g + 3) (hdF (w * h) w h k0) := by rw [va_up_ne _ _ (by omega), psU_a]
                have e4 : (va_up (psU K σ (g + 3) (w * h) (hdF (w * h) w h k0)) g (gmO g b ru 0 (nI 0) (nI 0))) (g + 3 + 1) = lA K 6 (psS (w * h) (hdF (w * h) w h k0)) := by rw [va_up_ne _ _ (by omega), psU_b]
                show G K Γ (z, 0, 0, L) (va_up (psU K σ (g + 3) (w * h) (hdF (w * h) w h k0)) g (gmO g b ru 0 (nI 0) (nI 0))) 61 [some (.ref X), some (.int (nI w)), some (.int (nI h)), some (.int (nI k0))] []
                refine g_aload_n (n := 62) hC rfl dX7_start_61 ?_
                refine g_getf (n := 65) (v := .ref g) hC gf_X7_10 (mX) (eX) rfl dX7_start_62 ?_
                refine g_cV (n := 68) (hroom := by exact ⟨Nat.zero_le _, Nat.zero_le _⟩) hC gv_X7_57 (m0) (e0) (X_latest0 K (z := z) (m0) e0) dX7_start_65 ?_
                refine g_iconst (n := 69) (v := (nI 0)) hC (by decide) dX7_start_68 ?_
                refine g_cV (n := 72) (hroom := by exact ⟨Nat.zero_le _, Nat.zero_le _⟩) hC gv_X7_61 (m3) (e3) (X_number K (m3) (m4) e3 e4 hn2 (k := 0) (by omega)) dX7_start_69 ?_
                exact g_iret hC dX7_start_72 (⟨w, h, k0, hw3, hw4, hh3, hh4, hk4, rfl, rfl, rfl, rfl, Or.inl ⟨⟨rfl, rfl⟩, rfl, rfl, rfl⟩⟩) (Nat.zero_le _) (Nat.zero_le _)
              ·
                refine g_callV hC gv_X7_53 (X_begin1 K hG hsb hT hbo hw3 hw4 hh3 hh4 hk4 hw2 hh2 hsame hzL) m0 s0 (by rfl) (by decide) (by decide) (by rfl) (by rfl) (Nat.le_of_ble_eq_true rfl) (by exact ⟨Nat.le_refl _, Nat.le_refl _⟩) dX7_start_58 (fun rv9 z9 L9 σ9 hp9 => ?_)
                obtain ⟨rfl, rfl, rfl, rfl⟩ := hp9
                have qX := hzL _ mX
                have q0 := hzL _ m0
                have q3 := hzL _ m3
                have q4 := hzL _ m4
                have q2 := hzL _ m2
                have hn2 : (w2 * h2n) ≤ 49 := Nat.mul_le_mul (show w2 ≤ 7 by omega) (show h2n ≤ 7 by omega)
                have e0 : (va_up (psU K (va_up σ z (bdA w2 h2n)) (g + 3) (w2 * h2n) (hdF (w2 * h2n) w2 h2n k0)) g (gmO g z ru 0 (nI 0) (nI 0))) g = _ := va_up_self _ _ _
                have eX : (va_up (psU K (va_up σ z (bdA w2 h2n)) (g + 3) (w2 * h2n) (hdF (w2 * h2n) w2 h2n k0)) g (gmO g z ru 0 (nI 0) (nI 0))) X = xOg g kp hk rf ip fo := by rw [va_up_ne _ _ (by omega), psU_at (by omega)]; rw [va_up_ne _ _ (by omega)]; exact sX
                have e3 : (va_up (psU K (va_up σ z (bdA w2 h2n)) (g + 3) (w2 * h2n) (hdF (w2 * h2n) w2 h2n k0)) g (gmO g z ru 0 (nI 0) (nI 0))) (g + 3) = psO (g + 3) (hdF (w2 * h2n) w2 h2n k0) := by rw [va_up_ne _ _ (by omega), psU_a]
                have e4 : (va_up (psU K (va_up σ z (bdA w2 h2n)) (g + 3) (w2 * h2n) (hdF (w2 * h2n) w2 h2n k0)) g (gmO g z ru 0 (nI 0) (nI 0))) (g + 3 + 1) = lA K 6 (psS (w2 * h2n) (hdF (w2 * h2n) w2 h2n k0)) := by rw [va_up_ne _ _ (by omega), psU_b]
                show G K Γ (z + 1, 1, 7, L ++ [z]) (va_up (psU K (va_up σ z (bdA w2 h2n)) (g + 3) (w2 * h2n) (hdF (w2 * h2n) w2 h2n k0)) g (gmO g z ru 0 (nI 0) (nI 0))) 61 [some (.ref X), some (.int (nI w2)), some (.int (nI h2n)), some (.int (nI k0))] []
                refine g_aload_n (n := 62) hC rfl dX7_start_61 ?_
                refine g_getf (n := 65) (v := .ref g) hC gf_X7_10 (List.mem_append_left _ (mX)) (eX) rfl dX7_start_62 ?_
                refine g_cV (n := 68) hC gv_X7_57 (List.mem_append_left _ (m0)) (e0) (X_latest0 K (z := z + 1) (List.mem_append_left _ (m0)) e0) dX7_start_65 ?_
                refine g_iconst (n := 69) (v := (nI 0)) hC (by decide) dX7_start_68 ?_
                refine g_cV (n := 72) hC gv_X7_61 (List.mem_append_left _ (m3)) (e3) (X_number K (List.mem_append_left _ (m3)) (List.mem_append_left _ (m4)) e3 e4 hn2 (k := 0) (by omega)) dX7_start_69 ?_
                exact g_iret hC dX7_start_72 (⟨w2, h2n, k0, hw3, hw4, hh3, hh4, hk4, rfl, rfl, rfl, rfl, Or.inr ⟨hsame, rfl, rfl, rfl⟩⟩) (Nat.le_refl _) (Nat.le_refl _)
            ·
              exact g_throwS hC hX th_IAE (List.mem_of_getElem? (i := 1) rfl) dX7_start_41 dX7_start_44 dX7_start_45 dX7_start_47 dX7_start_50 (fun z9 hz9 => ⟨hz9, rfl, rfl, fun q => h38 ((inR_iff (a := 0) (by omega) (by omega)).mpr q.2.2).2, rfl⟩)
        ·
          exact g_throwS hC hX th_IAE (List.mem_of_getElem? (i := 0) rfl) dX7_start_22 dX7_start_25 dX7_start_26 dX7_start_28 dX7_start_31 (fun z9 hz9 => ⟨hz9, rfl, rfl, fun q => h19 ((inR_iff (a := 4) (by omega) (by omega)).mpr q.2.1).2, rfl⟩)
