theorem ifP_l3 (p q r : Prop) : ifP p 0 (ifP q 1 (ifP r 2 3)) ≤ 3 := by
  by_cases h1 : p
  · rw [ifP_t h1]; omega
  · rw [ifP_f h1]
    by_cases h2 : q
    · rw [ifP_t h2]; omega
    · rw [ifP_f h2]
      by_cases h3 : r
      · rw [ifP_t h3]; omega
      · rw [ifP_f h3]; omega
theorem own_ct {n p : Nat} {f : Nat → Int32} (hn : n ≤ 49) (hp : p ≤ 1) : ct (tb (ownF n f p)) 64 = mny f n (nI (1 + p)) + mny f n (nI (3 + p)) := by
  rw [ct_64 (n := n) (by omega) (fun i hi => by rw [ownF, tb_or, Bool.or_eq_true] at hi; exact hi.elim (psS_lt (by omega)) (psS_lt (by omega))), mny, mny, ← ct_or (fun k hk q => ?_)]
  · exact ct_cong fun k hk => by rw [ownF, tb_or, psS_tb (by omega) (by omega) hk, psS_tb (by omega) (by omega) hk]
  · have h1 := of_decide_eq_true q.1
    have h2 := of_decide_eq_true q.2
    have h3 := (nI_eq (by omega) (by omega)).mp (h1.symm.trans h2)
    omega

set_option maxRecDepth 20000 in
theorem F_stones (K : GK) {σ : GS} {L : List Nat} {z : Nat} {g b : Nat} {w h : Nat} {ru : Int32} {pl : Nat} {bo0 bo1 : Int32} {D : Nat → RD} {rows : Nat → Nat → Int32} (hG : gmI K L σ g b ru pl bo0 bo1 D) (hsb : σ b = bdA w h) (hw1 : 4 ≤ w) (hw2 : w ≤ 7) (hh1 : 4 ≤ h) (hh2 : h ≤ 7) (hP : gmP (w * h) pl D rows) {X kp rf ip fo : Nat} {hk : Int32} (mX : X ∈ L) (sX : σ X = xOg g kp hk rf ip fo) (hXg : X < g) {x y : Int32} : gX K yX7_stonesToEnclose cX7_stonesToEnclose 5 (some .int) 7 1 7 [.ref X, .int x, .int y] z L (σ) (fun r z1 L1 σ2 => (∃ p0 c0, p0 ≤ 1 ∧ c0 < w * h ∧ x = nI p0 ∧ y = nI c0 ∧ tb (outF (rows pl) (w * h) p0) c0 = true ∧ ifP (enC w h (outF (rows pl) (w * h) p0) c0) 0 (ifP (∃ a, a < w * h ∧ s1C w h (outF (rows pl) (w * h) p0) (psS (w * h) (rows pl) 0 &&& (sl 1 c0 ^^^ (-1))) c0 a) 1 (ifP (∃ a b, a < w * h ∧ b < w * h ∧ s2C w h (outF (rows pl) (w * h) p0) (psS (w * h) (rows pl) 0 &&& (sl 1 c0 ^^^ (-1))) c0 a b) 2 3)) ≤ 2 ∧ r = some (.int (nI (ifP (enC w h (outF (rows pl) (w * h) p0) c0) 0 (ifP (∃ a, a < w * h ∧ s1C w h (outF (rows pl) (w * h) p0) (psS (w * h) (rows pl) 0 &&& (sl 1 c0 ^^^ (-1))) c0 a) 1 (ifP (∃ a b, a < w * h ∧ b < w * h ∧ s2C w h (outF (rows pl) (w * h) p0) (psS (w * h) (rows pl) 0 &&& (sl 1 c0 ^^^ (-1))) c0 a b) 2 3)))))) ∧ z1 = z ∧ L1 = L ∧ σ2 = σ) (fun E z1 L1 σ2 => z ≤ z1 ∧ L1 = L ∧ ((E = "java/lang/IndexOutOfBoundsException" ∧ ¬ (inR 0 1 x ∧ inN (w * h) y) ∧ σ2 = σ) ∨ (E = nsX ∧ (∃ p0 c0, p0 ≤ 1 ∧ c0 < w * h ∧ x = nI p0 ∧ y = nI c0 ∧ tb (outF (rows pl) (w * h) p0) c0 = false) ∧ σ2 = σ) ∨ (E = nsX ∧ (∃ p0 c0, p0 ≤ 1 ∧ c0 < w * h ∧ x = nI p0 ∧ y = nI c0 ∧ tb (outF (rows pl) (w * h) p0) c0 = true ∧ ¬ ifP (enC w h (outF (rows pl) (w * h) p0) c0) 0 (ifP (∃ a, a < w * h ∧ s1C w h (outF (rows pl) (w * h) p0) (psS (w * h) (rows pl) 0 &&& (sl 1 c0 ^^^ (-1))) c0 a) 1 (ifP (∃ a b, a < w * h ∧ b < w * h ∧ s2C w h (outF (rows pl) (w * h) p0) (psS (w * h) (rows pl) 0 &&& (sl 1 c0 ^^^ (-1))) c0 a b) 2 3)) ≤ 2) ∧ σ2 = σ))) := by
  have hn : w * h ≤ 49 := Nat.mul_le_mul hw2 hh2
  have hn1 : 16 ≤ w * h := Nat.mul_le_mul hw1 hh1
  have hn49 : w * h ≤ 49 := hn
  obtain ⟨m0, m2, m3, m4, hbL⟩ := hG.1
  have s0 := hG.2.1
  have s2 := hG.2.2.1
  have hpl := hP.1
  have hlat := gm_lat hG hP
  refine g_introX [some (.ref X), some (.int x), some (.int y), none, none] (fun Γ hC hX => ?_) (by simp [g_en, lv_args, Value.category])
  refine g_iload_n (n := 1) hC rfl dX7_stonesToEnclose_0 ?_
  refine g_cS (n := 4) (hroom := by exact ⟨Nat.zero_le _, Nat.zero_le _⟩) hC gs_X7_73 (X_isPlayer K) dX7_stonesToEnclose_1 ?_
  refine g_ifb_eq (n := 7) (tgt := 21) hC dX7_stonesToEnclose_4 (fun h4 => ?_) (fun h4 => ?_)
  ·
    exact g_throwS hC hX th_IOB (List.mem_of_getElem? (i := 11) rfl) dX7_stonesToEnclose_21 dX7_stonesToEnclose_24 dX7_stonesToEnclose_25 dX7_stonesToEnclose_27 dX7_stonesToEnclose_30 (fun z9 hz9 => ⟨hz9, rfl, Or.inl ⟨rfl, fun q => h4 q.1, rfl⟩⟩)
  ·
    refine g_aload_n (n := 8) hC rfl dX7_stonesToEnclose_7 ?_
    refine g_getf (n := 11) (v := .ref g) hC gf_X7_10 (mX) (sX) rfl dX7_stonesToEnclose_8 ?_
    refine g_getf (n := 14) (v := .ref b) hC gf_X7_123 (m0) (s0) rfl dX7_stonesToEnclose_11 ?_
    refine g_iload_n (n := 15) hC rfl dX7_stonesToEnclose_14 ?_
    refine g_cV (n := 18) (hroom := by exact ⟨Nat.zero_le _, Nat.zero_le _⟩) hC gv_X7_141 (hbL) (hsb) (X_has K hbL hsb hw1 hw2 hh1 hh2) dX7_stonesToEnclose_15 ?_
    refine g_ifb_ne (n := 21) (tgt := 31) hC dX7_stonesToEnclose_18 (fun h18 => ?_) (fun h18 => ?_)
    ·
      obtain ⟨p0, _, hp1, rfl⟩ := h4
      obtain ⟨c0, hc0, rfl⟩ := h18
      refine g_aload_n (n := 32) hC rfl dX7_stonesToEnclose_31 ?_
      refine g_getf (n := 35) (v := .ref g) hC gf_X7_10 (mX) (sX) rfl dX7_stonesToEnclose_32 ?_
      refine g_cV (n := 38) (hroom := by exact ⟨Nat.zero_le _, Nat.zero_le _⟩) hC gv_X7_57 (m0) (s0) (X_latest K hG hsb hw1 hw2 hh1 hh2 hP) dX7_stonesToEnclose_35 ?_
      refine g_astore_n (n := 39) (ll1 := [some (.ref X), some (.int (nI p0)), some (.int (nI c0)), some (.ref (latA g pl)), none]) hC dX7_stonesToEnclose_38 rfl ?_
      refine g_aload_n (n := 40) hC rfl dX7_stonesToEnclose_39 ?_
      refine g_aload_n (n := 41) hC rfl dX7_stonesToEnclose_40 ?_
      refine g_getf (n := 44) (v := .ref g) hC gf_X7_10 (mX) (sX) rfl dX7_stonesToEnclose_41 ?_
      refine g_getf (n := 47) (v := .ref b) hC gf_X7_123 (m0) (s0) rfl dX7_stonesToEnclose_44 ?_
      refine g_iload_n (n := 48) hC rfl dX7_stonesToEnclose_47 ?_
      refine g_cV (n := 51) (hroom := by exact ⟨Nat.zero_le _, Nat.zero_le _⟩) hC gv_X7_179 (hlat.1) (hlat.2.2.1) (X_open K hbL hsb hw1 hw2 hh1 hh2 hlat.1 hlat.2.1 hlat.2.2.1 hlat.2.2.2 hp1) dX7_stonesToEnclose_48 ?_
      refine g_lconst (n := 52) (v := 1) hC (by decide) dX7_stonesToEnclose_51 ?_
      refine g_iload_n (n := 53) hC rfl dX7_stonesToEnclose_52 ?_
      refine g_lshlN (n := 54) hC (by omega) dX7_stonesToEnclose_53 ?_
      refine g_land (n := 55) hC dX7_stonesToEnclose_54 ?_
      refine g_lconst (n := 56) (v := 0) hC (by decide) dX7_stonesToEnclose_55 ?_
      refine g_lcmp_ne (n := 60) (tgt := 70) hC dX7_stonesToEnclose_56 dX7_stonesToEnclose_57 (fun h56 => ?_) (fun h56 => ?_)
      ·
        have hto : tb (outF (rows pl) (w * h) p0) c0 = true := (and_one h56).1
        refine g_aload_n (n := 71) hC rfl dX7_stonesToEnclose_70 ?_
        refine g_aload_n (n := 72) hC rfl dX7_stonesToEnclose_71 ?_
        refine g_getf (n := 75) (v := .ref g) hC gf_X7_10 (mX) (sX) rfl dX7_stonesToEnclose_72 ?_
        refine g_getf (n := 78) (v := .ref b) hC gf_X7_123 (m0) (s0) rfl dX7_stonesToEnclose_75 ?_
        refine g_iload_n (n := 79) hC rfl dX7_stonesToEnclose_78 ?_
        refine g_iload_n (n := 80) hC rfl dX7_stonesToEnclose_79 ?_
        refine g_cV (n := 83) (hroom := by exact ⟨Nat.zero_le _, Nat.zero_le _⟩) hC gv_X7_200 (hlat.1) (hlat.2.2.1) (X_stonesAround K hbL hsb hw1 hw2 hh1 hh2 hlat.1 hlat.2.1 hlat.2.2.1 hlat.2.2.2 hp1 hc0 hto) dX7_stonesToEnclose_80 ?_
        refine g_istore (n := 85) (ll1 := [some (.ref X), some (.int (nI p0)), some (.int (nI c0)), some (.ref (latA g pl)), some (.int (nI (ifP (enC w h (outF (rows pl) (w * h) p0) c0) 0 (ifP (∃ a, a < w * h ∧ s1C w h (outF (rows pl) (w * h) p0) (psS (w * h) (rows pl) 0 &&& (sl 1 c0 ^^^ (-1))) c0 a) 1 (ifP (∃ a b, a < w * h ∧ b < w * h ∧ s2C w h (outF (rows pl) (w * h) p0) (psS (w * h) (rows pl) 0 &&& (sl 1 c0 ^^^ (-1))) c0 a b) 2 3)))))]) hC dX7_stonesToEnclose_83 rfl ?_
        refine g_iload (n := 87) hC rfl dX7_stonesToEnclose_85 ?_
        refine g_iconst (n := 88) (v := (nI 2)) hC (by decide) dX7_stonesToEnclose_87 ?_
        refine g_icmp_leN (n := 91) (tgt := 101) hC (by have := ifP_l3 (enC w h (outF (rows pl) (w * h) p0) c0) (∃ a, a < w * h ∧ s1C w h (outF (rows pl) (w * h) p0) (psS (w * h) (rows pl) 0 &&& (sl 1 c0 ^^^ (-1))) c0 a) (∃ a b, a < w * h ∧ b < w * h ∧ s2C w h (outF (rows pl) (w * h) p0) (psS (w * h) (rows pl) 0 &&& (sl 1 c0 ^^^ (-1))) c0 a b); omega) (by omega) dX7_stonesToEnclose_88 (fun h88 => ?_) (fun h88 => ?_)
        ·
          refine g_iload (n := 103) hC rfl dX7_stonesToEnclose_101 ?_
          exact g_iret hC dX7_stonesToEnclose_103 (⟨⟨p0, c0, hp1, hc0, rfl, rfl, hto, h88, rfl⟩, rfl, rfl, rfl⟩) (Nat.zero_le _) (Nat.zero_le _)
        ·
          exact g_throwS hC hX th_NSE (List.mem_of_getElem? (i := 15) rfl) dX7_stonesToEnclose_91 dX7_stonesToEnclose_94 dX7_stonesToEnclose_95 dX7_stonesToEnclose_97 dX7_stonesToEnclose_100 (fun z9 hz9 => ⟨hz9, rfl, Or.inr (Or.inr ⟨rfl, ⟨p0, c0, hp1, hc0, rfl, rfl, hto, by omega⟩, rfl⟩)⟩)
      ·
        exact g_throwS hC hX th_NSE (List.mem_of_getElem? (i := 12) rfl) dX7_stonesToEnclose_60 dX7_stonesToEnclose_63 dX7_stonesToEnclose_64 dX7_stonesToEnclose_66 dX7_stonesToEnclose_69 (fun z9 hz9 => ⟨hz9, rfl, Or.inr (Or.inl ⟨rfl, ⟨p0, c0, hp1, hc0, rfl, rfl, and_one0 h56⟩, rfl⟩)⟩)
    ·
      exact g_throwS hC hX th_IOB (List.mem_of_getElem? (i := 11) rfl) dX7_stonesToEnclose_21 dX7_stonesToEnclose_24 dX7_stonesToEnclose_25 dX7_stonesToEnclose_27 dX7_stonesToEnclose_30 (fun z9 hz9 => ⟨hz9, rfl, Or.inl ⟨rfl, fun q => h18 q.2, rfl⟩⟩)

set_option maxRecDepth 20000 in
theorem F_share (K : GK) {σ : GS} {L : List Nat} {z : Nat} {g b : Nat} {w h : Nat} {ru : Int32} {pl : Nat} {bo0 bo1 : Int32} {D : Nat → RD} {rows : Nat → Nat → Int32} (hG : gmI K L σ g b ru pl bo0 bo1 D) (hsb : σ b = bdA w h) (hw1 : 4 ≤ w) (hw2 : w ≤ 7) (hh1 : 4 ≤ h) (hh2 : h ≤ 7) (hP : gmP (w * h) pl D rows) {X kp rf ip fo : Nat} {hk : Int32} (mX : X ∈ L) (sX : σ X = xOg g kp hk rf ip fo) (hXg : X < g) {x : Int32} : gX K yX7_share cX7_share 2 (some .double) 7 1 7 [.ref X, .int x] z L (σ) (fun r z1 L1 σ2 => (∃ p0, p0 ≤ 1 ∧ x = nI p0 ∧ r = some (.double (FP.ddiv (FP.i2d (nI (mny (rows pl) (w * h) (nI (1 + p0)) + mny (rows pl) (w * h) (nI (3 + p0))))) (FP.i2d (nI (w * h)))))) ∧ z1 = z ∧ L1 = L ∧ σ2 = σ) (fun E z1 L1 σ2 => z ≤ z1 ∧ L1 = L ∧ (E = "java/lang/IndexOutOfBoundsException" ∧ ¬ inR 0 1 x ∧ σ2 = σ)) := by
  have hn : w * h ≤ 49 := Nat.mul_le_mul hw2 hh2
  have hn1 : 16 ≤ w * h := Nat.mul_le_mul hw1 hh1
  have hn49 : w * h ≤ 49 := hn
  obtain ⟨m0, m2, m3, m4, hbL⟩ := hG.1
  have s0 := hG.2.1
  have s2 := hG.2.2.1
  have hpl := hP.1
  have hlat := gm_lat hG hP
  refine g_introX [some (.ref X), some (.int x)] (fun Γ hC hX => ?_) (by simp [g_en, lv_args, Value.category])
  refine g_iload_n (n := 1) hC rfl dX7_share_0 ?_
  refine g_cS (n := 4) (hroom := by exact ⟨Nat.zero_le _, Nat.zero_le _⟩) hC gs_X7_73 (X_isPlayer K) dX7_share_1 ?_
  refine g_ifb_ne (n := 7) (tgt := 17) hC dX7_share_4 (fun h4 => ?_) (fun h4 => ?_)
  ·
    obtain ⟨p0, _, hp1, rfl⟩ := h4
    have hoc := own_ct (f := rows pl) hn49 hp1
    have hm1 : mny (rows pl) (w * h) (nI (1 + p0)) ≤ w * h := ct_le _ _
    have hm2 : mny (rows pl) (w * h) (nI (3 + p0)) ≤ w * h := ct_le _ _
    refine g_aload_n (n := 18) hC rfl dX7_share_17 ?_
    refine g_getf (n := 21) (v := .ref g) hC gf_X7_10 (mX) (sX) rfl dX7_share_18 ?_
    refine g_getf (n := 24) (v := .ref b) hC gf_X7_123 (m0) (s0) rfl dX7_share_21 ?_
    refine g_aload_n (n := 25) hC rfl dX7_share_24 ?_
    refine g_getf (n := 28) (v := .ref g) hC gf_X7_10 (mX) (sX) rfl dX7_share_25 ?_
    refine g_cV (n := 31) (hroom := by exact ⟨Nat.zero_le _, Nat.zero_le _⟩) hC gv_X7_57 (m0) (s0) (X_latest K hG hsb hw1 hw2 hh1 hh2 hP) dX7_share_28 ?_
    refine g_iload_n (n := 32) hC rfl dX7_share_31 ?_
    refine g_cV (n := 35) (hroom := by exact ⟨Nat.zero_le _, Nat.zero_le _⟩) hC gv_X7_206 (hlat.1) (hlat.2.2.1) (X_own K hlat.1 hlat.2.1 hlat.2.2.1 hlat.2.2.2 hn49 hp1) dX7_share_32 ?_
    refine g_cV (n := 38) (hroom := by exact ⟨Nat.zero_le _, Nat.zero_le _⟩) hC gv_X7_209 (hbL) (hsb) (X_partOfBoard K hbL hsb hw1 hw2 hh1 hh2 (s := ownF (w * h) (rows pl) p0) (by omega)) dX7_share_35 ?_
    exact g_dret hC dX7_share_38 (⟨⟨p0, hp1, rfl, by rw [hoc]⟩, rfl, rfl, rfl⟩) (Nat.zero_le _) (Nat.zero_le _)
  ·
    exact g_throwS hC hX th_IOB (List.mem_of_getElem? (i := 3) rfl) dX7_share_7 dX7_share_10 dX7_share_11 dX7_share_13 dX7_share_16 (fun z9 hz9 => ⟨hz9, rfl, rfl, h4, rfl⟩)

noncomputable def xrd (d : RD) (k : Nat) : Int32 := if k = 0 then d.1 0 else if k = 1 then d.1 1 else if k = 2 then bI (d.1 0 = d.1 1 ∧ d.1 0 ≠ -1) else if k = 3 then nI (wvn d.2.2.1 8) else if k = 4 then nI (cbw d.2.2.1 8) else if k = 5 then d.1 2 else d.1 3

set_option maxRecDepth 20000 in
theorem F_round (K : GK) {σ : GS} {L : List Nat} {z : Nat} {g b : Nat} {w h : Nat} {ru : Int32} {pl : Nat} {bo0 bo1 : Int32} {D : Nat → RD} {rows : Nat → Nat → Int32} (hG : gmI K L σ g b ru pl bo0 bo1 D) (hsb : σ b = bdA w h) (hw1 : 4 ≤ w) (hw2 : w ≤ 7) (hh1 : 4 ≤ h) (hh2 : h ≤ 7) (hP : gmP (w * h) pl D rows) {X kp rf ip fo : Nat} {hk : Int32} (mX : X ∈ L) (sX : σ X = xOg g kp hk rf ip fo) (hXg : X < g) {x y : Int32} : gX K yX7_round cX7_round 4 (some .int) 7 1 7 [.ref X, .int x, .int y] z L (σ) (fun r z1 L1 σ2 => (∃ r0 x0, r0 < pl ∧ x0 ≤ 6 ∧ x = nI r0 ∧ y = nI x0 ∧ r = some (.int (xrd (D r0) x0))) ∧ z1 = z ∧ L1 = L ∧ σ2 = σ) (fun E z1 L1 σ2 => z ≤ z1 ∧ L1 = L ∧ ((E = "java/lang/IndexOutOfBoundsException" ∧ ¬ inN pl x ∧ σ2 = σ) ∨ (E = "java/lang/IllegalArgumentException" ∧ inN pl x ∧ ¬ inR 0 6 y ∧ σ2 = σ))) := by
  have hn : w * h ≤ 49 := Nat.mul_le_mul hw2 hh2
  have hn1 : 16 ≤ w * h := Nat.mul_le_mul hw1 hh1
  have hn49 : w * h ≤ 49 := hn
  obtain ⟨m0, m2, m3, m4, hbL⟩ := hG.1
  have s0 := hG.2.1
  have s2 := hG.2.2.1
  have hpl := hP.1
  have hlat := gm_lat hG hP
  refine g_introX [some (.ref X), some (.int x), some (.int y), none] (fun Γ hC hX => ?_) (by simp [g_en, lv_args, Value.category])
  refine g_iload_n (n := 1) hC rfl dX7_round_0 ?_
  refine g_if_lt (n := 4) (tgt := 21) hC dX7_round_1 (fun h1 => ?_) (fun h1 => ?_)
  ·
    exact g_throwS hC hX th_IOB (List.mem_of_getElem? (i := 16) rfl) dX7_round_21 dX7_round_24 dX7_round_25 dX7_round_27 dX7_round_30 (fun z9 hz9 => ⟨hz9, rfl, Or.inl ⟨rfl, fun q => absurd ((inN_b (by omega)).mpr q).1 (Int32.not_le.mpr h1), rfl⟩⟩)
  ·
    refine g_iload_n (n := 5) hC rfl dX7_round_4 ?_
    refine g_aload_n (n := 6) hC rfl dX7_round_5 ?_
    refine g_getf (n := 9) (v := .ref g) hC gf_X7_10 (mX) (sX) rfl dX7_round_6 ?_
    refine g_getf (n := 12) (v := .int (nI pl)) hC gf_X7_118 (m0) (s0) rfl dX7_round_9 ?_
    refine g_icmp_ge (n := 15) (tgt := 21) hC dX7_round_12 (fun h12 => ?_) (fun h12 => ?_)
    ·
      exact g_throwS hC hX th_IOB (List.mem_of_getElem? (i := 16) rfl) dX7_round_21 dX7_round_24 dX7_round_25 dX7_round_27 dX7_round_30 (fun z9 hz9 => ⟨hz9, rfl, Or.inl ⟨rfl, fun q => absurd ((inN_b (by omega)).mpr q).2 (Int32.not_lt.mpr h12), rfl⟩⟩)
    ·
      obtain ⟨r0, hr0, rfl⟩ := (inN_b (by omega)).mp ⟨Int32.not_lt.mp h1, Int32.not_le.mp h12⟩
      refine g_iload_n (n := 16) hC rfl dX7_round_15 ?_
      refine g_bipush (n := 18) (v := (nI 60)) hC (by decide) dX7_round_16 ?_
      refine g_icmp_ltN (n := 21) (tgt := 31) hC (by omega) (by omega) dX7_round_18 (fun h18 => ?_) (fun h18 => absurd h18 (by omega))
      refine g_aload_n (n := 32) hC rfl dX7_round_31 ?_
      refine g_getf (n := 35) (v := .ref g) hC gf_X7_10 (mX) (sX) rfl dX7_round_32 ?_
      refine g_getf (n := 38) (v := .ref (g + 2)) hC gf_X7_215 (m0) (s0) rfl dX7_round_35 ?_
      refine g_iload_n (n := 39) hC rfl dX7_round_38 ?_
      refine g_aald (n := 40) (j := r0) (v := (g + 5 + 4 * r0)) hC (m2) (s2) (rfl) (by omega) (by decide) (rds_at (by omega)) dX7_round_39 ?_
      have hri1 := gm_rdI hG hP (r := r0) (by omega)
      refine g_astore_n (n := 41) (ll1 := [some (.ref X), some (.int (nI r0)), some (.int y), some (.ref (g + 5 + 4 * r0))]) hC dX7_round_40 rfl ?_
      refine g_iload_n (n := 42) hC rfl dX7_round_41 ?_
      refine g_tsw (n := 123) hC dX7_round_42 (by decide) (fun j9 hj9 e9 tgt9 ht9 => ?_) (fun ho9 => ?_)
      · match j9, hj9 with
        | 0, _ =>
          obtain rfl : tgt9 = 84 := by revert ht9; show _ = (_ : Int) → _; intro ht9; exact (by have h8 := ht9; simp at h8; omega)
          subst e9
          refine g_aload_n (n := 85) hC rfl dX7_round_84 ?_
          refine g_iload_n (n := 86) hC rfl dX7_round_85 ?_
          refine g_cV (n := 89) (hroom := by exact ⟨Nat.zero_le _, Nat.zero_le _⟩) hC gv_X7_219 (hri1.1.1) (hri1.2.1) (X_rchoice K hri1 hn49 (q := 0) (by omega)) dX7_round_86 ?_
          exact g_iret hC dX7_round_89 (⟨⟨r0, 0, hr0, by omega, rfl, rfl, rfl⟩, rfl, rfl, rfl⟩) (Nat.zero_le _) (Nat.zero_le _)
        | 1, _ =>
          obtain rfl : tgt9 = 84 := by revert ht9; show _ = (_ : Int) → _; intro ht9; exact (by have h8 := ht9; simp at h8; omega)
          subst e9
          refine g_aload_n (n := 85) hC rfl dX7_round_84 ?_
          refine g_iload_n (n := 86) hC rfl dX7_round_85 ?_
          refine g_cV (n := 89) (hroom := by exact ⟨Nat.zero_le _, Nat.zero_le _⟩) hC gv_X7_219 (hri1.1.1) (hri1.2.1) (X_rchoice K hri1 hn49 (q := 1) (by omega)) dX7_round_86 ?_
          exact g_iret hC dX7_round_89 (⟨⟨r0, 1, hr0, by omega, rfl, rfl, rfl⟩, rfl, rfl, rfl⟩) (Nat.zero_le _) (Nat.zero_le _)
        | 2, _ =>
          obtain rfl : tgt9 = 90 := by revert ht9; show _ = (_ : Int) → _; intro ht9; exact (by have h8 := ht9; simp at h8; omega)
          refine g_aload_n (n := 91) hC rfl dX7_round_90 ?_
          refine g_cV (n := 94) (hroom := by exact ⟨Nat.zero_le _, Nat.zero_le _⟩) hC gv_X7_224 (hri1.1.1) (hri1.2.1) (X_isClash K hri1 hn49 ) dX7_round_91 ?_
          refine g_ifb_eq (n := 97) (tgt := 101) hC dX7_round_94 (fun h94 => ?_) (fun h94 => ?_)
          ·
            refine g_iconst (n := 102) (v := (nI 0)) hC (by decide) dX7_round_101 ?_
            exact g_iret hC dX7_round_102 (⟨⟨r0, 2, hr0, by omega, rfl, e9, rI (bI_f h94).symm⟩, rfl, rfl, rfl⟩) (Nat.zero_le _) (Nat.zero_le _)
          ·
            refine g_iconst (n := 98) (v := (nI 1)) hC (by decide) dX7_round_97 ?_
            refine g_goto (n := 102) hC dX7_round_98 ?_
            exact g_iret hC dX7_round_102 (⟨⟨r0, 2, hr0, by omega, rfl, e9, rI (bI_t h94).symm⟩, rfl, rfl, rfl⟩) (Nat.zero_le _) (Nat.zero_le _)
        | 3, _ =>
          obtain rfl : tgt9 = 103 := by revert ht9; show _ = (_ : Int) → _; intro ht9; exact (by have h8 := ht9; simp at h8; omega)
          refine g_aload_n (n := 104) hC rfl dX7_round_103 ?_
          refine g_cV (n := 107) (hroom := by exact ⟨Nat.zero_le _, Nat.zero_le _⟩) hC gv_X7_227 (hri1.1.1) (hri1.2.1) (X_rwaves K hri1 hn49 ) dX7_round_104 ?_
          exact g_iret hC dX7_round_107 (⟨⟨r0, 3, hr0, by omega, rfl, e9, rfl⟩, rfl, rfl, rfl⟩) (Nat.zero_le _) (Nat.zero_le _)
        | 4, _ =>
          obtain rfl : tgt9 = 108 := by revert ht9; show _ = (_ : Int) → _; intro ht9; exact (by have h8 := ht9; simp at h8; omega)
          refine g_aload_n (n := 109) hC rfl dX7_round_108 ?_
          refine g_cV (n := 112) (hroom := by exact ⟨Nat.zero_le _, Nat.zero_le _⟩) hC gv_X7_228 (hri1.1.1) (hri1.2.1) (X_changedByWaves K hri1 hn49 ) dX7_round_109 ?_
          exact g_iret hC dX7_round_112 (⟨⟨r0, 4, hr0, by omega, rfl, e9, rfl⟩, rfl, rfl, rfl⟩) (Nat.zero_le _) (Nat.zero_le _)
        | 5, _ =>
          obtain rfl : tgt9 = 113 := by revert ht9; show _ = (_ : Int) → _; intro ht9; exact (by have h8 := ht9; simp at h8; omega)
          refine g_aload_n (n := 114) hC rfl dX7_round_113 ?_
          refine g_getf (n := 117) (v := .int ((D r0).1 2)) hC gf_X7_231 (hri1.1.1) (hri1.2.1) rfl dX7_round_114 ?_
          exact g_iret hC dX7_round_117 (⟨⟨r0, 5, hr0, by omega, rfl, e9, rfl⟩, rfl, rfl, rfl⟩) (Nat.zero_le _) (Nat.zero_le _)
        | 6, _ =>
          obtain rfl : tgt9 = 118 := by revert ht9; show _ = (_ : Int) → _; intro ht9; exact (by have h8 := ht9; simp at h8; omega)
          refine g_aload_n (n := 119) hC rfl dX7_round_118 ?_
          refine g_getf (n := 122) (v := .int ((D r0).1 3)) hC gf_X7_234 (hri1.1.1) (hri1.2.1) rfl dX7_round_119 ?_
          exact g_iret hC dX7_round_122 (⟨⟨r0, 6, hr0, by omega, rfl, e9, rfl⟩, rfl, rfl, rfl⟩) (Nat.zero_le _) (Nat.zero_le _)
        | j + 7, hj => exact absurd hj (by simp)
      ·
        exact g_throwS hC hX th_IAE (List.mem_of_getElem? (i := 17) rfl) dX7_round_123 dX7_round_126 dX7_round_127 dX7_round_129 dX7_round_132 (fun z9 hz9 => ⟨hz9, rfl, Or.inr ⟨rfl, ⟨r0, hr0, rfl⟩, fun ⟨j, _, q2, q3⟩ => ho9 j (by show j < 7; omega) q3, rfl⟩⟩)

set_option maxRecDepth 20000 in
theorem F_turning (K : GK) {σ : GS} {L : List Nat} {z : Nat} {g b : Nat} {w h : Nat} {ru : Int32} {pl : Nat} {bo0 bo1 : Int32} {D : Nat → RD} {rows : Nat → Nat → Int32} (hG : gmI K L σ g b ru pl bo0 bo1 D) (hsb : σ b = bdA w h) (hw1 : 4 ≤ w) (hw2 : w ≤ 7) (hh1 : 4 ≤ h) (hh2 : h ≤ 7) (hP : gmP (w * h) pl D rows) {X kp rf ip fo : Nat} {hk : Int32} (mX : X ∈ L) (sX : σ X = xOg g kp hk rf ip fo) (hXg : X < g) {info : Nat → Int32} (hinf : ∀ r, r < pl → info (7 * r + 5) = (D r).1 2 ∧ info (7 * r + 6) = (D r).1 3) (habs : ∀ r, r < pl → (if 0 ≤ tpI info r - tpW info (bo0 - bo1) r then tpI info r - tpW info (bo0 - bo1) r else 0 - (tpI info r - tpW info (bo0 - bo1) r)) = tpD info (bo0 - bo1) r) : gX K yX7_turningPoint cX7_turningPoint 1 (some .int) 7 1 7 [.ref X] z L (σ) (fun r z1 L1 σ2 => (pl ≠ 0 ∧ r = some (.int (nI (tpB info (bo0 - bo1) pl)))) ∧ z1 = z ∧ L1 = L ∧ σ2 = σ) (fun E z1 L1 σ2 => z ≤ z1 ∧ L1 = L ∧ (E = nsX ∧ pl = 0 ∧ σ2 = σ)) := by
  have hn : w * h ≤ 49 := Nat.mul_le_mul hw2 hh2
  have hn1 : 16 ≤ w * h := Nat.mul_le_mul hw1 hh1
  have hn49 : w * h ≤ 49 := hn
  obtain ⟨m0, m2, m3, m4, hbL⟩ := hG.1
  have s0 := hG.2.1
  have s2 := hG.2.2.1
  have hpl := hP.1
  have hlat := gm_lat hG hP
  refine g_introX [some (.ref X)] (fun Γ hC hX => ?_) (by simp [g_en, lv_args, Value.category])
  refine g_aload_n (n := 1) hC rfl dX7_turningPoint_0 ?_
  refine g_getf (n := 4) (v := .ref g) hC gf_X7_10 (mX) (sX) rfl dX7_turningPoint_1 ?_
  refine g_getf (n := 7) (v := .int (nI pl)) hC gf_X7_118 (m0) (s0) rfl dX7_turningPoint_4 ?_
  refine g_if_neN (n := 10) (tgt := 20) hC (by omega) dX7_turningPoint_7 (fun h7 => ?_) (fun h7 => ?_)
  ·
    refine g_aload_n (n := 21) hC rfl dX7_turningPoint_20 ?_
    refine g_getf (n := 24) (v := .ref g) hC gf_X7_10 (mX) (sX) rfl dX7_turningPoint_21 ?_
    refine g_cV (n := 27) (hroom := by exact ⟨Nat.zero_le _, Nat.zero_le _⟩) hC gv_X7_239 (m0) (s0) (X_turning K hG hsb hw1 hw2 hh1 hh2 hP hinf habs) dX7_turningPoint_24 ?_
    exact g_iret hC dX7_turningPoint_27 (⟨⟨h7, rfl⟩, rfl, rfl, rfl⟩) (Nat.zero_le _) (Nat.zero_le _)
  ·
    exact g_throwS hC hX th_NSE (List.mem_of_getElem? (i := 8) rfl) dX7_turningPoint_10 dX7_turningPoint_13 dX7_turningPoint_14 dX7_turningPoint_16 dX7_turningPoint_19 (fun z9 hz9 => ⟨hz9, rfl, rfl, h7, rfl⟩)

set_option maxRecDepth 20000 in
theorem F_report (K : GK) {σ : GS} {L : List Nat} {z : Nat} {g b : Nat} {w h : Nat} {ru : Int32} {pl : Nat} {bo0 bo1 : Int32} {D : Nat → RD} {rows : Nat → Nat → Int32} (hG : gmI K L σ g b ru pl bo0 bo1 D) (hsb : σ b = bdA w h) (hw1 : 4 ≤ w) (hw2 : w ≤ 7) (hh1 : 4 ≤ h) (hh2 : h ≤ 7) (hP : gmP (w * h) pl D rows) {X kp rf ip fo : Nat} {hk : Int32} (mX : X ∈ L) (sX : σ X = xOg g kp hk rf ip fo) (hXg : X < g) {rk : Nat} {cd dt : Nat → Int32} (mr : rf ∈ L) (mr1 : rf + 1 ∈ L) (mr2 : rf + 2 ∈ L) (sr : σ rf = rfsO rf rk) (sr1 : σ (rf + 1) = iA K 4 cd) (sr2 : σ (rf + 2) = iA K 4 dt) (hrk : rk ≤ 4) {x y : Int32} : gX K yX7_report cX7_report 3 (some .int) 7 1 7 [.ref X, .int x, .int y] z L (σ) (fun r z1 L1 σ2 => (∃ r0, r0 < rk ∧ x = nI r0 ∧ ((y = nI 0 ∧ r = some (.int (cd r0))) ∨ (y = nI 1 ∧ r = some (.int (dt r0))))) ∧ z1 = z ∧ L1 = L ∧ σ2 = σ) (fun E z1 L1 σ2 => z ≤ z1 ∧ L1 = L ∧ ((E = nsX ∧ ¬ inN rk x ∧ σ2 = σ) ∨ (E = "java/lang/IllegalArgumentException" ∧ inN rk x ∧ ¬ inR 0 1 y ∧ σ2 = σ))) := by
  have hn : w * h ≤ 49 := Nat.mul_le_mul hw2 hh2
  have hn1 : 16 ≤ w * h := Nat.mul_le_mul hw1 hh1
  have hn49 : w * h ≤ 49 := hn
  obtain ⟨m0, m2, m3, m4, hbL⟩ := hG.1
  have s0 := hG.2.1
  have s2 := hG.2.2.1
  have hpl := hP.1
  have hlat := gm_lat hG hP
  refine g_introX [some (.ref X), some (.int x), some (.int y)] (fun Γ hC hX => ?_) (by simp [g_en, lv_args, Value.category])
  refine g_iload_n (n := 1) hC rfl dX7_report_0 ?_
  refine g_if_lt (n := 4) (tgt := 20) hC dX7_report_1 (fun h1 => ?_) (fun h1 => ?_)
  ·
    exact g_throwSW hC hX th_NSE (List.mem_of_getElem? (i := 21) rfl) dX7_report_20 dX7_report_23 dX7_report_24 dX7_report_27 dX7_report_30 (fun z9 hz9 => ⟨hz9, rfl, Or.inl ⟨rfl, fun q => absurd ((inN_b (by omega)).mpr q).1 (Int32.not_le.mpr h1), rfl⟩⟩)
  ·
    refine g_iload_n (n := 5) hC rfl dX7_report_4 ?_
    refine g_aload_n (n := 6) hC rfl dX7_report_5 ?_
    refine g_getf (n := 9) (v := .ref rf) hC gf_X7_26 (mX) (sX) rfl dX7_report_6 ?_
    refine g_getf (n := 12) (v := .int (nI rk)) hC gf_X7_264 (mr) (sr) rfl dX7_report_9 ?_
    refine g_icmp_ge (n := 15) (tgt := 20) hC dX7_report_12 (fun h12 => ?_) (fun h12 => ?_)
    ·
      exact g_throwSW hC hX th_NSE (List.mem_of_getElem? (i := 21) rfl) dX7_report_20 dX7_report_23 dX7_report_24 dX7_report_27 dX7_report_30 (fun z9 hz9 => ⟨hz9, rfl, Or.inl ⟨rfl, fun q => absurd ((inN_b (by omega)).mpr q).2 (Int32.not_lt.mpr h12), rfl⟩⟩)
    ·
      obtain ⟨r0, hr0, rfl⟩ := (inN_b (by omega)).mp ⟨Int32.not_lt.mp h1, Int32.not_le.mp h12⟩
      refine g_iload_n (n := 16) hC rfl dX7_report_15 ?_
      refine g_iconst (n := 17) (v := (nI 4)) hC (by decide) dX7_report_16 ?_
      refine g_icmp_ltN (n := 20) (tgt := 31) hC (by omega) (by omega) dX7_report_17 (fun h17 => ?_) (fun h17 => absurd h17 (by omega))
      refine g_iload_n (n := 32) hC rfl dX7_report_31 ?_
      refine g_lsw2 (t0 := 60) (t1 := 70) (td := 80) hC dX7_report_32 (fun e9 => ?_) (fun e9 => ?_) (fun ho9 => ?_)
      ·
        refine g_aload_n (n := 61) hC rfl dX7_report_60 ?_
        refine g_getf (n := 64) (v := .ref rf) hC gf_X7_26 (mX) (sX) rfl dX7_report_61 ?_
        refine g_getf (n := 67) (v := .ref (rf + 1)) hC gf_X7_267 (mr) (sr) rfl dX7_report_64 ?_
        refine g_iload_n (n := 68) hC rfl dX7_report_67 ?_
        refine g_iald (n := 69) (j := r0) hC (mr1) (sr1) (rfl) (by omega) (by omega) dX7_report_68 ?_
        exact g_iret hC dX7_report_69 (⟨⟨r0, hr0, rfl, Or.inl ⟨e9, rfl⟩⟩, rfl, rfl, rfl⟩) (Nat.zero_le _) (Nat.zero_le _)
      ·
        refine g_aload_n (n := 71) hC rfl dX7_report_70 ?_
        refine g_getf (n := 74) (v := .ref rf) hC gf_X7_26 (mX) (sX) rfl dX7_report_71 ?_
        refine g_getf (n := 77) (v := .ref (rf + 2)) hC gf_X7_271 (mr) (sr) rfl dX7_report_74 ?_
        refine g_iload_n (n := 78) hC rfl dX7_report_77 ?_
        refine g_iald (n := 79) (j := r0) hC (mr2) (sr2) (rfl) (by omega) (by omega) dX7_report_78 ?_
        exact g_iret hC dX7_report_79 (⟨⟨r0, hr0, rfl, Or.inr ⟨e9, rfl⟩⟩, rfl, rfl, rfl⟩) (Nat.zero_le _) (Nat.zero_le _)
      ·
        exact g_throwS hC hX th_IAE (List.mem_of_getElem? (i := 17) rfl) dX7_report_80 dX7_report_83 dX7_report_84 dX7_report_86 dX7_report_89 (fun z9 hz9 => ⟨hz9, rfl, Or.inr ⟨rfl, ⟨r0, hr0, rfl⟩, ho9, rfl⟩⟩)

set_option maxRecDepth 20000 in
theorem F_setRule (K : GK) {σ : GS} {L : List Nat} {z : Nat} {g b : Nat} {w h : Nat} {ru : Int32} {pl : Nat} {bo0 bo1 : Int32} {D : Nat → RD} {rows : Nat → Nat → Int32} (hG : gmI K L σ g b ru pl bo0 bo1 D) (hsb : σ b = bdA w h) (hw1 : 4 ≤ w) (hw2 : w ≤ 7) (hh1 : 4 ≤ h) (hh2 : h ≤ 7) (hP : gmP (w * h) pl D rows) {X kp rf ip fo : Nat} {hk : Int32} (mX : X ∈ L) (sX : σ X = xOg g kp hk rf ip fo) (hXg : X < g) {x : Int32} : gX K yX7_setRule cX7_setRule 3 (some .int) 7 1 7 [.ref X, .int x] z L (σ) (fun r z1 L1 σ2 => ∃ x0, x0 ≤ 2 ∧ x = nI x0 ∧ r = some (.int ru) ∧ z1 = z ∧ L1 = L ∧ σ2 = va_up σ g (gmO g b (nI x0) pl bo0 bo1)) (fun E z1 L1 σ2 => z ≤ z1 ∧ L1 = L ∧ (E = "java/lang/IllegalArgumentException" ∧ ¬ inR 0 2 x ∧ σ2 = σ)) := by
  have hn : w * h ≤ 49 := Nat.mul_le_mul hw2 hh2
  have hn1 : 16 ≤ w * h := Nat.mul_le_mul hw1 hh1
  have hn49 : w * h ≤ 49 := hn
  obtain ⟨m0, m2, m3, m4, hbL⟩ := hG.1
  have s0 := hG.2.1
  have s2 := hG.2.2.1
  have hpl := hP.1
  have hlat := gm_lat hG hP
  refine g_introX [some (.ref X), some (.int x), none] (fun Γ hC hX => ?_) (by simp [g_en, lv_args, Value.category])
  refine g_iload_n (n := 1) hC rfl dX7_setRule_0 ?_
  refine g_if_lt (n := 4) (tgt := 9) hC dX7_setRule_1 (fun h1 => ?_) (fun h1 => ?_)
  ·
    exact g_throwS hC hX th_IAE (List.mem_of_getElem? (i := 2) rfl) dX7_setRule_9 dX7_setRule_12 dX7_setRule_13 dX7_setRule_15 dX7_setRule_18 (fun z9 hz9 => ⟨hz9, rfl, rfl, fun q => absurd ((inR_iff (a := 0) (by omega) (by omega)).mpr q).1 (Int32.not_le.mpr h1), rfl⟩)
  ·
    refine g_iload_n (n := 5) hC rfl dX7_setRule_4 ?_
    refine g_iconst (n := 6) (v := (nI 2)) hC (by decide) dX7_setRule_5 ?_
    refine g_icmp_le (n := 9) (tgt := 19) hC dX7_setRule_6 (fun h6 => ?_) (fun h6 => ?_)
    ·
      obtain ⟨x0, _, hx0, rfl⟩ := (inR_iff (a := 0) (by omega) (by omega)).mp ⟨Int32.not_lt.mp h1, h6⟩
      refine g_aload_n (n := 20) hC rfl dX7_setRule_19 ?_
      refine g_getf (n := 23) (v := .ref g) hC gf_X7_10 (mX) (sX) rfl dX7_setRule_20 ?_
      refine g_getf (n := 26) (v := .int ru) hC gf_X7_69 (m0) (s0) rfl dX7_setRule_23 ?_
      refine g_istore_n (n := 27) (ll1 := [some (.ref X), some (.int (nI x0)), some (.int ru)]) hC dX7_setRule_26 rfl ?_
      refine g_aload_n (n := 28) hC rfl dX7_setRule_27 ?_
      refine g_getf (n := 31) (v := .ref g) hC gf_X7_10 (mX) (sX) rfl dX7_setRule_28 ?_
      refine g_iload_n (n := 32) hC rfl dX7_setRule_31 ?_
      refine g_putf (n := 35) hC gp_X7_69 (m0) (s0) dX7_setRule_32 ?_
      refine G.eqs (show _ = va_up (σ) g (.inr (2, [.ref b, .int (nI x0), .int (nI pl), .ref (g + 2), .ref (g + 3), .int bo0, .int bo1])) from rfl) ?_
      refine g_iload_n (n := 36) hC rfl dX7_setRule_35 ?_
      exact g_iret hC dX7_setRule_36 (⟨x0, hx0, rfl, rfl, rfl, rfl, rfl⟩) (Nat.zero_le _) (Nat.zero_le _)
    ·
      exact g_throwS hC hX th_IAE (List.mem_of_getElem? (i := 2) rfl) dX7_setRule_9 dX7_setRule_12 dX7_setRule_13 dX7_setRule_15 dX7_setRule_18 (fun z9 hz9 => ⟨hz9, rfl, rfl, fun q => h6 ((inR_iff (a := 0) (by omega) (by omega)).mpr q).2, rfl⟩)

set_option maxRecDepth 20000 in
theorem F_setBonus (K : GK) {σ : GS} {L : List Nat} {z : Nat} {g b : Nat} {w h : Nat} {ru : Int32} {pl : Nat} {bo0 bo1 : Int32} {D : Nat → RD} {rows : Nat → Nat → Int32} (hG : gmI K L σ g b ru pl bo0 bo1 D) (hsb : σ b = bdA w h) (hw1 : 4 ≤ w) (hw2 : w ≤ 7) (hh1 : 4 ≤ h) (hh2 : h ≤ 7) (hP : gmP (w * h) pl D rows) {X kp rf ip fo : Nat} {hk : Int32} (mX : X ∈ L) (sX : σ X = xOg g kp hk rf ip fo) (hXg : X < g) {x y : Int32} : gX K yX7_setBonus cX7_setBonus 4 (some .int) 7 1 7 [.ref X, .int x, .int y] z L (σ) (fun r z1 L1 σ2 => ∃ p0 x0, p0 ≤ 1 ∧ x0 ≤ 20 ∧ x = nI p0 ∧ y = nI x0 ∧ r = some (.int (bnO bo0 bo1 p0)) ∧ z1 = z ∧ L1 = L ∧ σ2 = va_up σ g (gmO g b ru pl (if p0 = 0 then nI x0 else bo0) (if p0 = 0 then bo1 else nI x0))) (fun E z1 L1 σ2 => z ≤ z1 ∧ L1 = L ∧ ((E = "java/lang/IndexOutOfBoundsException" ∧ ¬ inR 0 1 x ∧ σ2 = σ) ∨ (E = "java/lang/IllegalArgumentException" ∧ inR 0 1 x ∧ ¬ inR 0 20 y ∧ σ2 = σ))) := by
  have hn : w * h ≤ 49 := Nat.mul_le_mul hw2 hh2
  have hn1 : 16 ≤ w * h := Nat.mul_le_mul hw1 hh1
  have hn49 : w * h ≤ 49 := hn
  obtain ⟨m0, m2, m3, m4, hbL⟩ := hG.1
  have s0 := hG.2.1
  have s2 := hG.2.2.1
  have hpl := hP.1
  have hlat := gm_lat hG hP
  refine g_introX [some (.ref X), some (.int x), some (.int y), none] (fun Γ hC hX => ?_) (by simp [g_en, lv_args, Value.category])
  refine g_iload_n (n := 1) hC rfl dX7_setBonus_0 ?_
  refine g_cS (n := 4) (hroom := by exact ⟨Nat.zero_le _, Nat.zero_le _⟩) hC gs_X7_73 (X_isPlayer K) dX7_setBonus_1 ?_
  refine g_ifb_ne (n := 7) (tgt := 17) hC dX7_setBonus_4 (fun h4 => ?_) (fun h4 => ?_)
  ·
    obtain ⟨p0, _, hp1, rfl⟩ := h4
    refine g_iload_n (n := 18) hC rfl dX7_setBonus_17 ?_
    refine g_if_lt (n := 21) (tgt := 27) hC dX7_setBonus_18 (fun h18 => ?_) (fun h18 => ?_)
    ·
      exact g_throwS hC hX th_IAE (List.mem_of_getElem? (i := 4) rfl) dX7_setBonus_27 dX7_setBonus_30 dX7_setBonus_31 dX7_setBonus_33 dX7_setBonus_36 (fun z9 hz9 => ⟨hz9, rfl, Or.inr ⟨rfl, ⟨p0, by omega, hp1, rfl⟩, fun q => absurd ((inR_iff (a := 0) (by omega) (by omega)).mpr q).1 (Int32.not_le.mpr h18), rfl⟩⟩)
    ·
      refine g_iload_n (n := 22) hC rfl dX7_setBonus_21 ?_
      refine g_bipush (n := 24) (v := (nI 20)) hC (by decide) dX7_setBonus_22 ?_
      refine g_icmp_le (n := 27) (tgt := 37) hC dX7_setBonus_24 (fun h24 => ?_) (fun h24 => ?_)
      ·
        obtain ⟨x0, _, hx0, rfl⟩ := (inR_iff (a := 0) (by omega) (by omega)).mp ⟨Int32.not_lt.mp h18, h24⟩
        refine g_aload_n (n := 38) hC rfl dX7_setBonus_37 ?_
        refine g_getf (n := 41) (v := .ref g) hC gf_X7_10 (mX) (sX) rfl dX7_setBonus_38 ?_
        refine g_iload_n (n := 42) hC rfl dX7_setBonus_41 ?_
        refine g_cV (n := 45) (hroom := by exact ⟨Nat.zero_le _, Nat.zero_le _⟩) hC gv_X7_84 (m0) (s0) (X_bonus K hG hsb hw1 hw2 hh1 hh2 hP hp1) dX7_setBonus_42 ?_
        refine g_istore_n (n := 46) (ll1 := [some (.ref X), some (.int (nI p0)), some (.int (nI x0)), some (.int (bnO bo0 bo1 p0))]) hC dX7_setBonus_45 rfl ?_
        refine g_aload_n (n := 47) hC rfl dX7_setBonus_46 ?_
        refine g_getf (n := 50) (v := .ref g) hC gf_X7_10 (mX) (sX) rfl dX7_setBonus_47 ?_
        refine g_iload_n (n := 51) hC rfl dX7_setBonus_50 ?_
        refine g_iload_n (n := 52) hC rfl dX7_setBonus_51 ?_
        refine g_cVv (n := 55) (hroom := by exact ⟨Nat.zero_le _, Nat.zero_le _⟩) hC gv_X7_87 (m0) (s0) (X_changeBonus K hG hsb hw1 hw2 hh1 hh2 hP (v := nI x0) hp1) dX7_setBonus_52 ?_
        refine g_iload_n (n := 56) hC rfl dX7_setBonus_55 ?_
        exact g_iret hC dX7_setBonus_56 (⟨p0, x0, hp1, hx0, rfl, rfl, rfl, rfl, rfl, rfl⟩) (Nat.zero_le _) (Nat.zero_le _)
      ·
        exact g_throwS hC hX th_IAE (List.mem_of_getElem? (i := 4) rfl) dX7_setBonus_27 dX7_setBonus_30 dX7_setBonus_31 dX7_setBonus_33 dX7_setBonus_36 (fun z9 hz9 => ⟨hz9, rfl, Or.inr ⟨rfl, ⟨p0, by omega, hp1, rfl⟩, fun q => h24 ((inR_iff (a := 0) (by omega) (by omega)).mpr q).2, rfl⟩⟩)
  ·
    exact g_throwS hC hX th_IOB (List.mem_of_getElem? (i := 3) rfl) dX7_setBonus_7 dX7_setBonus_10 dX7_setBonus_11 dX7_setBonus_13 dX7_setBonus_16 (fun z9 hz9 => ⟨hz9, rfl, Or.inl ⟨rfl, h4, rfl⟩⟩)

set_option maxRecDepth 20000 in
theorem F_undo (K : GK) {σ : GS} {L : List Nat} {z : Nat} {g b : Nat} {w h : Nat} {ru : Int32} {pl : Nat} {bo0 bo1 : Int32} {D : Nat → RD} {rows : Nat → Nat → Int32} (hG : gmI K L σ g b ru pl bo0 bo1 D) (hsb : σ b = bdA w h) (hw1 : 4 ≤ w) (hw2 : w ≤ 7) (hh1 : 4 ≤ h) (hh2 : h ≤ 7) (hP : gmP (w * h) pl D rows) {X kp rf ip fo : Nat} {hk : Int32} (mX : X ∈ L) (sX : σ X = xOg g kp hk rf ip fo) (hXg : X < g) : gX K yX7_undo cX7_undo 1 (some .int) 7 1 7 [.ref X] z L (σ) (fun r z1 L1 σ2 => pl ≠ 0 ∧ r = some (.int (nI (pl - 1))) ∧ z1 = z ∧ L1 = L ∧ σ2 = va_up σ g (gmO g b ru (pl - 1) bo0 bo1)) (fun E z1 L1 σ2 => z ≤ z1 ∧ L1 = L ∧ (E = "java/lang/IllegalStateException" ∧ pl = 0 ∧ σ2 = σ)) := by
  have hn : w * h ≤ 49 := Nat.mul_le_mul hw2 hh2
  have hn1 : 16 ≤ w * h := Nat.mul_le_mul hw1 hh1
  have hn49 : w * h ≤ 49 := hn
  obtain ⟨m0, m2, m3, m4, hbL⟩ := hG.1
  have s0 := hG.2.1
  have s2 := hG.2.2.1
  have hpl := hP.1
  have hlat := gm_lat hG hP
  refine g_introX [some (.ref X)] (fun Γ hC hX => ?_) (by simp [g_en, lv_args, Value.category])
  refine g_aload_n (n := 1) hC rfl dX7_undo_0 ?_
  refine g_getf (n := 4) (v := .ref g) hC gf_X7_10 (mX) (sX) rfl dX7_undo_1 ?_
  refine g_getf (n := 7) (v := .int (nI pl)) hC gf_X7_118 (m0) (s0) rfl dX7_undo_4 ?_
  refine g_if_neN (n := 10) (tgt := 20) hC (by omega) dX7_undo_7 (fun h7 => ?_) (fun h7 => ?_)
  ·
    refine g_aload_n (n := 21) hC rfl dX7_undo_20 ?_
    refine g_getf (n := 24) (v := .ref g) hC gf_X7_10 (mX) (sX) rfl dX7_undo_21 ?_
    refine g_dup (n := 25) hC rfl dX7_undo_24 ?_
    refine g_getf (n := 28) (v := .int (nI pl)) hC gf_X7_118 (m0) (s0) rfl dX7_undo_25 ?_
    refine g_iconst (n := 29) (v := (nI 1)) hC (by decide) dX7_undo_28 ?_
    refine g_isubN (n := 30) hC (by omega) dX7_undo_29 ?_
    refine g_putf (n := 33) hC gp_X7_118 (m0) (s0) dX7_undo_30 ?_
    refine G.eqs (show _ = va_up (σ) g (.inr (2, [.ref b, .int ru, .int (nI (pl - 1)), .ref (g + 2), .ref (g + 3), .int bo0, .int bo1])) from rfl) ?_
    refine g_aload_n (n := 34) hC rfl dX7_undo_33 ?_
    refine g_getf (n := 37) (v := .ref g) hC gf_X7_10 (mX) ((va_up_ne _ _ (by omega)).trans (sX)) rfl dX7_undo_34 ?_
    refine g_getf (n := 40) (v := .int (nI (pl - 1))) hC gf_X7_118 (m0) (va_up_self _ _ _) rfl dX7_undo_37 ?_
    exact g_iret hC dX7_undo_40 (⟨h7, rfl, rfl, rfl, rfl⟩) (Nat.zero_le _) (Nat.zero_le _)
  ·
    exact g_throwS hC hX th_ISE (List.mem_of_getElem? (i := 8) rfl) dX7_undo_10 dX7_undo_13 dX7_undo_14 dX7_undo_16 dX7_undo_19 (fun z9 hz9 => ⟨hz9, rfl, rfl, h7, rfl⟩)

set_option maxRecDepth 20000 in
theorem F_feed0 (K : GK) {σ : GS} {L : List Nat} {z : Nat} {g b : Nat} {w h : Nat} {ru : Int32} {pl : Nat} {bo0 bo1 : Int32} {D : Nat → RD} {rows : Nat → Nat → Int32} (hG : gmI K L σ g b ru pl bo0 bo1 D) (hsb : σ b = bdA w h) (hw1 : 4 ≤ w) (hw2 : w ≤ 7) (hh1 : 4 ≤ h) (hh2 : h ≤ 7) (hP : gmP (w * h) pl D rows) {X kp rf ip fo : Nat} {hk : Int32} (mX : X ∈ L) (sX : σ X = xOg g kp hk rf ip fo) (hXg : X < g) {tn cr : Nat} {tx gc : Nat → Int32} (n0 : ip ∈ L) (n1 : ip + 1 ∈ L) (n2 : ip + 2 ∈ L) (t0 : σ ip = inpO ip tn cr) (t1 : σ (ip + 1) = cA K 80 tx) (t2 : σ (ip + 2) = iA K 80 gc) {v : Nat} (hv : v < 65536) (hXi : X < ip) (h80 : tn = 80) : gX K yX7_feed cX7_feed 2 (some .int) 7 1 7 [.ref X, .int (nI v)] z L (σ) (fun r z1 L1 σ2 => False) (fun E z1 L1 σ2 => z ≤ z1 ∧ L1 = L ∧ (E = "java/lang/IllegalStateException" ∧ σ2 = σ)) := by
  have hn : w * h ≤ 49 := Nat.mul_le_mul hw2 hh2
  have hn1 : 16 ≤ w * h := Nat.mul_le_mul hw1 hh1
  have hn49 : w * h ≤ 49 := hn
  obtain ⟨m0, m2, m3, m4, hbL⟩ := hG.1
  have s0 := hG.2.1
  have s2 := hG.2.2.1
  have hpl := hP.1
  have hlat := gm_lat hG hP
  refine g_introX [some (.ref X), some (.int (nI v))] (fun Γ hC hX => ?_) (by simp [g_en, lv_args, Value.category])
  refine g_aload_n (n := 1) hC rfl dX7_feed_0 ?_
  refine g_getf (n := 4) (v := .ref ip) hC gf_X7_33 (mX) (sX) rfl dX7_feed_1 ?_
  refine g_iload_n (n := 5) hC rfl dX7_feed_4 ?_
  refine g_cV (n := 8) (hroom := by exact ⟨Nat.zero_le _, Nat.zero_le _⟩) hC gv_X7_274 (n0) (t0) (X_append0 K n0 n1 n2 t0 t1 t2 h80) dX7_feed_5 ?_
  refine g_if_ne (n := 11) (tgt := 22) hC dX7_feed_8 (fun h9 => absurd h9 (by decide)) (fun _ => ?_)
  exact g_throwSW hC hX th_ISE (List.mem_of_getElem? (i := 22) rfl) dX7_feed_11 dX7_feed_14 dX7_feed_15 dX7_feed_18 dX7_feed_21 (fun z9 hz9 => ⟨hz9, rfl, rfl, rfl⟩)

set_option maxRecDepth 20000 in
theorem F_feed1 (K : GK) {σ : GS} {L : List Nat} {z : Nat} {g b : Nat} {w h : Nat} {ru : Int32} {pl : Nat} {bo0 bo1 : Int32} {D : Nat → RD} {rows : Nat → Nat → Int32} (hG : gmI K L σ g b ru pl bo0 bo1 D) (hsb : σ b = bdA w h) (hw1 : 4 ≤ w) (hw2 : w ≤ 7) (hh1 : 4 ≤ h) (hh2 : h ≤ 7) (hP : gmP (w * h) pl D rows) {X kp rf ip fo : Nat} {hk : Int32} (mX : X ∈ L) (sX : σ X = xOg g kp hk rf ip fo) (hXg : X < g) {tn cr : Nat} {tx gc : Nat → Int32} (n0 : ip ∈ L) (n1 : ip + 1 ∈ L) (n2 : ip + 2 ∈ L) (t0 : σ ip = inpO ip tn cr) (t1 : σ (ip + 1) = cA K 80 tx) (t2 : σ (ip + 2) = iA K 80 gc) {v : Nat} (hv : v < 65536) (hXi : X < ip) (h80 : tn < 80) : gX K yX7_feed cX7_feed 2 (some .int) 7 1 7 [.ref X, .int (nI v)] z L (σ) (fun r z1 L1 σ2 => r = some (.int (nI (tn + 1))) ∧ z1 = z ∧ L1 = L ∧ σ2 = va_up (va_up σ (ip + 1) (cA K 80 (va_up tx tn (nI v)))) ip (inpO ip (tn + 1) cr)) (fun E z1 L1 σ2 => z ≤ z1 ∧ L1 = L ∧ False) := by
  have hn : w * h ≤ 49 := Nat.mul_le_mul hw2 hh2
  have hn1 : 16 ≤ w * h := Nat.mul_le_mul hw1 hh1
  have hn49 : w * h ≤ 49 := hn
  obtain ⟨m0, m2, m3, m4, hbL⟩ := hG.1
  have s0 := hG.2.1
  have s2 := hG.2.2.1
  have hpl := hP.1
  have hlat := gm_lat hG hP
  refine g_introX [some (.ref X), some (.int (nI v))] (fun Γ hC hX => ?_) (by simp [g_en, lv_args, Value.category])
  refine g_aload_n (n := 1) hC rfl dX7_feed_0 ?_
  refine g_getf (n := 4) (v := .ref ip) hC gf_X7_33 (mX) (sX) rfl dX7_feed_1 ?_
  refine g_iload_n (n := 5) hC rfl dX7_feed_4 ?_
  refine g_cV (n := 8) (hroom := by exact ⟨Nat.zero_le _, Nat.zero_le _⟩) hC gv_X7_274 (n0) (t0) (X_append1 K n0 n1 n2 t0 t1 t2 h80 hv) dX7_feed_5 ?_
  have hipX : X ≠ ip ∧ X ≠ ip + 1 := ⟨by omega, by omega⟩
  refine g_if_ne (n := 11) (tgt := 22) hC dX7_feed_8 (fun _ => ?_) (fun h9 => absurd h9 (by decide))
  refine g_aload_n (n := 23) hC rfl dX7_feed_22 ?_
  refine g_getf (n := 26) (v := .ref ip) hC gf_X7_33 (mX) (((va_up_ne _ _ hipX.1).trans ((va_up_ne _ _ hipX.2).trans sX))) rfl dX7_feed_23 ?_
  refine g_getf (n := 29) (v := .int (nI (tn + 1))) hC gf_X7_280 (n0) (va_up_self _ _ _) rfl dX7_feed_26 ?_
  exact g_iret hC dX7_feed_29 (⟨rfl, rfl, rfl, rfl⟩) (Nat.zero_le _) (Nat.zero_le _)

/-- the record's sign at k, from the round i on, m rounds being left -/
def xwr (w : Nat) (D : Nat → RD) : Nat → Nat → Nat → Option Int32
  | 0, _, _ => none
  | m + 1, i, k => if k < lnC ((D i).1 0) + lnC ((D i).1 1) + 1 then some (rsg w (D i).1 k) else xwr w D m (i + 1) (k - (lnC ((D i).1 0) + lnC ((D i).1 1) + 1))
