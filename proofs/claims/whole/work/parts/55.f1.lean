/-! ===== the class: its face ===== -/
theorem g_lsw2 {K : GK} {Γ : GX} {cc : ByteArray} {nL d mc ms : Nat} {own mn : String} {rt : Option FieldType} {Po : GP} {ω : GO} {σ : GS} {pc : Nat} {ll : List (Option Value)} {r : List Value} (hC : gC K Γ cc nL own mn d mc ms rt Po) {x : Int32} {dflt o0 o1 : Int} {len t0 t1 td : Nat} (hd : decode cc pc = .ok (.lookupswitch dflt #[(0, o0), (1, o1)], len)) (k0 : x = nI 0 → G K Γ ω σ t0 ll r) (k1 : x = nI 1 → G K Γ ω σ t1 ll r) (kd : ¬ inR 0 1 x → G K Γ ω σ td ll r) (h0 : (pc : Int) + o0 = (t0 : Int) := by decide) (h1 : (pc : Int) + o1 = (t1 : Int) := by decide) (hdd : (pc : Int) + dflt = (td : Int) := by decide) : G K Γ ω σ pc ll (.int x :: r) := by
  obtain ⟨l, D, cy⟩ := K
  obtain ⟨p, e, R, s, m, args, below, meth, c, A, H0, Q⟩ := Γ
  obtain ⟨z, k9, n9, L⟩ := ω
  obtain ⟨⟨hx, hb, hml, hown, hts⟩, hrt, hlk, ⟨hK, hEv⟩, hA, hR, hmn, hE⟩ := hC
  intro H locs ls hz hW hS hl
  by_cases e0 : x = nI 0
  · subst e0
    exact lv_lookup hx hb hd (by rfl) (off := o0) (by rfl) h0 (k0 rfl H locs ls hz hW hS hl)
  · by_cases e1 : x = nI 1
    · subst e1
      exact lv_lookup hx hb hd (by rfl) (off := o1) (by rfl) h1 (k1 rfl H locs ls hz hW hS hl)
    · have n0 : x.toInt ≠ 0 := fun q => e0 (by apply Int32.toInt_inj.mp; rw [q]; rfl)
      have n1 : x.toInt ≠ 1 := fun q => e1 (by apply Int32.toInt_inj.mp; rw [q]; rfl)
      refine lv_lookup hx hb hd (by rfl) (off := dflt) ?_ hdd (kd (fun ⟨j, q1, q2, q3⟩ => ?_) H locs ls hz hW hS hl)
      · simp [Op.lookupswitch.offset, Ne.symm n0, Ne.symm n1, n0, n1]
      · rcases (show j = 0 ∨ j = 1 by omega) with rfl | rfl
        · exact e0 q3
        · exact e1 q3
def xOg (g kp : Nat) (hk : Int32) (rf ip fo : Nat) : va_E := .inr (7, [.ref g, .ref kp, .int hk, .ref rf, .ref ip, .ref fo])
theorem inR_2 {x : Int32} : inR 0 1 x ↔ x = 0 ∨ x = nI 1 := by
  constructor
  · rintro ⟨j, _, h2, rfl⟩
    rcases (show j = 0 ∨ j = 1 by omega) with rfl | rfl
    · exact Or.inl nI_0
    · exact Or.inr rfl
  · rintro (rfl | rfl)
    · exact ⟨0, by omega, by omega, nI_0.symm⟩
    · exact ⟨1, by omega, by omega, rfl⟩

set_option maxRecDepth 20000 in
theorem X_isPlayer (K : GK) {σ : GS} {L : List Nat} {z : Nat} {x : Int32} : gT K yX7_isPlayer cX7_isPlayer 1 (some .boolean) 0 [.int x] z L (σ) (some (.int (bI (inR 0 1 x)))) (σ) := by
  refine g_intro [some (.int x)] (fun Γ hC => ?_) (by simp [g_en, lv_args, Value.category])
  refine g_iload_n (n := 1) hC rfl dX7_isPlayer_0 ?_
  refine g_if_eq (n := 4) (tgt := 9) hC dX7_isPlayer_1 (fun h1 => ?_) (fun h1 => ?_)
  ·
    refine g_iconst (n := 10) (v := (nI 1)) hC (by decide) dX7_isPlayer_9 ?_
    refine g_goto (n := 14) hC dX7_isPlayer_10 ?_
    exact g_zret hC (by rfl) dX7_isPlayer_14 (⟨rI (bI_t (inR_2.mpr (Or.inl h1))).symm, rfl, rfl, rfl⟩)
  ·
    refine g_iload_n (n := 5) hC rfl dX7_isPlayer_4 ?_
    refine g_iconst (n := 6) (v := (nI 1)) hC (by decide) dX7_isPlayer_5 ?_
    refine g_icmp_ne (n := 9) (tgt := 13) hC dX7_isPlayer_6 (fun h6 => ?_) (fun h6 => ?_)
    ·
      refine g_iconst (n := 14) (v := (nI 0)) hC (by decide) dX7_isPlayer_13 ?_
      exact g_zret hC (by rfl) dX7_isPlayer_14 (⟨rI (bI_f (fun q => (inR_2.mp q).elim h1 h6)).symm, rfl, rfl, rfl⟩)
    ·
      refine g_iconst (n := 10) (v := (nI 1)) hC (by decide) dX7_isPlayer_9 ?_
      refine g_goto (n := 14) hC dX7_isPlayer_10 ?_
      exact g_zret hC (by rfl) dX7_isPlayer_14 (⟨rI (bI_t (inR_2.mpr (Or.inr h6))).symm, rfl, rfl, rfl⟩)

set_option maxRecDepth 20000 in
theorem X_isDepth (K : GK) {σ : GS} {L : List Nat} {z : Nat} {x : Int32} : gT K yX7_isDepth cX7_isDepth 1 (some .boolean) 0 [.int x] z L (σ) (some (.int (bI (inR 1 2 x)))) (σ) := by
  refine g_intro [some (.int x)] (fun Γ hC => ?_) (by simp [g_en, lv_args, Value.category])
  refine g_iload_n (n := 1) hC rfl dX7_isDepth_0 ?_
  refine g_iconst (n := 2) (v := (nI 1)) hC (by decide) dX7_isDepth_1 ?_
  refine g_icmp_lt (n := 5) (tgt := 14) hC dX7_isDepth_2 (fun h2 => ?_) (fun h2 => ?_)
  ·
    refine g_iconst (n := 15) (v := (nI 0)) hC (by decide) dX7_isDepth_14 ?_
    exact g_zret hC (by rfl) dX7_isDepth_15 (⟨rI (bI_f (fun q => absurd ((inR_iff (by omega) (by omega)).mpr q).1 (Int32.not_le.mpr h2))).symm, rfl, rfl, rfl⟩)
  ·
    refine g_iload_n (n := 6) hC rfl dX7_isDepth_5 ?_
    refine g_iconst (n := 7) (v := (nI 2)) hC (by decide) dX7_isDepth_6 ?_
    refine g_icmp_gt (n := 10) (tgt := 14) hC dX7_isDepth_7 (fun h7 => ?_) (fun h7 => ?_)
    ·
      refine g_iconst (n := 15) (v := (nI 0)) hC (by decide) dX7_isDepth_14 ?_
      exact g_zret hC (by rfl) dX7_isDepth_15 (⟨rI (bI_f (fun q => absurd ((inR_iff (by omega) (by omega)).mpr q).2 (Int32.not_le.mpr h7))).symm, rfl, rfl, rfl⟩)
    ·
      refine g_iconst (n := 11) (v := (nI 1)) hC (by decide) dX7_isDepth_10 ?_
      refine g_goto (n := 15) hC dX7_isDepth_11 ?_
      exact g_zret hC (by rfl) dX7_isDepth_15 (⟨rI (bI_t ((inR_iff (by omega) (by omega)).mp ⟨Int32.not_lt.mp h2, Int32.not_lt.mp h7⟩)).symm, rfl, rfl, rfl⟩)

set_option maxRecDepth 20000 in
theorem X_isChoice (K : GK) {σ : GS} {L : List Nat} {z : Nat} {g b : Nat} {w h : Nat} {ru : Int32} {pl : Nat} {bo0 bo1 : Int32} {D : Nat → RD} {rows : Nat → Nat → Int32} (hG : gmI K L σ g b ru pl bo0 bo1 D) (hsb : σ b = bdA w h) (hw1 : 4 ≤ w) (hw2 : w ≤ 7) (hh1 : 4 ≤ h) (hh2 : h ≤ 7) (hP : gmP (w * h) pl D rows) {X kp rf ip fo : Nat} {hk : Int32} (mX : X ∈ L) (sX : σ X = xOg g kp hk rf ip fo) (hXg : X < g) {x : Int32} : gT K yX7_isChoice cX7_isChoice 2 (some .boolean) 1 [.ref X, .int x] z L (σ) (some (.int (bI (chOK (w * h) x)))) (σ) := by
  have hn : w * h ≤ 49 := Nat.mul_le_mul hw2 hh2
  have hn1 : 16 ≤ w * h := Nat.mul_le_mul hw1 hh1
  have hn49 : w * h ≤ 49 := hn
  obtain ⟨m0, m2, m3, m4, hbL⟩ := hG.1
  have s0 := hG.2.1
  have s2 := hG.2.2.1
  have hpl := hP.1
  have hlat := gm_lat hG hP
  refine g_intro [some (.ref X), some (.int x)] (fun Γ hC => ?_) (by simp [g_en, lv_args, Value.category])
  refine g_iload_n (n := 1) hC rfl dX7_isChoice_0 ?_
  refine g_iconst (n := 2) (v := (-1)) hC (by decide) dX7_isChoice_1 ?_
  refine g_icmp_eq (n := 5) (tgt := 19) hC dX7_isChoice_2 (fun h2 => ?_) (fun h2 => ?_)
  ·
    refine g_iconst (n := 20) (v := (nI 1)) hC (by decide) dX7_isChoice_19 ?_
    refine g_goto (n := 24) hC dX7_isChoice_20 ?_
    exact g_zret hC (by rfl) dX7_isChoice_24 (⟨rI (bI_t (Or.inl h2)).symm, rfl, rfl, rfl⟩)
  ·
    refine g_aload_n (n := 6) hC rfl dX7_isChoice_5 ?_
    refine g_getf (n := 9) (v := .ref g) hC gf_X7_10 (mX) (sX) rfl dX7_isChoice_6 ?_
    refine g_getf (n := 12) (v := .ref b) hC gf_X7_123 (m0) (s0) rfl dX7_isChoice_9 ?_
    refine g_iload_n (n := 13) hC rfl dX7_isChoice_12 ?_
    refine g_cV (n := 16) hC gv_X7_141 (hbL) (hsb) (X_has K hbL hsb hw1 hw2 hh1 hh2) dX7_isChoice_13 ?_
    refine g_ifb_eq (n := 19) (tgt := 23) hC dX7_isChoice_16 (fun h16 => ?_) (fun h16 => ?_)
    ·
      refine g_iconst (n := 24) (v := (nI 0)) hC (by decide) dX7_isChoice_23 ?_
      exact g_zret hC (by rfl) dX7_isChoice_24 (⟨rI (bI_f (fun q => q.elim h2 h16)).symm, rfl, rfl, rfl⟩)
    ·
      refine g_iconst (n := 20) (v := (nI 1)) hC (by decide) dX7_isChoice_19 ?_
      refine g_goto (n := 24) hC dX7_isChoice_20 ?_
      exact g_zret hC (by rfl) dX7_isChoice_24 (⟨rI (bI_t (Or.inr h16)).symm, rfl, rfl, rfl⟩)

set_option maxRecDepth 20000 in
theorem X_canLook (K : GK) {σ : GS} {L : List Nat} {z : Nat} {g b : Nat} {w h : Nat} {ru : Int32} {pl : Nat} {bo0 bo1 : Int32} {D : Nat → RD} {rows : Nat → Nat → Int32} (hG : gmI K L σ g b ru pl bo0 bo1 D) (hsb : σ b = bdA w h) (hw1 : 4 ≤ w) (hw2 : w ≤ 7) (hh1 : 4 ≤ h) (hh2 : h ≤ 7) (hP : gmP (w * h) pl D rows) {X kp rf ip fo : Nat} {hk : Int32} (mX : X ∈ L) (sX : σ X = xOg g kp hk rf ip fo) (hXg : X < g) {dp : Nat} (hdp : dp ≤ 2) : gT K yX7_canLookAhead cX7_canLookAhead 3 (some .boolean) 3 [.ref X, .int (nI dp)] z L (σ) (some (.int (bI (¬ endP pl (w * h) D rows ∧ ¬ (dp = 2 ∧ 6 < mny (rows pl) (w * h) (nI 0)))))) (σ) := by
  have hn : w * h ≤ 49 := Nat.mul_le_mul hw2 hh2
  have hn1 : 16 ≤ w * h := Nat.mul_le_mul hw1 hh1
  have hn49 : w * h ≤ 49 := hn
  obtain ⟨m0, m2, m3, m4, hbL⟩ := hG.1
  have s0 := hG.2.1
  have s2 := hG.2.2.1
  have hpl := hP.1
  have hlat := gm_lat hG hP
  have hmn := ct_le (fun i => decide (rows pl i = nI 0)) (w * h)
  have hmn2 : mny (rows pl) (w * h) (nI 0) ≤ w * h := hmn
  refine g_intro [some (.ref X), some (.int (nI dp)), none] (fun Γ hC => ?_) (by simp [g_en, lv_args, Value.category])
  refine g_iload_n (n := 1) hC rfl dX7_canLookAhead_0 ?_
  refine g_iconst (n := 2) (v := (nI 2)) hC (by decide) dX7_canLookAhead_1 ?_
  refine g_icmp_neN (n := 5) (tgt := 25) hC (by omega) (by omega) dX7_canLookAhead_2 (fun h2 => ?_) (fun h2 => ?_)
  ·
    refine g_iconst (n := 26) (v := (nI 0)) hC (by decide) dX7_canLookAhead_25 ?_
    refine g_istore_n (n := 27) (ll1 := [some (.ref X), some (.int (nI dp)), some (.int (nI 0))]) hC dX7_canLookAhead_26 rfl ?_
    refine g_aload_n (n := 28) hC rfl dX7_canLookAhead_27 ?_
    refine g_getf (n := 31) (v := .ref g) hC gf_X7_10 (mX) (sX) rfl dX7_canLookAhead_28 ?_
    refine g_cV (n := 34) hC gv_X7_96 (m0) (s0) (X_hasEnded K hG hsb hw1 hw2 hh1 hh2 hP) dX7_canLookAhead_31 ?_
    refine g_ifb_ne (n := 37) (tgt := 45) hC dX7_canLookAhead_34 (fun h34 => ?_) (fun h34 => ?_)
    ·
      refine g_iconst (n := 46) (v := (nI 0)) hC (by decide) dX7_canLookAhead_45 ?_
      exact g_zret hC (by rfl) dX7_canLookAhead_46 (⟨rI (bI_f (fun q => q.1 h34)).symm, rfl, rfl, rfl⟩)
    ·
      refine g_iload_n (n := 38) hC rfl dX7_canLookAhead_37 ?_
      refine g_if_ne (n := 41) (tgt := 45) hC dX7_canLookAhead_38 (fun h9 => absurd h9 (by decide)) (fun _ => ?_)
      refine g_iconst (n := 42) (v := (nI 1)) hC (by decide) dX7_canLookAhead_41 ?_
      refine g_goto (n := 46) hC dX7_canLookAhead_42 ?_
      exact g_zret hC (by rfl) dX7_canLookAhead_46 (⟨rI (bI_t ⟨h34, fun q => absurd q.1 (by omega)⟩).symm, rfl, rfl, rfl⟩)
  ·
    refine g_aload_n (n := 6) hC rfl dX7_canLookAhead_5 ?_
    refine g_getf (n := 9) (v := .ref g) hC gf_X7_10 (mX) (sX) rfl dX7_canLookAhead_6 ?_
    refine g_cV (n := 12) hC gv_X7_57 (m0) (s0) (X_latest K hG hsb hw1 hw2 hh1 hh2 hP) dX7_canLookAhead_9 ?_
    refine g_iconst (n := 13) (v := (nI 0)) hC (by decide) dX7_canLookAhead_12 ?_
    refine g_cV (n := 16) hC gv_X7_61 (hlat.1) (hlat.2.2.1) (X_number K hlat.1 hlat.2.1 hlat.2.2.1 hlat.2.2.2 hn49 (k := 0) (by omega)) dX7_canLookAhead_13 ?_
    refine g_bipush (n := 18) (v := (nI 6)) hC (by decide) dX7_canLookAhead_16 ?_
    refine g_icmp_leN (n := 21) (tgt := 25) hC (by omega) (by omega) dX7_canLookAhead_18 (fun h18 => ?_) (fun h18 => ?_)
    ·
      refine g_iconst (n := 26) (v := (nI 0)) hC (by decide) dX7_canLookAhead_25 ?_
      refine g_istore_n (n := 27) (ll1 := [some (.ref X), some (.int (nI dp)), some (.int (nI 0))]) hC dX7_canLookAhead_26 rfl ?_
      refine g_aload_n (n := 28) hC rfl dX7_canLookAhead_27 ?_
      refine g_getf (n := 31) (v := .ref g) hC gf_X7_10 (mX) (sX) rfl dX7_canLookAhead_28 ?_
      refine g_cV (n := 34) hC gv_X7_96 (m0) (s0) (X_hasEnded K hG hsb hw1 hw2 hh1 hh2 hP) dX7_canLookAhead_31 ?_
      refine g_ifb_ne (n := 37) (tgt := 45) hC dX7_canLookAhead_34 (fun h34 => ?_) (fun h34 => ?_)
      ·
        refine g_iconst (n := 46) (v := (nI 0)) hC (by decide) dX7_canLookAhead_45 ?_
        exact g_zret hC (by rfl) dX7_canLookAhead_46 (⟨rI (bI_f (fun q => q.1 h34)).symm, rfl, rfl, rfl⟩)
      ·
        refine g_iload_n (n := 38) hC rfl dX7_canLookAhead_37 ?_
        refine g_if_ne (n := 41) (tgt := 45) hC dX7_canLookAhead_38 (fun h9 => absurd h9 (by decide)) (fun _ => ?_)
        refine g_iconst (n := 42) (v := (nI 1)) hC (by decide) dX7_canLookAhead_41 ?_
        refine g_goto (n := 46) hC dX7_canLookAhead_42 ?_
        exact g_zret hC (by rfl) dX7_canLookAhead_46 (⟨rI (bI_t ⟨h34, fun q => absurd q.2 (by omega)⟩).symm, rfl, rfl, rfl⟩)
    ·
      refine g_iconst (n := 22) (v := (nI 1)) hC (by decide) dX7_canLookAhead_21 ?_
      refine g_goto (n := 26) hC dX7_canLookAhead_22 ?_
      refine g_istore_n (n := 27) (ll1 := [some (.ref X), some (.int (nI dp)), some (.int (nI 1))]) hC dX7_canLookAhead_26 rfl ?_
      refine g_aload_n (n := 28) hC rfl dX7_canLookAhead_27 ?_
      refine g_getf (n := 31) (v := .ref g) hC gf_X7_10 (mX) (sX) rfl dX7_canLookAhead_28 ?_
      refine g_cV (n := 34) hC gv_X7_96 (m0) (s0) (X_hasEnded K hG hsb hw1 hw2 hh1 hh2 hP) dX7_canLookAhead_31 ?_
      refine g_ifb_ne (n := 37) (tgt := 45) hC dX7_canLookAhead_34 (fun h34 => ?_) (fun h34 => ?_)
      ·
        refine g_iconst (n := 46) (v := (nI 0)) hC (by decide) dX7_canLookAhead_45 ?_
        exact g_zret hC (by rfl) dX7_canLookAhead_46 (⟨rI (bI_f (fun q => q.1 h34)).symm, rfl, rfl, rfl⟩)
      ·
        refine g_iload_n (n := 38) hC rfl dX7_canLookAhead_37 ?_
        refine g_if_ne (n := 41) (tgt := 45) hC dX7_canLookAhead_38 (fun _ => ?_) (fun h9 => absurd h9 (by decide))
        refine g_iconst (n := 46) (v := (nI 0)) hC (by decide) dX7_canLookAhead_45 ?_
        exact g_zret hC (by rfl) dX7_canLookAhead_46 (⟨rI (bI_f (fun q => q.2 ⟨by omega, by omega⟩)).symm, rfl, rfl, rfl⟩)

set_option maxRecDepth 20000 in
theorem F_isOver (K : GK) {σ : GS} {L : List Nat} {z : Nat} {g b : Nat} {w h : Nat} {ru : Int32} {pl : Nat} {bo0 bo1 : Int32} {D : Nat → RD} {rows : Nat → Nat → Int32} (hG : gmI K L σ g b ru pl bo0 bo1 D) (hsb : σ b = bdA w h) (hw1 : 4 ≤ w) (hw2 : w ≤ 7) (hh1 : 4 ≤ h) (hh2 : h ≤ 7) (hP : gmP (w * h) pl D rows) {X kp rf ip fo : Nat} {hk : Int32} (mX : X ∈ L) (sX : σ X = xOg g kp hk rf ip fo) (hXg : X < g) : gT K yX7_isOver cX7_isOver 1 (some .boolean) 3 [.ref X] z L (σ) (some (.int (bI (endP pl (w * h) D rows)))) (σ) := by
  have hn : w * h ≤ 49 := Nat.mul_le_mul hw2 hh2
  have hn1 : 16 ≤ w * h := Nat.mul_le_mul hw1 hh1
  have hn49 : w * h ≤ 49 := hn
  obtain ⟨m0, m2, m3, m4, hbL⟩ := hG.1
  have s0 := hG.2.1
  have s2 := hG.2.2.1
  have hpl := hP.1
  have hlat := gm_lat hG hP
  refine g_intro [some (.ref X)] (fun Γ hC => ?_) (by simp [g_en, lv_args, Value.category])
  refine g_aload_n (n := 1) hC rfl dX7_isOver_0 ?_
  refine g_getf (n := 4) (v := .ref g) hC gf_X7_10 (mX) (sX) rfl dX7_isOver_1 ?_
  refine g_cV (n := 7) hC gv_X7_96 (m0) (s0) (X_hasEnded K hG hsb hw1 hw2 hh1 hh2 hP) dX7_isOver_4 ?_
  exact g_zret hC (bI_n) dX7_isOver_7 (⟨by first | rfl | (simp [*]; done), rfl, rfl, rfl⟩)

set_option maxRecDepth 20000 in
theorem F_levels (K : GK) {σ : GS} {L : List Nat} {z : Nat} {g b : Nat} {w h : Nat} {ru : Int32} {pl : Nat} {bo0 bo1 : Int32} {D : Nat → RD} {rows : Nat → Nat → Int32} (hG : gmI K L σ g b ru pl bo0 bo1 D) (hsb : σ b = bdA w h) (hw1 : 4 ≤ w) (hw2 : w ≤ 7) (hh1 : 4 ≤ h) (hh2 : h ≤ 7) (hP : gmP (w * h) pl D rows) {X kp rf ip fo : Nat} {hk : Int32} (mX : X ∈ L) (sX : σ X = xOg g kp hk rf ip fo) (hXg : X < g) {rk : Nat} (mr : rf ∈ L) (sr : σ rf = rfsO rf rk) : gT K yX7_levels cX7_levels 1 (some .int) 0 [.ref X] z L (σ) (some (.int (nI rk))) (σ) := by
  have hn : w * h ≤ 49 := Nat.mul_le_mul hw2 hh2
  have hn1 : 16 ≤ w * h := Nat.mul_le_mul hw1 hh1
  have hn49 : w * h ≤ 49 := hn
  obtain ⟨m0, m2, m3, m4, hbL⟩ := hG.1
  have s0 := hG.2.1
  have s2 := hG.2.2.1
  have hpl := hP.1
  have hlat := gm_lat hG hP
  refine g_intro [some (.ref X)] (fun Γ hC => ?_) (by simp [g_en, lv_args, Value.category])
  refine g_aload_n (n := 1) hC rfl dX7_levels_0 ?_
  refine g_getf (n := 4) (v := .ref rf) hC gf_X7_26 (mX) (sX) rfl dX7_levels_1 ?_
  refine g_getf (n := 7) (v := .int (nI rk)) hC gf_X7_264 (mr) (sr) rfl dX7_levels_4 ?_
  exact g_iret hC dX7_levels_7 (⟨by first | rfl | (simp [*]; done), rfl, rfl, rfl⟩)

set_option maxRecDepth 20000 in
theorem F_cell (K : GK) {σ : GS} {L : List Nat} {z : Nat} {g b : Nat} {w h : Nat} {ru : Int32} {pl : Nat} {bo0 bo1 : Int32} {D : Nat → RD} {rows : Nat → Nat → Int32} (hG : gmI K L σ g b ru pl bo0 bo1 D) (hsb : σ b = bdA w h) (hw1 : 4 ≤ w) (hw2 : w ≤ 7) (hh1 : 4 ≤ h) (hh2 : h ≤ 7) (hP : gmP (w * h) pl D rows) {X kp rf ip fo : Nat} {hk : Int32} (mX : X ∈ L) (sX : σ X = xOg g kp hk rf ip fo) (hXg : X < g) (hst : stA (w * h) (rows pl)) {x y : Int32} : gX K yX7_cell cX7_cell 4 (some .int) 7 1 7 [.ref X, .int x, .int y] z L (σ) (fun r z1 L1 σ2 => (∃ c0 r0, c0 < w ∧ r0 < h ∧ x = nI c0 ∧ y = nI r0 ∧ r = some (.int (rows pl (r0 * w + c0)))) ∧ z1 = z ∧ L1 = L ∧ σ2 = σ) (fun E z1 L1 σ2 => z ≤ z1 ∧ L1 = L ∧ (E = "java/lang/IndexOutOfBoundsException" ∧ ¬ (inN w x ∧ inN h y) ∧ σ2 = σ)) := by
  have hn : w * h ≤ 49 := Nat.mul_le_mul hw2 hh2
  have hn1 : 16 ≤ w * h := Nat.mul_le_mul hw1 hh1
  have hn49 : w * h ≤ 49 := hn
  obtain ⟨m0, m2, m3, m4, hbL⟩ := hG.1
  have s0 := hG.2.1
  have s2 := hG.2.2.1
  have hpl := hP.1
  have hlat := gm_lat hG hP
  refine g_introX [some (.ref X), some (.int x), some (.int y), none] (fun Γ hC hX => ?_) (by simp [g_en, lv_args, Value.category])
  refine g_aload_n (n := 1) hC rfl dX7_cell_0 ?_
  refine g_getf (n := 4) (v := .ref g) hC gf_X7_10 (mX) (sX) rfl dX7_cell_1 ?_
  refine g_getf (n := 7) (v := .ref b) hC gf_X7_123 (m0) (s0) rfl dX7_cell_4 ?_
  refine g_astore_n (n := 8) (ll1 := [some (.ref X), some (.int x), some (.int y), some (.ref b)]) hC dX7_cell_7 rfl ?_
  refine g_iload_n (n := 9) hC rfl dX7_cell_8 ?_
  refine g_if_lt (n := 12) (tgt := 32) hC dX7_cell_9 (fun h9 => ?_) (fun h9 => ?_)
  ·
    exact g_throwS hC hX th_IOB (List.mem_of_getElem? (i := 5) rfl) dX7_cell_32 dX7_cell_35 dX7_cell_36 dX7_cell_38 dX7_cell_41 (fun z9 hz9 => ⟨hz9, rfl, rfl, fun q => absurd ((inN_b (by omega)).mpr q.1).1 (Int32.not_le.mpr h9), rfl⟩)
  ·
    refine g_iload_n (n := 13) hC rfl dX7_cell_12 ?_
    refine g_aload_n (n := 14) hC rfl dX7_cell_13 ?_
    refine g_getf (n := 17) (v := .int (nI w)) hC gf_X7_127 (hbL) (hsb) rfl dX7_cell_14 ?_
    refine g_icmp_ge (n := 20) (tgt := 32) hC dX7_cell_17 (fun h17 => ?_) (fun h17 => ?_)
    ·
      exact g_throwS hC hX th_IOB (List.mem_of_getElem? (i := 5) rfl) dX7_cell_32 dX7_cell_35 dX7_cell_36 dX7_cell_38 dX7_cell_41 (fun z9 hz9 => ⟨hz9, rfl, rfl, fun q => absurd ((inN_b (by omega)).mpr q.1).2 (Int32.not_lt.mpr h17), rfl⟩)
    ·
      refine g_iload_n (n := 21) hC rfl dX7_cell_20 ?_
      refine g_if_lt (n := 24) (tgt := 32) hC dX7_cell_21 (fun h21 => ?_) (fun h21 => ?_)
      ·
        exact g_throwS hC hX th_IOB (List.mem_of_getElem? (i := 5) rfl) dX7_cell_32 dX7_cell_35 dX7_cell_36 dX7_cell_38 dX7_cell_41 (fun z9 hz9 => ⟨hz9, rfl, rfl, fun q => absurd ((inN_b (by omega)).mpr q.2).1 (Int32.not_le.mpr h21), rfl⟩)
      ·
        refine g_iload_n (n := 25) hC rfl dX7_cell_24 ?_
        refine g_aload_n (n := 26) hC rfl dX7_cell_25 ?_
        refine g_getf (n := 29) (v := .int (nI h)) hC gf_X7_132 (hbL) (hsb) rfl dX7_cell_26 ?_
        refine g_icmp_lt (n := 32) (tgt := 42) hC dX7_cell_29 (fun h29 => ?_) (fun h29 => ?_)
        ·
          obtain ⟨c0, hc0, rfl⟩ := (inN_b (by omega)).mp ⟨Int32.not_lt.mp h9, Int32.not_le.mp h17⟩
          obtain ⟨r0, hr0, rfl⟩ := (inN_b (by omega)).mp ⟨Int32.not_lt.mp h21, h29⟩
          have hcr : r0 * w + c0 < w * h := by have := Nat.mul_le_mul_right w (show r0 + 1 ≤ h by omega); rw [Nat.succ_mul, Nat.mul_comm h w] at this; omega
          obtain ⟨v0, hs0, hs1⟩ := hst _ hcr
          refine g_aload_n (n := 43) hC rfl dX7_cell_42 ?_
          refine g_getf (n := 46) (v := .ref g) hC gf_X7_10 (mX) (sX) rfl dX7_cell_43 ?_
          refine g_cV (n := 49) (hroom := by exact ⟨Nat.zero_le _, Nat.zero_le _⟩) hC gv_X7_57 (m0) (s0) (X_latest K hG hsb hw1 hw2 hh1 hh2 hP) dX7_cell_46 ?_
          refine g_aload_n (n := 50) hC rfl dX7_cell_49 ?_
          refine g_iload_n (n := 51) hC rfl dX7_cell_50 ?_
          refine g_iload_n (n := 52) hC rfl dX7_cell_51 ?_
          refine g_cV (n := 55) (hroom := by exact ⟨Nat.zero_le _, Nat.zero_le _⟩) hC gv_X7_135 (hbL) (hsb) (X_cellAt K hbL hsb hw1 hw2 hh1 hh2 (a := c0) (b := r0)) dX7_cell_52 ?_
          refine g_cV (n := 58) (hroom := by exact ⟨Nat.zero_le _, Nat.zero_le _⟩) hC gv_X7_138 (hlat.1) (hlat.2.2.1) (X_stateOf K hlat.1 hlat.2.1 hlat.2.2.1 hlat.2.2.2 hn49 hcr hs0 hs1) dX7_cell_55 ?_
          exact g_iret hC dX7_cell_58 (⟨⟨c0, r0, hc0, hr0, rfl, rfl, rfl⟩, rfl, rfl, rfl⟩) (Nat.zero_le _) (Nat.zero_le _)
        ·
          exact g_throwS hC hX th_IOB (List.mem_of_getElem? (i := 5) rfl) dX7_cell_32 dX7_cell_35 dX7_cell_36 dX7_cell_38 dX7_cell_41 (fun z9 hz9 => ⟨hz9, rfl, rfl, fun q => h29 ((inN_b (by omega)).mpr q.2).2, rfl⟩)

set_option maxRecDepth 20000 in
theorem F_since (K : GK) {σ : GS} {L : List Nat} {z : Nat} {g b : Nat} {w h : Nat} {ru : Int32} {pl : Nat} {bo0 bo1 : Int32} {D : Nat → RD} {rows : Nat → Nat → Int32} (hG : gmI K L σ g b ru pl bo0 bo1 D) (hsb : σ b = bdA w h) (hw1 : 4 ≤ w) (hw2 : w ≤ 7) (hh1 : 4 ≤ h) (hh2 : h ≤ 7) (hP : gmP (w * h) pl D rows) {X kp rf ip fo : Nat} {hk : Int32} (mX : X ∈ L) (sX : σ X = xOg g kp hk rf ip fo) (hXg : X < g) {x y : Int32} : gX K yX7_since cX7_since 3 (some .int) 7 1 7 [.ref X, .int x, .int y] z L (σ) (fun r z1 L1 σ2 => (∃ c0, c0 < w * h ∧ x = nI c0 ∧ ((y = nI 0 ∧ r = some (.int (rtX D c0 pl))) ∨ (y = nI 1 ∧ r = some (.int (wtX D c0 pl))))) ∧ z1 = z ∧ L1 = L ∧ σ2 = σ) (fun E z1 L1 σ2 => z ≤ z1 ∧ L1 = L ∧ ((E = "java/lang/IndexOutOfBoundsException" ∧ ¬ inN (w * h) x ∧ σ2 = σ) ∨ (E = "java/lang/IllegalArgumentException" ∧ inN (w * h) x ∧ ¬ inR 0 1 y ∧ σ2 = σ))) := by
  have hn : w * h ≤ 49 := Nat.mul_le_mul hw2 hh2
  have hn1 : 16 ≤ w * h := Nat.mul_le_mul hw1 hh1
  have hn49 : w * h ≤ 49 := hn
  obtain ⟨m0, m2, m3, m4, hbL⟩ := hG.1
  have s0 := hG.2.1
  have s2 := hG.2.2.1
  have hpl := hP.1
  have hlat := gm_lat hG hP
  refine g_introX [some (.ref X), some (.int x), some (.int y)] (fun Γ hC hX => ?_) (by simp [g_en, lv_args, Value.category])
  refine g_aload_n (n := 1) hC rfl dX7_since_0 ?_
  refine g_getf (n := 4) (v := .ref g) hC gf_X7_10 (mX) (sX) rfl dX7_since_1 ?_
  refine g_getf (n := 7) (v := .ref b) hC gf_X7_123 (m0) (s0) rfl dX7_since_4 ?_
  refine g_iload_n (n := 8) hC rfl dX7_since_7 ?_
  refine g_cV (n := 11) (hroom := by exact ⟨Nat.zero_le _, Nat.zero_le _⟩) hC gv_X7_141 (hbL) (hsb) (X_has K hbL hsb hw1 hw2 hh1 hh2) dX7_since_8 ?_
  refine g_ifb_ne (n := 14) (tgt := 24) hC dX7_since_11 (fun h11 => ?_) (fun h11 => ?_)
  ·
    obtain ⟨c0, hc0, rfl⟩ := h11
    refine g_iload_n (n := 25) hC rfl dX7_since_24 ?_
    refine g_lsw2 (t0 := 52) (t1 := 61) (td := 70) hC dX7_since_25 (fun e9 => ?_) (fun e9 => ?_) (fun ho9 => ?_)
    ·
      refine g_aload_n (n := 53) hC rfl dX7_since_52 ?_
      refine g_getf (n := 56) (v := .ref g) hC gf_X7_10 (mX) (sX) rfl dX7_since_53 ?_
      refine g_iload_n (n := 57) hC rfl dX7_since_56 ?_
      refine g_cV (n := 60) (hroom := by exact ⟨Nat.zero_le _, Nat.zero_le _⟩) hC gv_X7_144 (m0) (s0) (X_roundOf K hG hsb hw1 hw2 hh1 hh2 hP (q := c0) (by omega)) dX7_since_57 ?_
      exact g_iret hC dX7_since_60 (⟨⟨c0, hc0, rfl, Or.inl ⟨e9, rfl⟩⟩, rfl, rfl, rfl⟩) (Nat.zero_le _) (Nat.zero_le _)
    ·
      refine g_aload_n (n := 62) hC rfl dX7_since_61 ?_
      refine g_getf (n := 65) (v := .ref g) hC gf_X7_10 (mX) (sX) rfl dX7_since_62 ?_
      refine g_iload_n (n := 66) hC rfl dX7_since_65 ?_
      refine g_cV (n := 69) (hroom := by exact ⟨Nat.zero_le _, Nat.zero_le _⟩) hC gv_X7_147 (m0) (s0) (X_waveOf K hG hsb hw1 hw2 hh1 hh2 hP (q := c0) (by omega)) dX7_since_66 ?_
      exact g_iret hC dX7_since_69 (⟨⟨c0, hc0, rfl, Or.inr ⟨e9, rfl⟩⟩, rfl, rfl, rfl⟩) (Nat.zero_le _) (Nat.zero_le _)
    ·
      exact g_throwS hC hX th_IAE (List.mem_of_getElem? (i := 9) rfl) dX7_since_70 dX7_since_73 dX7_since_74 dX7_since_76 dX7_since_79 (fun z9 hz9 => ⟨hz9, rfl, Or.inr ⟨rfl, ⟨c0, hc0, rfl⟩, ho9, rfl⟩⟩)
  ·
    exact g_throwS hC hX th_IOB (List.mem_of_getElem? (i := 5) rfl) dX7_since_14 dX7_since_17 dX7_since_18 dX7_since_20 dX7_since_23 (fun z9 hz9 => ⟨hz9, rfl, Or.inl ⟨rfl, h11, rfl⟩⟩)

def xct (w h pl : Nat) (D : Nat → RD) (f : Nat → Int32) (k : Nat) : Int32 := if k = 0 then nI pl else if k = 1 then nI w else if k = 2 then nI h else if k = 3 then nI (mny f (w * h) (nI 0)) else if k = 4 then nI (mny f (w * h) (nI 5)) else if k = 5 then nI (clX D pl) else nI (smX D pl)

set_option maxRecDepth 20000 in
theorem F_count (K : GK) {σ : GS} {L : List Nat} {z : Nat} {g b : Nat} {w h : Nat} {ru : Int32} {pl : Nat} {bo0 bo1 : Int32} {D : Nat → RD} {rows : Nat → Nat → Int32} (hG : gmI K L σ g b ru pl bo0 bo1 D) (hsb : σ b = bdA w h) (hw1 : 4 ≤ w) (hw2 : w ≤ 7) (hh1 : 4 ≤ h) (hh2 : h ≤ 7) (hP : gmP (w * h) pl D rows) {X kp rf ip fo : Nat} {hk : Int32} (mX : X ∈ L) (sX : σ X = xOg g kp hk rf ip fo) (hXg : X < g) {x : Int32} : gX K yX7_count cX7_count 2 (some .int) 7 1 7 [.ref X, .int x] z L (σ) (fun r z1 L1 σ2 => (∃ x0, x0 ≤ 6 ∧ x = nI x0 ∧ r = some (.int (xct w h pl D (rows pl) x0))) ∧ z1 = z ∧ L1 = L ∧ σ2 = σ) (fun E z1 L1 σ2 => z ≤ z1 ∧ L1 = L ∧ (E = "java/lang/IllegalArgumentException" ∧ ¬ inR 0 6 x ∧ σ2 = σ)) := by
  have hn : w * h ≤ 49 := Nat.mul_le_mul hw2 hh2
  have hn1 : 16 ≤ w * h := Nat.mul_le_mul hw1 hh1
  have hn49 : w * h ≤ 49 := hn
  obtain ⟨m0, m2, m3, m4, hbL⟩ := hG.1
  have s0 := hG.2.1
  have s2 := hG.2.2.1
  have hpl := hP.1
  have hlat := gm_lat hG hP
  refine g_introX [some (.ref X), some (.int x)] (fun Γ hC hX => ?_) (by simp [g_en, lv_args, Value.category])
  refine g_iload_n (n := 1) hC rfl dX7_count_0 ?_
  refine g_tsw (n := 114) hC dX7_count_1 (by decide) (fun j9 hj9 e9 tgt9 ht9 => ?_) (fun ho9 => ?_)
  · match j9, hj9 with
    | 0, _ =>
      obtain rfl : tgt9 = 44 := by revert ht9; show _ = (_ : Int) → _; intro ht9; exact (by have h8 := ht9; simp at h8; omega)
      refine g_aload_n (n := 45) hC rfl dX7_count_44 ?_
      refine g_getf (n := 48) (v := .ref g) hC gf_X7_10 (mX) (sX) rfl dX7_count_45 ?_
      refine g_getf (n := 51) (v := .int (nI pl)) hC gf_X7_118 (m0) (s0) rfl dX7_count_48 ?_
      exact g_iret hC dX7_count_51 (⟨⟨0, by omega, e9, rfl⟩, rfl, rfl, rfl⟩) (Nat.zero_le _) (Nat.zero_le _)
    | 1, _ =>
      obtain rfl : tgt9 = 52 := by revert ht9; show _ = (_ : Int) → _; intro ht9; exact (by have h8 := ht9; simp at h8; omega)
      refine g_aload_n (n := 53) hC rfl dX7_count_52 ?_
      refine g_getf (n := 56) (v := .ref g) hC gf_X7_10 (mX) (sX) rfl dX7_count_53 ?_
      refine g_getf (n := 59) (v := .ref b) hC gf_X7_123 (m0) (s0) rfl dX7_count_56 ?_
      refine g_getf (n := 62) (v := .int (nI w)) hC gf_X7_127 (hbL) (hsb) rfl dX7_count_59 ?_
      exact g_iret hC dX7_count_62 (⟨⟨1, by omega, e9, rfl⟩, rfl, rfl, rfl⟩) (Nat.zero_le _) (Nat.zero_le _)
    | 2, _ =>
      obtain rfl : tgt9 = 63 := by revert ht9; show _ = (_ : Int) → _; intro ht9; exact (by have h8 := ht9; simp at h8; omega)
      refine g_aload_n (n := 64) hC rfl dX7_count_63 ?_
      refine g_getf (n := 67) (v := .ref g) hC gf_X7_10 (mX) (sX) rfl dX7_count_64 ?_
      refine g_getf (n := 70) (v := .ref b) hC gf_X7_123 (m0) (s0) rfl dX7_count_67 ?_
      refine g_getf (n := 73) (v := .int (nI h)) hC gf_X7_132 (hbL) (hsb) rfl dX7_count_70 ?_
      exact g_iret hC dX7_count_73 (⟨⟨2, by omega, e9, rfl⟩, rfl, rfl, rfl⟩) (Nat.zero_le _) (Nat.zero_le _)
    | 3, _ =>
      obtain rfl : tgt9 = 74 := by revert ht9; show _ = (_ : Int) → _; intro ht9; exact (by have h8 := ht9; simp at h8; omega)
      refine g_aload_n (n := 75) hC rfl dX7_count_74 ?_
      refine g_getf (n := 78) (v := .ref g) hC gf_X7_10 (mX) (sX) rfl dX7_count_75 ?_
      refine g_cV (n := 81) (hroom := by exact ⟨Nat.zero_le _, Nat.zero_le _⟩) hC gv_X7_57 (m0) (s0) (X_latest K hG hsb hw1 hw2 hh1 hh2 hP) dX7_count_78 ?_
      refine g_iconst (n := 82) (v := (nI 0)) hC (by decide) dX7_count_81 ?_
      refine g_cV (n := 85) (hroom := by exact ⟨Nat.zero_le _, Nat.zero_le _⟩) hC gv_X7_61 (hlat.1) (hlat.2.2.1) (X_number K hlat.1 hlat.2.1 hlat.2.2.1 hlat.2.2.2 hn49 (k := 0) (by omega)) dX7_count_82 ?_
      exact g_iret hC dX7_count_85 (⟨⟨3, by omega, e9, rfl⟩, rfl, rfl, rfl⟩) (Nat.zero_le _) (Nat.zero_le _)
    | 4, _ =>
      obtain rfl : tgt9 = 86 := by revert ht9; show _ = (_ : Int) → _; intro ht9; exact (by have h8 := ht9; simp at h8; omega)
      refine g_aload_n (n := 87) hC rfl dX7_count_86 ?_
      refine g_getf (n := 90) (v := .ref g) hC gf_X7_10 (mX) (sX) rfl dX7_count_87 ?_
      refine g_cV (n := 93) (hroom := by exact ⟨Nat.zero_le _, Nat.zero_le _⟩) hC gv_X7_57 (m0) (s0) (X_latest K hG hsb hw1 hw2 hh1 hh2 hP) dX7_count_90 ?_
      refine g_iconst (n := 94) (v := (nI 5)) hC (by decide) dX7_count_93 ?_
      refine g_cV (n := 97) (hroom := by exact ⟨Nat.zero_le _, Nat.zero_le _⟩) hC gv_X7_61 (hlat.1) (hlat.2.2.1) (X_number K hlat.1 hlat.2.1 hlat.2.2.1 hlat.2.2.2 hn49 (k := 5) (by omega)) dX7_count_94 ?_
      exact g_iret hC dX7_count_97 (⟨⟨4, by omega, e9, rfl⟩, rfl, rfl, rfl⟩) (Nat.zero_le _) (Nat.zero_le _)
    | 5, _ =>
      obtain rfl : tgt9 = 98 := by revert ht9; show _ = (_ : Int) → _; intro ht9; exact (by have h8 := ht9; simp at h8; omega)
      refine g_aload_n (n := 99) hC rfl dX7_count_98 ?_
      refine g_getf (n := 102) (v := .ref g) hC gf_X7_10 (mX) (sX) rfl dX7_count_99 ?_
      refine g_cV (n := 105) (hroom := by exact ⟨Nat.zero_le _, Nat.zero_le _⟩) hC gv_X7_152 (m0) (s0) (X_clashes K hG hsb hw1 hw2 hh1 hh2 hP) dX7_count_102 ?_
      exact g_iret hC dX7_count_105 (⟨⟨5, by omega, e9, rfl⟩, rfl, rfl, rfl⟩) (Nat.zero_le _) (Nat.zero_le _)
    | 6, _ =>
      obtain rfl : tgt9 = 106 := by revert ht9; show _ = (_ : Int) → _; intro ht9; exact (by have h8 := ht9; simp at h8; omega)
      refine g_aload_n (n := 107) hC rfl dX7_count_106 ?_
      refine g_getf (n := 110) (v := .ref g) hC gf_X7_10 (mX) (sX) rfl dX7_count_107 ?_
      refine g_cV (n := 113) (hroom := by exact ⟨Nat.zero_le _, Nat.zero_le _⟩) hC gv_X7_156 (m0) (s0) (X_gwaves K hG hsb hw1 hw2 hh1 hh2 hP) dX7_count_110 ?_
      exact g_iret hC dX7_count_113 (⟨⟨6, by omega, e9, rfl⟩, rfl, rfl, rfl⟩) (Nat.zero_le _) (Nat.zero_le _)
    | j + 7, hj => exact absurd hj (by simp)
  ·
    exact g_throwS hC hX th_IAE (List.mem_of_getElem? (i := 10) rfl) dX7_count_114 dX7_count_117 dX7_count_118 dX7_count_120 dX7_count_123 (fun z9 hz9 => ⟨hz9, rfl, rfl, fun ⟨j, _, q2, q3⟩ => ho9 j (by show j < 7; omega) q3, rfl⟩)

noncomputable def xpy (w h pl : Nat) (D : Nat → RD) (f g : Nat → Int32) (p k : Nat) : Int32 := if k = 0 then scF f g (w * h) p else if k = 1 then nI (mny f (w * h) (nI (1 + p))) else if k = 2 then nI (mny f (w * h) (nI (3 + p))) else if k = 3 then f (147 + p) else if k = 4 then g p else if k = 5 then nI (paX D p pl) else if k = 6 then nI (rgC w h (outF f (w * h) p) (w * h)) else nI (rgM w h (outF f (w * h) p) (w * h))

set_option maxRecDepth 20000 in
theorem F_player (K : GK) {σ : GS} {L : List Nat} {z : Nat} {g b : Nat} {w h : Nat} {ru : Int32} {pl : Nat} {bo0 bo1 : Int32} {D : Nat → RD} {rows : Nat → Nat → Int32} (hG : gmI K L σ g b ru pl bo0 bo1 D) (hsb : σ b = bdA w h) (hw1 : 4 ≤ w) (hw2 : w ≤ 7) (hh1 : 4 ≤ h) (hh2 : h ≤ 7) (hP : gmP (w * h) pl D rows) {X kp rf ip fo : Nat} {hk : Int32} (mX : X ∈ L) (sX : σ X = xOg g kp hk rf ip fo) (hXg : X < g) {x y : Int32} : gX K yX7_player cX7_player 4 (some .int) 8 1 7 [.ref X, .int x, .int y] z L (σ) (fun r z1 L1 σ2 => (∃ p0 x0, p0 ≤ 1 ∧ x0 ≤ 7 ∧ x = nI p0 ∧ y = nI x0 ∧ r = some (.int (xpy w h pl D (rows pl) (bnO bo0 bo1) p0 x0))) ∧ z1 = z ∧ L1 = L ∧ σ2 = σ) (fun E z1 L1 σ2 => z ≤ z1 ∧ L1 = L ∧ ((E = "java/lang/IndexOutOfBoundsException" ∧ ¬ inR 0 1 x ∧ σ2 = σ) ∨ (E = "java/lang/IllegalArgumentException" ∧ inR 0 1 x ∧ ¬ inR 0 7 y ∧ σ2 = σ))) := by
  have hn : w * h ≤ 49 := Nat.mul_le_mul hw2 hh2
  have hn1 : 16 ≤ w * h := Nat.mul_le_mul hw1 hh1
  have hn49 : w * h ≤ 49 := hn
  obtain ⟨m0, m2, m3, m4, hbL⟩ := hG.1
  have s0 := hG.2.1
  have s2 := hG.2.2.1
  have hpl := hP.1
  have hlat := gm_lat hG hP
  refine g_introX [some (.ref X), some (.int x), some (.int y), none] (fun Γ hC hX => ?_) (by simp [g_en, lv_args, Value.category])
  refine g_iload_n (n := 1) hC rfl dX7_player_0 ?_
  refine g_cS (n := 4) (hroom := by exact ⟨Nat.zero_le _, Nat.zero_le _⟩) hC gs_X7_73 (X_isPlayer K) dX7_player_1 ?_
  refine g_ifb_ne (n := 7) (tgt := 17) hC dX7_player_4 (fun h4 => ?_) (fun h4 => ?_)
  ·
    obtain ⟨p0, _, hp1, rfl⟩ := h4
    refine g_aload_n (n := 18) hC rfl dX7_player_17 ?_
    refine g_getf (n := 21) (v := .ref g) hC gf_X7_10 (mX) (sX) rfl dX7_player_18 ?_
    refine g_cV (n := 24) (hroom := by exact ⟨Nat.zero_le _, Nat.zero_le _⟩) hC gv_X7_57 (m0) (s0) (X_latest K hG hsb hw1 hw2 hh1 hh2 hP) dX7_player_21 ?_
    refine g_astore_n (n := 25) (ll1 := [some (.ref X), some (.int (nI p0)), some (.int y), some (.ref (latA g pl))]) hC dX7_player_24 rfl ?_
    refine g_iload_n (n := 26) hC rfl dX7_player_25 ?_
    refine g_tsw (n := 147) hC dX7_player_26 (by decide) (fun j9 hj9 e9 tgt9 ht9 => ?_) (fun ho9 => ?_)
    · match j9, hj9 with
      | 0, _ =>
        obtain rfl : tgt9 = 72 := by revert ht9; show _ = (_ : Int) → _; intro ht9; exact (by have h8 := ht9; simp at h8; omega)
        refine g_aload_n (n := 73) hC rfl dX7_player_72 ?_
        refine g_getf (n := 76) (v := .ref g) hC gf_X7_10 (mX) (sX) rfl dX7_player_73 ?_
        refine g_iload_n (n := 77) hC rfl dX7_player_76 ?_
        refine g_cV (n := 80) (hroom := by exact ⟨Nat.zero_le _, Nat.zero_le _⟩) hC gv_X7_161 (m0) (s0) (X_score K hG hsb hw1 hw2 hh1 hh2 hP hp1) dX7_player_77 ?_
        exact g_iret hC dX7_player_80 (⟨⟨p0, 0, hp1, by omega, rfl, e9, rfl⟩, rfl, rfl, rfl⟩) (Nat.zero_le _) (Nat.zero_le _)
      | 1, _ =>
        obtain rfl : tgt9 = 81 := by revert ht9; show _ = (_ : Int) → _; intro ht9; exact (by have h8 := ht9; simp at h8; omega)
        refine g_aload_n (n := 82) hC rfl dX7_player_81 ?_
        refine g_iconst (n := 83) (v := (nI 1)) hC (by decide) dX7_player_82 ?_
        refine g_iload_n (n := 84) hC rfl dX7_player_83 ?_
        refine g_iaddN (n := 85) hC dX7_player_84 ?_
        refine g_cV (n := 88) (hroom := by exact ⟨Nat.zero_le _, Nat.zero_le _⟩) hC gv_X7_61 (hlat.1) (hlat.2.2.1) (X_number K hlat.1 hlat.2.1 hlat.2.2.1 hlat.2.2.2 hn49 (k := 1 + p0) (by omega)) dX7_player_85 ?_
        exact g_iret hC dX7_player_88 (⟨⟨p0, 1, hp1, by omega, rfl, e9, rfl⟩, rfl, rfl, rfl⟩) (Nat.zero_le _) (Nat.zero_le _)
      | 2, _ =>
        obtain rfl : tgt9 = 89 := by revert ht9; show _ = (_ : Int) → _; intro ht9; exact (by have h8 := ht9; simp at h8; omega)
        refine g_aload_n (n := 90) hC rfl dX7_player_89 ?_
        refine g_iconst (n := 91) (v := (nI 3)) hC (by decide) dX7_player_90 ?_
        refine g_iload_n (n := 92) hC rfl dX7_player_91 ?_
        refine g_iaddN (n := 93) hC dX7_player_92 ?_
        refine g_cV (n := 96) (hroom := by exact ⟨Nat.zero_le _, Nat.zero_le _⟩) hC gv_X7_61 (hlat.1) (hlat.2.2.1) (X_number K hlat.1 hlat.2.1 hlat.2.2.1 hlat.2.2.2 hn49 (k := 3 + p0) (by omega)) dX7_player_93 ?_
        exact g_iret hC dX7_player_96 (⟨⟨p0, 2, hp1, by omega, rfl, e9, rfl⟩, rfl, rfl, rfl⟩) (Nat.zero_le _) (Nat.zero_le _)
      | 3, _ =>
        obtain rfl : tgt9 = 97 := by revert ht9; show _ = (_ : Int) → _; intro ht9; exact (by have h8 := ht9; simp at h8; omega)
        refine g_aload_n (n := 98) hC rfl dX7_player_97 ?_
        refine g_iload_n (n := 99) hC rfl dX7_player_98 ?_
        refine g_cV (n := 102) (hroom := by exact ⟨Nat.zero_le _, Nat.zero_le _⟩) hC gv_X7_164 (hlat.1) (hlat.2.2.1) (X_captured K hlat.1 hlat.2.1 hlat.2.2.1 hlat.2.2.2 hn49 hp1) dX7_player_99 ?_
        exact g_iret hC dX7_player_102 (⟨⟨p0, 3, hp1, by omega, rfl, e9, rfl⟩, rfl, rfl, rfl⟩) (Nat.zero_le _) (Nat.zero_le _)
      | 4, _ =>
        obtain rfl : tgt9 = 103 := by revert ht9; show _ = (_ : Int) → _; intro ht9; exact (by have h8 := ht9; simp at h8; omega)
        refine g_aload_n (n := 104) hC rfl dX7_player_103 ?_
        refine g_getf (n := 107) (v := .ref g) hC gf_X7_10 (mX) (sX) rfl dX7_player_104 ?_
        refine g_iload_n (n := 108) hC rfl dX7_player_107 ?_
        refine g_cV (n := 111) (hroom := by exact ⟨Nat.zero_le _, Nat.zero_le _⟩) hC gv_X7_84 (m0) (s0) (X_bonus K hG hsb hw1 hw2 hh1 hh2 hP hp1) dX7_player_108 ?_
        exact g_iret hC dX7_player_111 (⟨⟨p0, 4, hp1, by omega, rfl, e9, rfl⟩, rfl, rfl, rfl⟩) (Nat.zero_le _) (Nat.zero_le _)
      | 5, _ =>
        obtain rfl : tgt9 = 112 := by revert ht9; show _ = (_ : Int) → _; intro ht9; exact (by have h8 := ht9; simp at h8; omega)
        refine g_aload_n (n := 113) hC rfl dX7_player_112 ?_
        refine g_getf (n := 116) (v := .ref g) hC gf_X7_10 (mX) (sX) rfl dX7_player_113 ?_
        refine g_iload_n (n := 117) hC rfl dX7_player_116 ?_
        refine g_cV (n := 120) (hroom := by exact ⟨Nat.zero_le _, Nat.zero_le _⟩) hC gv_X7_167 (m0) (s0) (X_passes K hG hsb hw1 hw2 hh1 hh2 hP hp1) dX7_player_117 ?_
        exact g_iret hC dX7_player_120 (⟨⟨p0, 5, hp1, by omega, rfl, e9, rfl⟩, rfl, rfl, rfl⟩) (Nat.zero_le _) (Nat.zero_le _)
      | 6, _ =>
        obtain rfl : tgt9 = 121 := by revert ht9; show _ = (_ : Int) → _; intro ht9; exact (by have h8 := ht9; simp at h8; omega)
        refine g_aload_n (n := 122) hC rfl dX7_player_121 ?_
        refine g_aload_n (n := 123) hC rfl dX7_player_122 ?_
        refine g_getf (n := 126) (v := .ref g) hC gf_X7_10 (mX) (sX) rfl dX7_player_123 ?_
        refine g_getf (n := 129) (v := .ref b) hC gf_X7_123 (m0) (s0) rfl dX7_player_126 ?_
        refine g_iload_n (n := 130) hC rfl dX7_player_129 ?_
        refine g_cV (n := 133) (hroom := by exact ⟨Nat.zero_le _, Nat.zero_le _⟩) hC gv_X7_170 (hlat.1) (hlat.2.2.1) (X_regions K hbL hsb hw1 hw2 hh1 hh2 hlat.1 hlat.2.1 hlat.2.2.1 hlat.2.2.2 hp1) dX7_player_130 ?_
        exact g_iret hC dX7_player_133 (⟨⟨p0, 6, hp1, by omega, rfl, e9, rfl⟩, rfl, rfl, rfl⟩) (Nat.zero_le _) (Nat.zero_le _)
      | 7, _ =>
        obtain rfl : tgt9 = 134 := by revert ht9; show _ = (_ : Int) → _; intro ht9; exact (by have h8 := ht9; simp at h8; omega)
        refine g_aload_n (n := 135) hC rfl dX7_player_134 ?_
        refine g_aload_n (n := 136) hC rfl dX7_player_135 ?_
        refine g_getf (n := 139) (v := .ref g) hC gf_X7_10 (mX) (sX) rfl dX7_player_136 ?_
        refine g_getf (n := 142) (v := .ref b) hC gf_X7_123 (m0) (s0) rfl dX7_player_139 ?_
        refine g_iload_n (n := 143) hC rfl dX7_player_142 ?_
        refine g_cV (n := 146) (hroom := by exact ⟨Nat.zero_le _, Nat.zero_le _⟩) hC gv_X7_174 (hlat.1) (hlat.2.2.1) (X_largestRegion K hbL hsb hw1 hw2 hh1 hh2 hlat.1 hlat.2.1 hlat.2.2.1 hlat.2.2.2 hp1) dX7_player_143 ?_
        exact g_iret hC dX7_player_146 (⟨⟨p0, 7, hp1, by omega, rfl, e9, rfl⟩, rfl, rfl, rfl⟩) (Nat.zero_le _) (Nat.zero_le _)
      | j + 8, hj => exact absurd hj (by simp)
    ·
      exact g_throwS hC hX th_IAE (List.mem_of_getElem? (i := 9) rfl) dX7_player_147 dX7_player_150 dX7_player_151 dX7_player_153 dX7_player_156 (fun z9 hz9 => ⟨hz9, rfl, Or.inr ⟨rfl, ⟨p0, by omega, hp1, rfl⟩, fun ⟨j, _, q2, q3⟩ => ho9 j (by show j < 8; omega) q3, rfl⟩⟩)
  ·
    exact g_throwS hC hX th_IOB (List.mem_of_getElem? (i := 3) rfl) dX7_player_7 dX7_player_10 dX7_player_11 dX7_player_13 dX7_player_16 (fun z9 hz9 => ⟨hz9, rfl, Or.inl ⟨rfl, h4, rfl⟩⟩)

set_option maxRecDepth 20000 in
theorem F_cells (K : GK) {σ : GS} {L : List Nat} {z : Nat} {g b : Nat} {w h : Nat} {ru : Int32} {pl : Nat} {bo0 bo1 : Int32} {D : Nat → RD} {rows : Nat → Nat → Int32} (hG : gmI K L σ g b ru pl bo0 bo1 D) (hsb : σ b = bdA w h) (hw1 : 4 ≤ w) (hw2 : w ≤ 7) (hh1 : 4 ≤ h) (hh2 : h ≤ 7) (hP : gmP (w * h) pl D rows) {X kp rf ip fo : Nat} {hk : Int32} (mX : X ∈ L) (sX : σ X = xOg g kp hk rf ip fo) (hXg : X < g) {x : Int32} : gX K yX7_cells cX7_cells 2 (some .long) 7 1 7 [.ref X, .int x] z L (σ) (fun r z1 L1 σ2 => (∃ x0, x0 ≤ 5 ∧ x = nI x0 ∧ r = some (.long (psS (w * h) (rows pl) x0))) ∧ z1 = z ∧ L1 = L ∧ σ2 = σ) (fun E z1 L1 σ2 => z ≤ z1 ∧ L1 = L ∧ (E = "java/lang/IllegalArgumentException" ∧ ¬ inR 0 5 x ∧ σ2 = σ)) := by
  have hn : w * h ≤ 49 := Nat.mul_le_mul hw2 hh2
  have hn1 : 16 ≤ w * h := Nat.mul_le_mul hw1 hh1
  have hn49 : w * h ≤ 49 := hn
  obtain ⟨m0, m2, m3, m4, hbL⟩ := hG.1
  have s0 := hG.2.1
  have s2 := hG.2.2.1
  have hpl := hP.1
  have hlat := gm_lat hG hP
  refine g_introX [some (.ref X), some (.int x)] (fun Γ hC hX => ?_) (by simp [g_en, lv_args, Value.category])
  refine g_iload_n (n := 1) hC rfl dX7_cells_0 ?_
  refine g_if_lt (n := 4) (tgt := 9) hC dX7_cells_1 (fun h1 => ?_) (fun h1 => ?_)
  ·
    exact g_throwS hC hX th_IAE (List.mem_of_getElem? (i := 13) rfl) dX7_cells_9 dX7_cells_12 dX7_cells_13 dX7_cells_15 dX7_cells_18 (fun z9 hz9 => ⟨hz9, rfl, rfl, fun q => absurd ((inR_iff (a := 0) (by omega) (by omega)).mpr q).1 (Int32.not_le.mpr h1), rfl⟩)
  ·
    refine g_iload_n (n := 5) hC rfl dX7_cells_4 ?_
    refine g_iconst (n := 6) (v := (nI 5)) hC (by decide) dX7_cells_5 ?_
    refine g_icmp_le (n := 9) (tgt := 19) hC dX7_cells_6 (fun h6 => ?_) (fun h6 => ?_)
    ·
      obtain ⟨x0, _, hx0, rfl⟩ := (inR_iff (a := 0) (by omega) (by omega)).mp ⟨Int32.not_lt.mp h1, h6⟩
      refine g_aload_n (n := 20) hC rfl dX7_cells_19 ?_
      refine g_getf (n := 23) (v := .ref g) hC gf_X7_10 (mX) (sX) rfl dX7_cells_20 ?_
      refine g_cV (n := 26) (hroom := by exact ⟨Nat.zero_le _, Nat.zero_le _⟩) hC gv_X7_57 (m0) (s0) (X_latest K hG hsb hw1 hw2 hh1 hh2 hP) dX7_cells_23 ?_
      refine g_iload_n (n := 27) hC rfl dX7_cells_26 ?_
      refine g_cV (n := 30) (hroom := by exact ⟨Nat.zero_le _, Nat.zero_le _⟩) hC gv_X7_194 (hlat.1) (hlat.2.2.1) (X_in K hlat.1 hlat.2.1 hlat.2.2.1 hlat.2.2.2 hn49 hx0) dX7_cells_27 ?_
      exact g_lret hC dX7_cells_30 (⟨⟨x0, hx0, rfl, rfl⟩, rfl, rfl, rfl⟩) (Nat.zero_le _) (Nat.zero_le _)
    ·
      exact g_throwS hC hX th_IAE (List.mem_of_getElem? (i := 13) rfl) dX7_cells_9 dX7_cells_12 dX7_cells_13 dX7_cells_15 dX7_cells_18 (fun z9 hz9 => ⟨hz9, rfl, rfl, fun q => h6 ((inR_iff (a := 0) (by omega) (by omega)).mpr q).2, rfl⟩)

set_option maxRecDepth 20000 in
theorem F_region (K : GK) {σ : GS} {L : List Nat} {z : Nat} {g b : Nat} {w h : Nat} {ru : Int32} {pl : Nat} {bo0 bo1 : Int32} {D : Nat → RD} {rows : Nat → Nat → Int32} (hG : gmI K L σ g b ru pl bo0 bo1 D) (hsb : σ b = bdA w h) (hw1 : 4 ≤ w) (hw2 : w ≤ 7) (hh1 : 4 ≤ h) (hh2 : h ≤ 7) (hP : gmP (w * h) pl D rows) {X kp rf ip fo : Nat} {hk : Int32} (mX : X ∈ L) (sX : σ X = xOg g kp hk rf ip fo) (hXg : X < g) {x y : Int32} : gX K yX7_region cX7_region 5 (some .long) 7 1 7 [.ref X, .int x, .int y] z L (σ) (fun r z1 L1 σ2 => (∃ p0 c0, p0 ≤ 1 ∧ c0 < w * h ∧ x = nI p0 ∧ y = nI c0 ∧ tb (outF (rows pl) (w * h) p0) c0 = true ∧ r = some (.long (rgn w h (outF (rows pl) (w * h) p0) c0))) ∧ z1 = z ∧ L1 = L ∧ σ2 = σ) (fun E z1 L1 σ2 => z ≤ z1 ∧ L1 = L ∧ ((E = "java/lang/IndexOutOfBoundsException" ∧ ¬ (inR 0 1 x ∧ inN (w * h) y) ∧ σ2 = σ) ∨ (E = nsX ∧ (∃ p0 c0, p0 ≤ 1 ∧ c0 < w * h ∧ x = nI p0 ∧ y = nI c0 ∧ tb (outF (rows pl) (w * h) p0) c0 = false) ∧ σ2 = σ))) := by
  have hn : w * h ≤ 49 := Nat.mul_le_mul hw2 hh2
  have hn1 : 16 ≤ w * h := Nat.mul_le_mul hw1 hh1
  have hn49 : w * h ≤ 49 := hn
  obtain ⟨m0, m2, m3, m4, hbL⟩ := hG.1
  have s0 := hG.2.1
  have s2 := hG.2.2.1
  have hpl := hP.1
  have hlat := gm_lat hG hP
  refine g_introX [some (.ref X), some (.int x), some (.int y), none, none] (fun Γ hC hX => ?_) (by simp [g_en, lv_args, Value.category])
  refine g_iload_n (n := 1) hC rfl dX7_region_0 ?_
  refine g_cS (n := 4) (hroom := by exact ⟨Nat.zero_le _, Nat.zero_le _⟩) hC gs_X7_73 (X_isPlayer K) dX7_region_1 ?_
  refine g_ifb_eq (n := 7) (tgt := 21) hC dX7_region_4 (fun h4 => ?_) (fun h4 => ?_)
  ·
    exact g_throwS hC hX th_IOB (List.mem_of_getElem? (i := 11) rfl) dX7_region_21 dX7_region_24 dX7_region_25 dX7_region_27 dX7_region_30 (fun z9 hz9 => ⟨hz9, rfl, Or.inl ⟨rfl, fun q => h4 q.1, rfl⟩⟩)
  ·
    refine g_aload_n (n := 8) hC rfl dX7_region_7 ?_
    refine g_getf (n := 11) (v := .ref g) hC gf_X7_10 (mX) (sX) rfl dX7_region_8 ?_
    refine g_getf (n := 14) (v := .ref b) hC gf_X7_123 (m0) (s0) rfl dX7_region_11 ?_
    refine g_iload_n (n := 15) hC rfl dX7_region_14 ?_
    refine g_cV (n := 18) (hroom := by exact ⟨Nat.zero_le _, Nat.zero_le _⟩) hC gv_X7_141 (hbL) (hsb) (X_has K hbL hsb hw1 hw2 hh1 hh2) dX7_region_15 ?_
    refine g_ifb_ne (n := 21) (tgt := 31) hC dX7_region_18 (fun h18 => ?_) (fun h18 => ?_)
    ·
      obtain ⟨p0, _, hp1, rfl⟩ := h4
      obtain ⟨c0, hc0, rfl⟩ := h18
      refine g_aload_n (n := 32) hC rfl dX7_region_31 ?_
      refine g_getf (n := 35) (v := .ref g) hC gf_X7_10 (mX) (sX) rfl dX7_region_32 ?_
      refine g_getf (n := 38) (v := .ref b) hC gf_X7_123 (m0) (s0) rfl dX7_region_35 ?_
      refine g_lconst (n := 39) (v := 1) hC (by decide) dX7_region_38 ?_
      refine g_iload_n (n := 40) hC rfl dX7_region_39 ?_
      refine g_lshlN (n := 41) hC (by omega) dX7_region_40 ?_
      refine g_aload_n (n := 42) hC rfl dX7_region_41 ?_
      refine g_getf (n := 45) (v := .ref g) hC gf_X7_10 (mX) (sX) rfl dX7_region_42 ?_
      refine g_cV (n := 48) (hroom := by exact ⟨Nat.zero_le _, Nat.zero_le _⟩) hC gv_X7_57 (m0) (s0) (X_latest K hG hsb hw1 hw2 hh1 hh2 hP) dX7_region_45 ?_
      refine g_aload_n (n := 49) hC rfl dX7_region_48 ?_
      refine g_getf (n := 52) (v := .ref g) hC gf_X7_10 (mX) (sX) rfl dX7_region_49 ?_
      refine g_getf (n := 55) (v := .ref b) hC gf_X7_123 (m0) (s0) rfl dX7_region_52 ?_
      refine g_iload_n (n := 56) hC rfl dX7_region_55 ?_
      refine g_cV (n := 59) (hroom := by exact ⟨Nat.zero_le _, Nat.zero_le _⟩) hC gv_X7_179 (hlat.1) (hlat.2.2.1) (X_open K hbL hsb hw1 hw2 hh1 hh2 hlat.1 hlat.2.1 hlat.2.2.1 hlat.2.2.2 hp1) dX7_region_56 ?_
      refine g_cV (n := 62) (hroom := by exact ⟨Nat.zero_le _, Nat.zero_le _⟩) hC gv_X7_183 (hbL) (hsb) (X_flood K hbL hsb hw1 hw2 hh1 hh2) dX7_region_59 ?_
      refine G.eql (fld_at (by omega)) ?_
      refine g_lstore_n (n := 63) (ll1 := [some (.ref X), some (.int (nI p0)), some (.int (nI c0)), some (.long (if tb (outF (rows pl) (w * h) p0) c0 = true then rgn w h (outF (rows pl) (w * h) p0) c0 else 0)), none]) hC dX7_region_62 rfl ?_
      refine g_lload_n (n := 64) hC rfl dX7_region_63 ?_
      refine g_lconst (n := 65) (v := 0) hC (by decide) dX7_region_64 ?_
      refine g_lcmp_ne (n := 69) (tgt := 79) hC dX7_region_65 dX7_region_66 (fun h65 => ?_) (fun h65 => ?_)
      ·
        have hto : tb (outF (rows pl) (w * h) p0) c0 = true := by
          cases e : tb (outF (rows pl) (w * h) p0) c0
          · rw [e] at h65; exact absurd (if_neg (by decide)) h65
          · rfl
        refine g_lload_n (n := 80) hC rfl dX7_region_79 ?_
        exact g_lret hC dX7_region_80 (⟨⟨p0, c0, hp1, hc0, rfl, rfl, hto, by rw [if_pos hto]⟩, rfl, rfl, rfl⟩) (Nat.zero_le _) (Nat.zero_le _)
      ·
        have hX9 : ∀ i, tb (outF (rows pl) (w * h) p0) i = true → i < w * h := fun i hi => outF_lt (by omega) hi
        have hto : tb (outF (rows pl) (w * h) p0) c0 = false := by
          cases e : tb (outF (rows pl) (w * h) p0) c0
          · rfl
          · rw [if_pos e] at h65; exact absurd h65 (rgn_ne (by omega) (by omega) hX9 e)
        exact g_throwS hC hX th_NSE (List.mem_of_getElem? (i := 12) rfl) dX7_region_69 dX7_region_72 dX7_region_73 dX7_region_75 dX7_region_78 (fun z9 hz9 => ⟨hz9, rfl, Or.inr ⟨rfl, ⟨p0, c0, hp1, hc0, rfl, rfl, hto⟩, rfl⟩⟩)
    ·
      exact g_throwS hC hX th_IOB (List.mem_of_getElem? (i := 11) rfl) dX7_region_21 dX7_region_24 dX7_region_25 dX7_region_27 dX7_region_30 (fun z9 hz9 => ⟨hz9, rfl, Or.inl ⟨rfl, fun q => h18 q.2, rfl⟩⟩)

set_option maxRecDepth 20000 in
theorem F_chain (K : GK) {σ : GS} {L : List Nat} {z : Nat} {g b : Nat} {w h : Nat} {ru : Int32} {pl : Nat} {bo0 bo1 : Int32} {D : Nat → RD} {rows : Nat → Nat → Int32} (hG : gmI K L σ g b ru pl bo0 bo1 D) (hsb : σ b = bdA w h) (hw1 : 4 ≤ w) (hw2 : w ≤ 7) (hh1 : 4 ≤ h) (hh2 : h ≤ 7) (hP : gmP (w * h) pl D rows) {X kp rf ip fo : Nat} {hk : Int32} (mX : X ∈ L) (sX : σ X = xOg g kp hk rf ip fo) (hXg : X < g) (hst : stA (w * h) (rows pl)) {x : Int32} : gX K yX7_chain cX7_chain 4 (some .long) 7 1 7 [.ref X, .int x] z L (σ) (fun r z1 L1 σ2 => (∃ c0, c0 < w * h ∧ x = nI c0 ∧ (rows pl c0 = nI 1 ∨ rows pl c0 = nI 2) ∧ r = some (.long (rgn w h (bitsF (fun i => decide (rows pl i = rows pl c0)) (w * h)) c0))) ∧ z1 = z ∧ L1 = L ∧ σ2 = σ) (fun E z1 L1 σ2 => z ≤ z1 ∧ L1 = L ∧ ((E = "java/lang/IndexOutOfBoundsException" ∧ ¬ inN (w * h) x ∧ σ2 = σ) ∨ (E = nsX ∧ (∃ c0, c0 < w * h ∧ x = nI c0 ∧ ¬ rows pl c0 = nI 1 ∧ ¬ rows pl c0 = nI 2) ∧ σ2 = σ))) := by
  have hn : w * h ≤ 49 := Nat.mul_le_mul hw2 hh2
  have hn1 : 16 ≤ w * h := Nat.mul_le_mul hw1 hh1
  have hn49 : w * h ≤ 49 := hn
  obtain ⟨m0, m2, m3, m4, hbL⟩ := hG.1
  have s0 := hG.2.1
  have s2 := hG.2.2.1
  have hpl := hP.1
  have hlat := gm_lat hG hP
  refine g_introX [some (.ref X), some (.int x), none, none] (fun Γ hC hX => ?_) (by simp [g_en, lv_args, Value.category])
  refine g_aload_n (n := 1) hC rfl dX7_chain_0 ?_
  refine g_getf (n := 4) (v := .ref g) hC gf_X7_10 (mX) (sX) rfl dX7_chain_1 ?_
  refine g_getf (n := 7) (v := .ref b) hC gf_X7_123 (m0) (s0) rfl dX7_chain_4 ?_
  refine g_iload_n (n := 8) hC rfl dX7_chain_7 ?_
  refine g_cV (n := 11) (hroom := by exact ⟨Nat.zero_le _, Nat.zero_le _⟩) hC gv_X7_141 (hbL) (hsb) (X_has K hbL hsb hw1 hw2 hh1 hh2) dX7_chain_8 ?_
  refine g_ifb_ne (n := 14) (tgt := 24) hC dX7_chain_11 (fun h11 => ?_) (fun h11 => ?_)
  ·
    obtain ⟨c0, hc0, rfl⟩ := h11
    obtain ⟨v0, hs0, hs1⟩ := hst c0 hc0
    refine g_aload_n (n := 25) hC rfl dX7_chain_24 ?_
    refine g_getf (n := 28) (v := .ref g) hC gf_X7_10 (mX) (sX) rfl dX7_chain_25 ?_
    refine g_cV (n := 31) (hroom := by exact ⟨Nat.zero_le _, Nat.zero_le _⟩) hC gv_X7_57 (m0) (s0) (X_latest K hG hsb hw1 hw2 hh1 hh2 hP) dX7_chain_28 ?_
    refine g_astore_n (n := 32) (ll1 := [some (.ref X), some (.int (nI c0)), some (.ref (latA g pl)), none]) hC dX7_chain_31 rfl ?_
    refine g_aload_n (n := 33) hC rfl dX7_chain_32 ?_
    refine g_iload_n (n := 34) hC rfl dX7_chain_33 ?_
    refine g_cV (n := 37) (hroom := by exact ⟨Nat.zero_le _, Nat.zero_le _⟩) hC gv_X7_138 (hlat.1) (hlat.2.2.1) (X_stateOf K hlat.1 hlat.2.1 hlat.2.2.1 hlat.2.2.2 hn49 hc0 hs0 hs1) dX7_chain_34 ?_
    refine G.eqi hs1 ?_
    refine g_istore_n (n := 38) (ll1 := [some (.ref X), some (.int (nI c0)), some (.ref (latA g pl)), some (.int (nI v0))]) hC dX7_chain_37 rfl ?_
    refine g_iload_n (n := 39) hC rfl dX7_chain_38 ?_
    refine g_iconst (n := 40) (v := (nI 1)) hC (by decide) dX7_chain_39 ?_
    refine g_icmp_eqN (n := 43) (tgt := 58) hC (by omega) (by omega) dX7_chain_40 (fun h40 => ?_) (fun h40 => ?_)
    ·
      refine g_aload_n (n := 59) hC rfl dX7_chain_58 ?_
      refine g_getf (n := 62) (v := .ref g) hC gf_X7_10 (mX) (sX) rfl dX7_chain_59 ?_
      refine g_getf (n := 65) (v := .ref b) hC gf_X7_123 (m0) (s0) rfl dX7_chain_62 ?_
      refine g_lconst (n := 66) (v := 1) hC (by decide) dX7_chain_65 ?_
      refine g_iload_n (n := 67) hC rfl dX7_chain_66 ?_
      refine g_lshlN (n := 68) hC (by omega) dX7_chain_67 ?_
      refine g_aload_n (n := 69) hC rfl dX7_chain_68 ?_
      refine g_iload_n (n := 70) hC rfl dX7_chain_69 ?_
      refine g_cV (n := 73) (hroom := by exact ⟨Nat.zero_le _, Nat.zero_le _⟩) hC gv_X7_194 (hlat.1) (hlat.2.2.1) (X_in K hlat.1 hlat.2.1 hlat.2.2.1 hlat.2.2.2 hn49 hs0) dX7_chain_70 ?_
      refine g_cV (n := 76) (hroom := by exact ⟨Nat.zero_le _, Nat.zero_le _⟩) hC gv_X7_183 (hbL) (hsb) (X_flood K hbL hsb hw1 hw2 hh1 hh2) dX7_chain_73 ?_
      exact g_lret hC dX7_chain_76 (⟨⟨c0, hc0, rfl, Or.inl (by rw [hs1, h40]), rL (by rw [psS_at hs0, ← hs1]; exact fld_in (bitsF_self (by omega) hc0 (decide_eq_true rfl)) (by omega))⟩, rfl, rfl, rfl⟩) (Nat.zero_le _) (Nat.zero_le _)
    ·
      refine g_iload_n (n := 44) hC rfl dX7_chain_43 ?_
      refine g_iconst (n := 45) (v := (nI 2)) hC (by decide) dX7_chain_44 ?_
      refine g_icmp_eqN (n := 48) (tgt := 58) hC (by omega) (by omega) dX7_chain_45 (fun h45 => ?_) (fun h45 => ?_)
      ·
        refine g_aload_n (n := 59) hC rfl dX7_chain_58 ?_
        refine g_getf (n := 62) (v := .ref g) hC gf_X7_10 (mX) (sX) rfl dX7_chain_59 ?_
        refine g_getf (n := 65) (v := .ref b) hC gf_X7_123 (m0) (s0) rfl dX7_chain_62 ?_
        refine g_lconst (n := 66) (v := 1) hC (by decide) dX7_chain_65 ?_
        refine g_iload_n (n := 67) hC rfl dX7_chain_66 ?_
        refine g_lshlN (n := 68) hC (by omega) dX7_chain_67 ?_
        refine g_aload_n (n := 69) hC rfl dX7_chain_68 ?_
        refine g_iload_n (n := 70) hC rfl dX7_chain_69 ?_
        refine g_cV (n := 73) (hroom := by exact ⟨Nat.zero_le _, Nat.zero_le _⟩) hC gv_X7_194 (hlat.1) (hlat.2.2.1) (X_in K hlat.1 hlat.2.1 hlat.2.2.1 hlat.2.2.2 hn49 hs0) dX7_chain_70 ?_
        refine g_cV (n := 76) (hroom := by exact ⟨Nat.zero_le _, Nat.zero_le _⟩) hC gv_X7_183 (hbL) (hsb) (X_flood K hbL hsb hw1 hw2 hh1 hh2) dX7_chain_73 ?_
        exact g_lret hC dX7_chain_76 (⟨⟨c0, hc0, rfl, Or.inr (by rw [hs1, h45]), rL (by rw [psS_at hs0, ← hs1]; exact fld_in (bitsF_self (by omega) hc0 (decide_eq_true rfl)) (by omega))⟩, rfl, rfl, rfl⟩) (Nat.zero_le _) (Nat.zero_le _)
      ·
        exact g_throwS hC hX th_NSE (List.mem_of_getElem? (i := 14) rfl) dX7_chain_48 dX7_chain_51 dX7_chain_52 dX7_chain_54 dX7_chain_57 (fun z9 hz9 => ⟨hz9, rfl, Or.inr ⟨rfl, ⟨c0, hc0, rfl, fun q => h40 ((nI_eq (by omega) (by omega)).mp (hs1.symm.trans q)), fun q => h45 ((nI_eq (by omega) (by omega)).mp (hs1.symm.trans q))⟩, rfl⟩⟩)
  ·
    exact g_throwS hC hX th_IOB (List.mem_of_getElem? (i := 5) rfl) dX7_chain_14 dX7_chain_17 dX7_chain_18 dX7_chain_20 dX7_chain_23 (fun z9 hz9 => ⟨hz9, rfl, Or.inl ⟨rfl, h11, rfl⟩⟩)
