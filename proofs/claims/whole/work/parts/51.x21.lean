set_option maxRecDepth 20000 in
theorem X_partOfBoard (K : GK) {σ : GS} {L : List Nat} {z : Nat} {t : Nat} {w h : Nat} (hbL : t ∈ L) (hsb : σ t = bdA w h) (hw1 : 4 ≤ w) (hw2 : w ≤ 7) (hh1 : 4 ≤ h) (hh2 : h ≤ 7) {s : Int64} (hs : ct (tb s) 64 < 99) : gT K yX0_partOfBoard cX0_partOfBoard 3 (some .double) 1 [.ref t, .long s] z L (σ) (some (.double (FP.ddiv (FP.i2d (nI (ct (tb s) 64))) (FP.i2d (nI (w * h)))))) (σ) := by
  have hn : w * h ≤ 49 := Nat.mul_le_mul hw2 hh2
  have hn1 : 16 ≤ w * h := Nat.mul_le_mul hw1 hh1
  refine g_intro [some (.ref t), some (.long s), none] (fun Γ hC => ?_) (by simp [g_en, lv_args, Value.category])
  refine g_aload_n (n := 1) hC rfl dX0_partOfBoard_0 ?_
  refine g_getf (n := 4) (v := .int (nI (w * h))) hC gf_X0_16 (hbL) (hsb) rfl dX0_partOfBoard_1 ?_
  refine g_if_neN (n := 7) (tgt := 11) hC (by omega) dX0_partOfBoard_4 (fun h4 => ?_) (fun h4 => ?_)
  ·
    refine g_lload_n (n := 12) hC rfl dX0_partOfBoard_11 ?_
    refine g_cS (n := 15) hC gs_X0_36 (X_bitCount K) dX0_partOfBoard_12 ?_
    refine g_i2d (n := 16) hC dX0_partOfBoard_15 ?_
    refine g_aload_n (n := 17) hC rfl dX0_partOfBoard_16 ?_
    refine g_getf (n := 20) (v := .int (nI (w * h))) hC gf_X0_16 (hbL) (hsb) rfl dX0_partOfBoard_17 ?_
    refine g_i2d (n := 21) hC dX0_partOfBoard_20 ?_
    refine g_ddiv (n := 22) hC (dv_ok w (by omega) h (by omega) _ hs (by omega) (by omega)) dX0_partOfBoard_21 ?_
    exact g_dret hC dX0_partOfBoard_22 (⟨by first | rfl | (simp [*]; done), rfl, rfl, rfl⟩)
  · exact absurd h4 (by omega)

set_option maxRecDepth 20000 in
set_option maxHeartbeats 2000000 in
theorem X_tell0 (K : GK) {σ : GS} {L : List Nat} {z : Nat} {g b : Nat} {w h : Nat} {ru : Int32} {pl : Nat} {bo0 bo1 : Int32} {D : Nat → RD} {rows : Nat → Nat → Int32} (hG : gmI K L σ g b ru pl bo0 bo1 D) (hsb : σ b = bdA w h) (hw1 : 4 ≤ w) (hw2 : w ≤ 7) (hh1 : 4 ≤ h) (hh2 : h ≤ 7) (hP : gmP (w * h) pl D rows) {rf k0 : Nat} {cd dt : Nat → Int32} (n0 : rf ∈ L) (n1 : rf + 1 ∈ L) (n2 : rf + 2 ∈ L) (t0 : σ rf = rfsO rf k0) (t1 : σ (rf + 1) = iA K 4 cd) (t2 : σ (rf + 2) = iA K 4 dt) (hrf : g + 245 ≤ rf) (hbr : b < rf ∨ rf + 2 < b) {who q s0 : Nat} (hq : q < w * h) (hs0 : s0 ≤ 5) (hfq : rows pl q = nI s0) (hwho : who ≤ 1) (hwt : wtX D q pl = -1) : gT K yX5_tell cX5_tell 6 none 4 [.ref rf, .ref g, .int (nI (2 + who)), .int (nI q)] z L (σ) none (rfU K σ rf (3) (va_up (va_up (va_up cd 0 (nI 1)) 1 (nI (2 + who))) 2 (nI 10 + rows pl q)) (va_up (va_up (va_up dt 0 (nI pl)) 1 (nI q)) 2 (rtX D q pl))) := by
  have hn : w * h ≤ 49 := Nat.mul_le_mul hw2 hh2
  have hn1 : 16 ≤ w * h := Nat.mul_le_mul hw1 hh1
  have hn49 : w * h ≤ 49 := hn
  obtain ⟨m0, m2, m3, m4, hbL⟩ := hG.1
  have s0 := hG.2.1
  have s2 := hG.2.2.1
  have hpl := hP.1
  have hlat := gm_lat hG hP
  have hq49 : q < 49 := by omega
  have hwho9 := hwho
  refine g_intro [some (.ref rf), some (.ref g), some (.int (nI (2 + who))), some (.int (nI q)), none, none] (fun Γ hC => ?_) (by simp [g_en, lv_args, Value.category])
  refine g_aload_n (n := 1) hC rfl dX5_tell_0 ?_
  refine g_iconst (n := 2) (v := (nI 0)) hC (by decide) dX5_tell_1 ?_
  refine g_putf (n := 5) hC gp_X5_18 n0 t0 dX5_tell_2 ?_
  refine G.eqs (show _ = rfU K σ rf (0) (cd) (dt) from rf_ext (va_up_self _ _ _) (by rw [va_up_ne _ _ (by omega)]; exact t1) (by rw [va_up_ne _ _ (by omega)]; exact t2) (fun b9 hb9 => va_up_ne _ _ (by omega))) ?_
  have hG0 := gm_eq (σ1 := rfU K σ rf (0) (cd) (dt)) (fun a9 h1 h2 _ => rfU_o (by omega)) hG
  have hsb0 : (rfU K σ rf (0) (cd) (dt)) b = bdA w h := (rfU_o (by omega)).trans hsb
  refine g_aload_n (n := 6) hC rfl dX5_tell_5 ?_
  refine g_iconst (n := 7) (v := (nI 1)) hC (by decide) dX5_tell_6 ?_
  refine g_aload_n (n := 8) hC rfl dX5_tell_7 ?_
  refine g_getf (n := 11) (v := .int (nI pl)) hC gf_X5_22 (m0) (hG0.2.1) rfl dX5_tell_8 ?_
  refine g_cVv (n := 14) hC gv_X5_27 (n0) (rfU_0) (X_radd K (k := 0) (cd := cd) (dt := dt) n0 n1 n2 (by omega)) dX5_tell_11 ?_
  have hG1 := gm_eq (σ1 := rfU K σ rf (1) (va_up (cd) 0 (nI 1)) (va_up (dt) 0 (nI pl))) (fun a9 h1 h2 _ => rfU_o (by omega)) hG
  have hsb1 : (rfU K σ rf (1) (va_up (cd) 0 (nI 1)) (va_up (dt) 0 (nI pl))) b = bdA w h := (rfU_o (by omega)).trans hsb
  refine g_aload_n (n := 15) hC rfl dX5_tell_14 ?_
  refine g_iload_n (n := 16) hC rfl dX5_tell_15 ?_
  refine g_iload_n (n := 17) hC rfl dX5_tell_16 ?_
  refine g_cVv (n := 20) hC gv_X5_27 (n0) (rfU_0) (X_radd K (k := 1) (cd := va_up (cd) 0 (nI 1)) (dt := va_up (dt) 0 (nI pl)) n0 n1 n2 (by omega)) dX5_tell_17 ?_
  have hG2 := gm_eq (σ1 := rfU K σ rf (2) (va_up (va_up (cd) 0 (nI 1)) 1 (nI (2 + who))) (va_up (va_up (dt) 0 (nI pl)) 1 (nI q))) (fun a9 h1 h2 _ => rfU_o (by omega)) hG
  have hsb2 : (rfU K σ rf (2) (va_up (va_up (cd) 0 (nI 1)) 1 (nI (2 + who))) (va_up (va_up (dt) 0 (nI pl)) 1 (nI q))) b = bdA w h := (rfU_o (by omega)).trans hsb
  refine g_aload_n (n := 21) hC rfl dX5_tell_20 ?_
  refine g_iload_n (n := 22) hC rfl dX5_tell_21 ?_
  refine g_cV (n := 25) hC gv_X5_31 (m0) (hG2.2.1) (X_roundOf K hG2 hsb2 hw1 hw2 hh1 hh2 hP hq49) dX5_tell_22 ?_
  refine g_istore (n := 27) (ll1 := [some (.ref rf), some (.ref g), some (.int (nI (2 + who))), some (.int (nI q)), some (.int (rtX D q pl)), none]) hC dX5_tell_25 rfl ?_
  refine g_aload_n (n := 28) hC rfl dX5_tell_27 ?_
  refine g_bipush (n := 30) (v := (nI 10)) hC (by decide) dX5_tell_28 ?_
  refine g_aload_n (n := 31) hC rfl dX5_tell_30 ?_
  refine g_cV (n := 34) hC gv_X5_35 (m0) (hG2.2.1) (X_latest K hG2 hsb2 hw1 hw2 hh1 hh2 hP) dX5_tell_31 ?_
  refine g_iload_n (n := 35) hC rfl dX5_tell_34 ?_
  have hl2 := gm_lat hG2 hP
  refine g_cV (n := 38) hC gv_X5_39 (hlat.1) ((gm_lat hG2 hP).2.2.1) (X_stateOf K hl2.1 hl2.2.1 hl2.2.2.1 hl2.2.2.2 hn49 hq hs0 hfq) dX5_tell_35 ?_
  refine g_iadd (n := 39) hC dX5_tell_38 ?_
  refine g_iload (n := 41) hC rfl dX5_tell_39 ?_
  refine g_cVv (n := 44) hC gv_X5_27 (n0) (rfU_0) (X_radd K (k := 2) (cd := va_up (va_up (cd) 0 (nI 1)) 1 (nI (2 + who))) (dt := va_up (va_up (dt) 0 (nI pl)) 1 (nI q)) n0 n1 n2 (by omega)) dX5_tell_41 ?_
  have hG3 := gm_eq (σ1 := rfU K σ rf (3) (va_up (va_up (va_up (cd) 0 (nI 1)) 1 (nI (2 + who))) 2 ((nI 10) + (rows pl q))) (va_up (va_up (va_up (dt) 0 (nI pl)) 1 (nI q)) 2 (rtX D q pl))) (fun a9 h1 h2 _ => rfU_o (by omega)) hG
  have hsb3 : (rfU K σ rf (3) (va_up (va_up (va_up (cd) 0 (nI 1)) 1 (nI (2 + who))) 2 ((nI 10) + (rows pl q))) (va_up (va_up (va_up (dt) 0 (nI pl)) 1 (nI q)) 2 (rtX D q pl))) b = bdA w h := (rfU_o (by omega)).trans hsb
  refine g_aload_n (n := 45) hC rfl dX5_tell_44 ?_
  refine g_iload_n (n := 46) hC rfl dX5_tell_45 ?_
  refine g_cV (n := 49) hC gv_X5_44 (m0) (hG3.2.1) (X_waveOf K hG3 hsb3 hw1 hw2 hh1 hh2 hP hq49) dX5_tell_46 ?_
  refine G.eqi hwt ?_
  refine g_istore (n := 51) (ll1 := [some (.ref rf), some (.ref g), some (.int (nI (2 + who))), some (.int (nI q)), some (.int (rtX D q pl)), some (.int (-1))]) hC dX5_tell_49 rfl ?_
  refine g_iload (n := 53) hC rfl dX5_tell_51 ?_
  refine g_if_lt (n := 56) (tgt := 89) hC dX5_tell_53 (fun h53 => ?_) (fun h53 => absurd (by decide) h53)
  exact g_vret hC dX5_tell_89 (⟨rfl, rfl, rfl, rfl⟩)

set_option maxRecDepth 20000 in
set_option maxHeartbeats 2000000 in
theorem X_tell1 (K : GK) {σ : GS} {L : List Nat} {z : Nat} {g b : Nat} {w h : Nat} {ru : Int32} {pl : Nat} {bo0 bo1 : Int32} {D : Nat → RD} {rows : Nat → Nat → Int32} (hG : gmI K L σ g b ru pl bo0 bo1 D) (hsb : σ b = bdA w h) (hw1 : 4 ≤ w) (hw2 : w ≤ 7) (hh1 : 4 ≤ h) (hh2 : h ≤ 7) (hP : gmP (w * h) pl D rows) {rf k0 : Nat} {cd dt : Nat → Int32} (n0 : rf ∈ L) (n1 : rf + 1 ∈ L) (n2 : rf + 2 ∈ L) (t0 : σ rf = rfsO rf k0) (t1 : σ (rf + 1) = iA K 4 cd) (t2 : σ (rf + 2) = iA K 4 dt) (hrf : g + 245 ≤ rf) (hbr : b < rf ∨ rf + 2 < b) {who q s0 : Nat} (hq : q < w * h) (hs0 : s0 ≤ 5) (hfq : rows pl q = nI s0) (hwho : who ≤ 1) {r9 wn : Nat} (hr9 : r9 < pl) (hrt : rtX D q pl = nI r9) (hwn8 : wn < 8) (hwt : wtX D q pl = nI wn) : gT K yX5_tell cX5_tell 6 none 4 [.ref rf, .ref g, .int (nI (2 + who)), .int (nI q)] z L (σ) none (rfU K σ rf (4) (va_up (va_up (va_up (va_up cd 0 (nI 1)) 1 (nI (2 + who))) 2 (nI 10 + rows pl q)) 3 (nI (20 + wn))) (va_up (va_up (va_up (va_up dt 0 (nI pl)) 1 (nI q)) 2 (nI r9)) 3 (nI (ct (tb ((D r9).2.2.1 wn)) 64)))) := by
  have hn : w * h ≤ 49 := Nat.mul_le_mul hw2 hh2
  have hn1 : 16 ≤ w * h := Nat.mul_le_mul hw1 hh1
  have hn49 : w * h ≤ 49 := hn
  obtain ⟨m0, m2, m3, m4, hbL⟩ := hG.1
  have s0 := hG.2.1
  have s2 := hG.2.2.1
  have hpl := hP.1
  have hlat := gm_lat hG hP
  have hq49 : q < 49 := by omega
  have hwho9 := hwho
  refine g_intro [some (.ref rf), some (.ref g), some (.int (nI (2 + who))), some (.int (nI q)), none, none] (fun Γ hC => ?_) (by simp [g_en, lv_args, Value.category])
  refine g_aload_n (n := 1) hC rfl dX5_tell_0 ?_
  refine g_iconst (n := 2) (v := (nI 0)) hC (by decide) dX5_tell_1 ?_
  refine g_putf (n := 5) hC gp_X5_18 n0 t0 dX5_tell_2 ?_
  refine G.eqs (show _ = rfU K σ rf (0) (cd) (dt) from rf_ext (va_up_self _ _ _) (by rw [va_up_ne _ _ (by omega)]; exact t1) (by rw [va_up_ne _ _ (by omega)]; exact t2) (fun b9 hb9 => va_up_ne _ _ (by omega))) ?_
  have hG0 := gm_eq (σ1 := rfU K σ rf (0) (cd) (dt)) (fun a9 h1 h2 _ => rfU_o (by omega)) hG
  have hsb0 : (rfU K σ rf (0) (cd) (dt)) b = bdA w h := (rfU_o (by omega)).trans hsb
  refine g_aload_n (n := 6) hC rfl dX5_tell_5 ?_
  refine g_iconst (n := 7) (v := (nI 1)) hC (by decide) dX5_tell_6 ?_
  refine g_aload_n (n := 8) hC rfl dX5_tell_7 ?_
  refine g_getf (n := 11) (v := .int (nI pl)) hC gf_X5_22 (m0) (hG0.2.1) rfl dX5_tell_8 ?_
  refine g_cVv (n := 14) hC gv_X5_27 (n0) (rfU_0) (X_radd K (k := 0) (cd := cd) (dt := dt) n0 n1 n2 (by omega)) dX5_tell_11 ?_
  have hG1 := gm_eq (σ1 := rfU K σ rf (1) (va_up (cd) 0 (nI 1)) (va_up (dt) 0 (nI pl))) (fun a9 h1 h2 _ => rfU_o (by omega)) hG
  have hsb1 : (rfU K σ rf (1) (va_up (cd) 0 (nI 1)) (va_up (dt) 0 (nI pl))) b = bdA w h := (rfU_o (by omega)).trans hsb
  refine g_aload_n (n := 15) hC rfl dX5_tell_14 ?_
  refine g_iload_n (n := 16) hC rfl dX5_tell_15 ?_
  refine g_iload_n (n := 17) hC rfl dX5_tell_16 ?_
  refine g_cVv (n := 20) hC gv_X5_27 (n0) (rfU_0) (X_radd K (k := 1) (cd := va_up (cd) 0 (nI 1)) (dt := va_up (dt) 0 (nI pl)) n0 n1 n2 (by omega)) dX5_tell_17 ?_
  have hG2 := gm_eq (σ1 := rfU K σ rf (2) (va_up (va_up (cd) 0 (nI 1)) 1 (nI (2 + who))) (va_up (va_up (dt) 0 (nI pl)) 1 (nI q))) (fun a9 h1 h2 _ => rfU_o (by omega)) hG
  have hsb2 : (rfU K σ rf (2) (va_up (va_up (cd) 0 (nI 1)) 1 (nI (2 + who))) (va_up (va_up (dt) 0 (nI pl)) 1 (nI q))) b = bdA w h := (rfU_o (by omega)).trans hsb
  refine g_aload_n (n := 21) hC rfl dX5_tell_20 ?_
  refine g_iload_n (n := 22) hC rfl dX5_tell_21 ?_
  refine g_cV (n := 25) hC gv_X5_31 (m0) (hG2.2.1) (X_roundOf K hG2 hsb2 hw1 hw2 hh1 hh2 hP hq49) dX5_tell_22 ?_
  refine G.eqi hrt ?_
  refine g_istore (n := 27) (ll1 := [some (.ref rf), some (.ref g), some (.int (nI (2 + who))), some (.int (nI q)), some (.int (nI r9)), none]) hC dX5_tell_25 rfl ?_
  refine g_aload_n (n := 28) hC rfl dX5_tell_27 ?_
  refine g_bipush (n := 30) (v := (nI 10)) hC (by decide) dX5_tell_28 ?_
  refine g_aload_n (n := 31) hC rfl dX5_tell_30 ?_
  refine g_cV (n := 34) hC gv_X5_35 (m0) (hG2.2.1) (X_latest K hG2 hsb2 hw1 hw2 hh1 hh2 hP) dX5_tell_31 ?_
  refine g_iload_n (n := 35) hC rfl dX5_tell_34 ?_
  have hl2 := gm_lat hG2 hP
  refine g_cV (n := 38) hC gv_X5_39 (hlat.1) ((gm_lat hG2 hP).2.2.1) (X_stateOf K hl2.1 hl2.2.1 hl2.2.2.1 hl2.2.2.2 hn49 hq hs0 hfq) dX5_tell_35 ?_
  refine g_iadd (n := 39) hC dX5_tell_38 ?_
  refine g_iload (n := 41) hC rfl dX5_tell_39 ?_
  refine g_cVv (n := 44) hC gv_X5_27 (n0) (rfU_0) (X_radd K (k := 2) (cd := va_up (va_up (cd) 0 (nI 1)) 1 (nI (2 + who))) (dt := va_up (va_up (dt) 0 (nI pl)) 1 (nI q)) n0 n1 n2 (by omega)) dX5_tell_41 ?_
  have hG3 := gm_eq (σ1 := rfU K σ rf (3) (va_up (va_up (va_up (cd) 0 (nI 1)) 1 (nI (2 + who))) 2 ((nI 10) + (rows pl q))) (va_up (va_up (va_up (dt) 0 (nI pl)) 1 (nI q)) 2 (nI r9))) (fun a9 h1 h2 _ => rfU_o (by omega)) hG
  have hsb3 : (rfU K σ rf (3) (va_up (va_up (va_up (cd) 0 (nI 1)) 1 (nI (2 + who))) 2 ((nI 10) + (rows pl q))) (va_up (va_up (va_up (dt) 0 (nI pl)) 1 (nI q)) 2 (nI r9))) b = bdA w h := (rfU_o (by omega)).trans hsb
  refine g_aload_n (n := 45) hC rfl dX5_tell_44 ?_
  refine g_iload_n (n := 46) hC rfl dX5_tell_45 ?_
  refine g_cV (n := 49) hC gv_X5_44 (m0) (hG3.2.1) (X_waveOf K hG3 hsb3 hw1 hw2 hh1 hh2 hP hq49) dX5_tell_46 ?_
  refine G.eqi hwt ?_
  refine g_istore (n := 51) (ll1 := [some (.ref rf), some (.ref g), some (.int (nI (2 + who))), some (.int (nI q)), some (.int (nI r9)), some (.int (nI wn))]) hC dX5_tell_49 rfl ?_
  refine g_iload (n := 53) hC rfl dX5_tell_51 ?_
  refine g_if_ltN (n := 56) (tgt := 89) hC (by omega) dX5_tell_53 (fun h53 => h53.elim) (fun h53 => ?_)
  refine g_iload (n := 58) hC rfl dX5_tell_56 ?_
  refine g_if_ltN (n := 61) (tgt := 89) hC (by omega) dX5_tell_58 (fun h58 => h58.elim) (fun h58 => ?_)
  refine g_iload (n := 63) hC rfl dX5_tell_61 ?_
  refine g_bipush (n := 65) (v := (nI 60)) hC (by decide) dX5_tell_63 ?_
  refine g_icmp_geN (n := 68) (tgt := 89) hC (by omega) (by omega) dX5_tell_65 (fun h65 => absurd h65 (by omega)) (fun h65 => ?_)
  refine g_aload_n (n := 69) hC rfl dX5_tell_68 ?_
  refine g_bipush (n := 71) (v := (nI 20)) hC (by decide) dX5_tell_69 ?_
  refine g_iload (n := 73) hC rfl dX5_tell_71 ?_
  refine g_iaddN (n := 74) hC dX5_tell_73 ?_
  refine g_aload_n (n := 75) hC rfl dX5_tell_74 ?_
  refine g_getf (n := 78) (v := .ref (g + 2)) hC gf_X5_47 (m0) (hG3.2.1) rfl dX5_tell_75 ?_
  refine g_iload (n := 80) hC rfl dX5_tell_78 ?_
  refine g_aald (n := 81) (j := r9) (v := (g + 5 + 4 * r9)) hC (m2) (hG3.2.2.1) (rfl) (by omega) (by decide) (rds_at (by omega)) dX5_tell_80 ?_
  refine g_iload (n := 83) hC rfl dX5_tell_81 ?_
  have hri9 := gm_rdI hG3 hP (r := r9) hr9
  refine g_cV (n := 86) hC gv_X5_51 (hri9.1.1) (hri9.2.1) (X_changedByWave K hri9 hn49 hwn8) dX5_tell_83 ?_
  refine g_cVv (n := 89) hC gv_X5_27 (n0) (rfU_0) (X_radd K (k := 3) (cd := va_up (va_up (va_up (cd) 0 (nI 1)) 1 (nI (2 + who))) 2 ((nI 10) + (rows pl q))) (dt := va_up (va_up (va_up (dt) 0 (nI pl)) 1 (nI q)) 2 (nI r9)) n0 n1 n2 (by omega)) dX5_tell_86 ?_
  have hG4 := gm_eq (σ1 := rfU K σ rf (4) (va_up (va_up (va_up (va_up (cd) 0 (nI 1)) 1 (nI (2 + who))) 2 ((nI 10) + (rows pl q))) 3 (nI (20 + wn))) (va_up (va_up (va_up (va_up (dt) 0 (nI pl)) 1 (nI q)) 2 (nI r9)) 3 (nI (ct (tb ((D r9).2.2.1 wn)) 64)))) (fun a9 h1 h2 _ => rfU_o (by omega)) hG
  have hsb4 : (rfU K σ rf (4) (va_up (va_up (va_up (va_up (cd) 0 (nI 1)) 1 (nI (2 + who))) 2 ((nI 10) + (rows pl q))) 3 (nI (20 + wn))) (va_up (va_up (va_up (va_up (dt) 0 (nI pl)) 1 (nI q)) 2 (nI r9)) 3 (nI (ct (tb ((D r9).2.2.1 wn)) 64)))) b = bdA w h := (rfU_o (by omega)).trans hsb
  exact g_vret hC dX5_tell_89 (⟨rfl, rfl, rfl, rfl⟩)
