set_option maxRecDepth 20000 in
set_option maxHeartbeats 1000000 in
theorem M_encloses (K : GK) {M : Nat} {sc : Nat → Int32} {ar : Nat → Nat → Int32} {σ0 : GS} {L : List Nat} {z : Nat} (hD : mdom M L) {w h : Nat} (hB : mB sc w h) {p : Nat} (hp : p ≤ 1) : gT K yX8_encloses cX8_encloses 10 none 4 [.ref M, .int (nI p)] z L (mdl K M sc ar σ0) none (mdl K M sc (va_up ar 20 (encB (ar 20) (encV w h (outF (ar 5) (w * h) p)) p)) σ0) := by
  obtain ⟨hw, hh, hw1, hw2, hh1, hh2⟩ := id hB
  have hn : w * h ≤ 49 := Nat.mul_le_mul hw2 hh2
  have hn1 : 16 ≤ w * h := Nat.mul_le_mul hw1 hh1
  have hX : ∀ i, tb (outF (ar 5) (w * h) p) i = true → i < w * h := fun i hi => outF_lt (by omega) hi
  refine g_intro [some (.ref M), some (.int (nI p)), none, none, none, none, none, none, none, none] (fun Γ hC => ?_) (by simp [g_en, lv_args, Value.category])
  have lp41 : ∀ (n9 : Nat) (y : Int64) (hyc : clo w (outF (ar 5) (w * h) p) y) (y2 : Int64) (ey2 : y2 = ((outF (ar 5) (w * h) p) &&& (y ^^^ (-1)))) (hm9 : w * h - ct (tb y) (w * h) < n9), G K Γ (z, 0, 0, L) (mdl K M sc (va_up ar 20 (encB (ar 20) (encE w h (outF (ar 5) (w * h) p) y) p)) σ0) 41 [some (.ref M), some (.int (nI p)), some (.long y2), none, some (.long (edgF w h)), none, none, none, none, none] [] := by
    intro n9
    induction n9 with
    | zero =>
      intro y hyc y2 ey2 hm9
      exact absurd hm9 (Nat.not_lt_zero _)
    | succ n9 ih41 =>
      intro y hyc y2 ey2 hm9
      subst ey2
      refine g_lload_n (n := 42) hC rfl dX8_encloses_41 ?_
      refine g_lconst (n := 43) (v := 0) hC (by decide) dX8_encloses_42 ?_
      refine g_lcmp_eq (n := 47) (tgt := 142) hC dX8_encloses_43 dX8_encloses_44 (fun h43 => ?_) (fun h43 => ?_)
      ·
        exact g_vret hC dX8_encloses_142 (⟨rfl, rfl, rfl, (by rw [encE_x h43])⟩)
      ·
        obtain ⟨m, hm, hl⟩ := low_ex h43
        obtain ⟨hmX, hmy⟩ := tb_less.mp hm
        have hXy : ∀ i, tb ((outF (ar 5) (w * h) p) &&& (y ^^^ (-1))) i = true → i < w * h := fun i hi => hX i (tb_less.mp hi).1
        have hmn : m < w * h := hX m hmX
        refine g_aload_n (n := 48) hC rfl dX8_encloses_47 ?_
        refine g_lload_n (n := 49) hC rfl dX8_encloses_48 ?_
        refine g_lload_n (n := 50) hC rfl dX8_encloses_49 ?_
        refine g_cS (n := 53) hC gs_X8_117 (M_lowest K hD hm hl) dX8_encloses_50 ?_
        refine g_cV (n := 56) hC gv_X8_121 (hD 0 (by decide)) mdl_0 (M_connected K hD hB hXy hm) dX8_encloses_53 ?_
        refine G.eql (rgn_less (by omega) (by omega) hX hyc.2 hmX hmy) ?_
        refine g_lstore (n := 58) (ll1 := [some (.ref M), some (.int (nI p)), some (.long ((outF (ar 5) (w * h) p) &&& (y ^^^ (-1)))), none, some (.long (edgF w h)), none, some (.long (rgn w h (outF (ar 5) (w * h) p) m)), none, none, none]) hC dX8_encloses_56 rfl ?_
        refine g_lload_n (n := 59) hC rfl dX8_encloses_58 ?_
        refine g_lload (n := 61) hC rfl dX8_encloses_59 ?_
        refine g_ldc2 (n := 64) hC gc_X8_95 dX8_encloses_61 ?_
        refine g_lxor (n := 65) hC dX8_encloses_64 ?_
        refine g_land (n := 66) hC dX8_encloses_65 ?_
        refine g_lstore_n (n := 67) (ll1 := [some (.ref M), some (.int (nI p)), some (.long (((outF (ar 5) (w * h) p) &&& (y ^^^ (-1))) &&& ((rgn w h (outF (ar 5) (w * h) p) m) ^^^ (-1)))), none, some (.long (edgF w h)), none, some (.long (rgn w h (outF (ar 5) (w * h) p) m)), none, none, none]) hC dX8_encloses_66 rfl ?_
        have lp86 : ∀ (ys0 : Int32) (eys0 : ys0 = (nI (enM w h (rgn w h (outF (ar 5) (w * h) p) m)))), G K Γ (z, 0, 0, L) (mdl K M sc (va_up ar 20 (encB (ar 20) (encE w h (outF (ar 5) (w * h) p) y) p)) σ0) 86 [some (.ref M), some (.int (nI p)), some (.long (((outF (ar 5) (w * h) p) &&& (y ^^^ (-1))) &&& (rgn w h (outF (ar 5) (w * h) p) m ^^^ (-1)))), none, some (.long (edgF w h)), none, some (.long (rgn w h (outF (ar 5) (w * h) p) m)), none, none, none] [.int ys0] := by
          intro ys0 eys0
          subst eys0
          refine g_istore (n := 88) (ll1 := [some (.ref M), some (.int (nI p)), some (.long (((outF (ar 5) (w * h) p) &&& (y ^^^ (-1))) &&& (rgn w h (outF (ar 5) (w * h) p) m ^^^ (-1)))), none, some (.long (edgF w h)), none, some (.long (rgn w h (outF (ar 5) (w * h) p) m)), none, some (.int (nI (enM w h (rgn w h (outF (ar 5) (w * h) p) m)))), none]) hC dX8_encloses_86 rfl ?_
          refine g_iconst (n := 89) (v := (nI 0)) hC (by decide) dX8_encloses_88 ?_
          refine g_istore (n := 91) (ll1 := [some (.ref M), some (.int (nI p)), some (.long (((outF (ar 5) (w * h) p) &&& (y ^^^ (-1))) &&& (rgn w h (outF (ar 5) (w * h) p) m ^^^ (-1)))), none, some (.long (edgF w h)), none, some (.long (rgn w h (outF (ar 5) (w * h) p) m)), none, some (.int (nI (enM w h (rgn w h (outF (ar 5) (w * h) p) m)))), some (.int (nI 0))]) hC dX8_encloses_89 rfl ?_
          have lp91 : ∀ (n9 : Nat) (c : Nat) (hc : c ≤ w * h) (y9 : Int32) (ey9 : y9 = (nI c)) (hm9 : w * h - c < n9), G K Γ (z, 0, 0, L) (mdl K M sc (va_up ar 20 (encB (ar 20) (encF w h (outF (ar 5) (w * h) p) y (rgn w h (outF (ar 5) (w * h) p) m) c) p)) σ0) 91 [some (.ref M), some (.int (nI p)), some (.long (((outF (ar 5) (w * h) p) &&& (y ^^^ (-1))) &&& (rgn w h (outF (ar 5) (w * h) p) m ^^^ (-1)))), none, some (.long (edgF w h)), none, some (.long (rgn w h (outF (ar 5) (w * h) p) m)), none, some (.int (nI (enM w h (rgn w h (outF (ar 5) (w * h) p) m)))), some (.int y9)] [] := by
            intro n9
            induction n9 with
            | zero =>
              intro c hc y9 ey9 hm9
              exact absurd hm9 (Nat.not_lt_zero _)
            | succ n9 ih91 =>
              intro c hc y9 ey9 hm9
              subst ey9
              refine g_iload (n := 93) hC rfl dX8_encloses_91 ?_
              refine g_aload_n (n := 94) hC rfl dX8_encloses_93 ?_
              refine g_cV (n := 97) hC gv_X8_76 (hD 0 (by decide)) mdl_0 (M_cells K hD hB) dX8_encloses_94 ?_
              refine g_icmp_geN (n := 100) (tgt := 139) hC (by omega) (by omega) dX8_encloses_97 (fun h97 => ?_) (fun h97 => ?_)
              ·
                refine g_goto (n := 41) hC dX8_encloses_139 ?_
                refine G.eqs (show _ = mdl K M sc (va_up ar 20 (encB (ar 20) (encE w h (outF (ar 5) (w * h) p) (y ||| rgn w h (outF (ar 5) (w * h) p) m)) p)) σ0 from (by rw [show c = w * h by omega, encF_n hX hyc.1 (fun i hi => comp_in hmX ((tb_rgn (by omega) (by omega) hX hmX i).mp hi))])) ?_
                exact G.le (ih41 (y ||| rgn w h (outF (ar 5) (w * h) p) m) (by first | exact clo_0 | exact clo_or (by omega) (by omega) hX hyc hmX) _ (by first | exact and_not0 _ | exact and_not2 _ _ _) (by have h1 := clo_meas (y := y) (by omega) (by omega) hX hmX hmy; have h2 := ct_le (tb (y ||| rgn w h (outF (ar 5) (w * h) p) m)) (w * h); omega)) (And.intro rfl (And.intro rfl (And.intro rfl (And.intro rfl (trivial)))))
              ·
                refine g_aload_n (n := 101) hC rfl dX8_encloses_100 ?_
                refine m_get (v := .ref (M + 13)) (n := 104) hC hD gf_X8_53 dX8_encloses_101 rfl ?_
                refine g_bipush (n := 106) (v := (nI 49)) hC (by decide) dX8_encloses_104 ?_
                refine g_iload_n (n := 107) hC rfl dX8_encloses_106 ?_
                refine g_imulN (n := 108) hC dX8_encloses_107 ?_
                refine g_iload (n := 110) hC rfl dX8_encloses_108 ?_
                refine g_iaddN (n := 111) hC dX8_encloses_110 ?_
                refine g_dup2 (n := 112) hC rfl rfl dX8_encloses_111 ?_
                refine m_ld20 (x := (nI (encE w h (outF (ar 5) (w * h) p) y c))) (n := 113) hC hD ((49 * p) + c) dX8_encloses_112 (rfl) (by omega) ((by show encB _ _ _ _ = _; rw [encB_at (by omega), encF, if_neg (by omega)])) ?_
                refine g_lload (n := 115) hC rfl dX8_encloses_113 ?_
                refine g_iload (n := 117) hC rfl dX8_encloses_115 ?_
                refine g_lshrN (n := 118) hC (by omega) dX8_encloses_117 ?_
                refine g_lconst (n := 119) (v := 1) hC (by decide) dX8_encloses_118 ?_
                refine g_land (n := 120) hC dX8_encloses_119 ?_
                refine g_lconst (n := 121) (v := 1) hC (by decide) dX8_encloses_120 ?_
                refine g_lcmp_ne (n := 125) (tgt := 130) hC dX8_encloses_121 dX8_encloses_122 (fun h121 => ?_) (fun h121 => ?_)
                ·
                  refine g_iconst (n := 131) (v := (nI 0)) hC (by decide) dX8_encloses_130 ?_
                  refine g_iaddN (n := 132) hC dX8_encloses_131 ?_
                  refine m_st20 (f := (encB (ar 20) (encF w h (outF (ar 5) (w * h) p) y (rgn w h (outF (ar 5) (w * h) p) m) c) p)) (n := 133) hC hD ((49 * p) + c) dX8_encloses_132 (rfl) (by omega) rfl ?_
                  refine G.eqs mdl_uu ?_
                  refine g_iinc (n := 136) (ll1 := [some (.ref M), some (.int (nI p)), some (.long (((outF (ar 5) (w * h) p) &&& (y ^^^ (-1))) &&& (rgn w h (outF (ar 5) (w * h) p) m ^^^ (-1)))), none, some (.long (edgF w h)), none, some (.long (rgn w h (outF (ar 5) (w * h) p) m)), none, some (.int (nI (enM w h (rgn w h (outF (ar 5) (w * h) p) m)))), some (.int (nI (c + 1)))]) hC dX8_encloses_133 rfl (nI_inc _) rfl ?_
                  refine g_goto (n := 91) hC dX8_encloses_136 ?_
                  refine G.eqs (show _ = mdl K M sc (va_up ar 20 (encB (ar 20) (encF w h (outF (ar 5) (w * h) p) y (rgn w h (outF (ar 5) (w * h) p) m) (c + 1)) p)) σ0 from (by rw [encB_up (by omega)]; first | rw [encF_t (by omega) (by omega) hX hyc hmX hmy ((sa1_1 (by omega) _).mp h121)] | rw [encF_f (by have := fun q => h121 ((sa1_1 (by omega) _).mpr q); simpa using this)])) ?_
                  exact ih91 (c + 1) (by omega) _ (by first | rfl | (simp [*]; done)) (by omega)
                ·
                  refine g_iload (n := 127) hC rfl dX8_encloses_125 ?_
                  refine g_goto (n := 131) hC dX8_encloses_127 ?_
                  refine g_iaddN (n := 132) hC dX8_encloses_131 ?_
                  refine m_st20 (f := (encB (ar 20) (encF w h (outF (ar 5) (w * h) p) y (rgn w h (outF (ar 5) (w * h) p) m) c) p)) (n := 133) hC hD ((49 * p) + c) dX8_encloses_132 (rfl) (by omega) rfl ?_
                  refine G.eqs mdl_uu ?_
                  refine g_iinc (n := 136) (ll1 := [some (.ref M), some (.int (nI p)), some (.long (((outF (ar 5) (w * h) p) &&& (y ^^^ (-1))) &&& (rgn w h (outF (ar 5) (w * h) p) m ^^^ (-1)))), none, some (.long (edgF w h)), none, some (.long (rgn w h (outF (ar 5) (w * h) p) m)), none, some (.int (nI (enM w h (rgn w h (outF (ar 5) (w * h) p) m)))), some (.int (nI (c + 1)))]) hC dX8_encloses_133 rfl (nI_inc _) rfl ?_
                  refine g_goto (n := 91) hC dX8_encloses_136 ?_
                  refine G.eqs (show _ = mdl K M sc (va_up ar 20 (encB (ar 20) (encF w h (outF (ar 5) (w * h) p) y (rgn w h (outF (ar 5) (w * h) p) m) (c + 1)) p)) σ0 from (by rw [encB_up (by omega)]; first | rw [encF_t (by omega) (by omega) hX hyc hmX hmy ((sa1_1 (by omega) _).mp h121)] | rw [encF_f (by have := fun q => h121 ((sa1_1 (by omega) _).mpr q); simpa using this)])) ?_
                  exact ih91 (c + 1) (by omega) _ (by first | rfl | (simp [*]; done)) (by omega)
          refine G.eqs (show _ = mdl K M sc (va_up ar 20 (encB (ar 20) (encF w h (outF (ar 5) (w * h) p) y (rgn w h (outF (ar 5) (w * h) p) m) 0) p)) σ0 from (by rw [encF_0])) ?_
          exact lp91 _ 0 (by omega) _ (by first | rfl | (simp [*]; done)) (Nat.lt_succ_self _)
        refine g_lload (n := 69) hC rfl dX8_encloses_67 ?_
        refine g_lload (n := 71) hC rfl dX8_encloses_69 ?_
        refine g_land (n := 72) hC dX8_encloses_71 ?_
        refine g_lconst (n := 73) (v := 0) hC (by decide) dX8_encloses_72 ?_
        refine g_lcmp_ne (n := 77) (tgt := 85) hC dX8_encloses_73 dX8_encloses_74 (fun h73 => ?_) (fun h73 => ?_)
        ·
          refine g_iconst (n := 86) (v := (nI 0)) hC (by decide) dX8_encloses_85 ?_
          exact lp86  _ (by first | (rw [enM, if_pos h73]; done) | (rw [enM, if_neg h73]; done))
        ·
          refine g_lload (n := 79) hC rfl dX8_encloses_77 ?_
          refine g_cS (n := 82) hC gs_X8_125 (M_size K hD) dX8_encloses_79 ?_
          refine g_goto (n := 86) hC dX8_encloses_82 ?_
          exact lp86  _ (by first | (rw [enM, if_pos h73]; done) | (rw [enM, if_neg h73]; done))
  refine g_aload_n (n := 1) hC rfl dX8_encloses_0 ?_
  refine g_iload_n (n := 2) hC rfl dX8_encloses_1 ?_
  refine g_cV (n := 5) hC gv_X8_111 (hD 0 (by decide)) mdl_0 (M_outside K hD hB (p := p) (by omega)) dX8_encloses_2 ?_
  refine g_lstore_n (n := 6) (ll1 := [some (.ref M), some (.int (nI p)), some (.long (outF (ar 5) (w * h) p)), none, none, none, none, none, none, none]) hC dX8_encloses_5 rfl ?_
  refine g_aload_n (n := 7) hC rfl dX8_encloses_6 ?_
  refine g_cV (n := 10) hC gv_X8_114 (hD 0 (by decide)) mdl_0 (M_edge K hD hB) dX8_encloses_7 ?_
  refine g_lstore (n := 12) (ll1 := [some (.ref M), some (.int (nI p)), some (.long (outF (ar 5) (w * h) p)), none, some (.long (edgF w h)), none, none, none, none, none]) hC dX8_encloses_10 rfl ?_
  refine g_iconst (n := 13) (v := (nI 0)) hC (by decide) dX8_encloses_12 ?_
  refine g_istore (n := 15) (ll1 := [some (.ref M), some (.int (nI p)), some (.long (outF (ar 5) (w * h) p)), none, some (.long (edgF w h)), none, some (.int (nI 0)), none, none, none]) hC dX8_encloses_13 rfl ?_
  have lp15 : ∀ (n9 : Nat) (c : Nat) (hc : c ≤ 49) (y6 : Int32) (ey6 : y6 = (nI c)) (hm9 : 49 - c < n9), G K Γ (z, 0, 0, L) (mdl K M sc (va_up ar 20 (zrB (ar 20) p c)) σ0) 15 [some (.ref M), some (.int (nI p)), some (.long (outF (ar 5) (w * h) p)), none, some (.long (edgF w h)), none, some (.int y6), none, none, none] [] := by
    intro n9
    induction n9 with
    | zero =>
      intro c hc y6 ey6 hm9
      exact absurd hm9 (Nat.not_lt_zero _)
    | succ n9 ih15 =>
      intro c hc y6 ey6 hm9
      subst ey6
      refine g_iload (n := 17) hC rfl dX8_encloses_15 ?_
      refine g_bipush (n := 19) (v := (nI 49)) hC (by decide) dX8_encloses_17 ?_
      refine g_icmp_geN (n := 22) (tgt := 41) hC (by omega) (by omega) dX8_encloses_19 (fun h19 => ?_) (fun h19 => ?_)
      ·
        refine G.eqs (show _ = mdl K M sc (va_up ar 20 (encB (ar 20) (encE w h (outF (ar 5) (w * h) p) 0) p)) σ0 from (by rw [show c = 49 by omega, zrB_enc])) ?_
        exact G.le (lp41 _ 0 (by first | exact clo_0 | exact clo_or (by omega) (by omega) hX hyc hmX) _ (by first | exact and_not0 _ | exact and_not2 _ _ _) (Nat.lt_succ_self _)) (And.intro rfl (And.intro rfl (And.intro rfl (And.intro rfl (trivial)))))
      ·
        refine g_aload_n (n := 23) hC rfl dX8_encloses_22 ?_
        refine m_get (v := .ref (M + 13)) (n := 26) hC hD gf_X8_53 dX8_encloses_23 rfl ?_
        refine g_bipush (n := 28) (v := (nI 49)) hC (by decide) dX8_encloses_26 ?_
        refine g_iload_n (n := 29) hC rfl dX8_encloses_28 ?_
        refine g_imulN (n := 30) hC dX8_encloses_29 ?_
        refine g_iload (n := 32) hC rfl dX8_encloses_30 ?_
        refine g_iaddN (n := 33) hC dX8_encloses_32 ?_
        refine g_iconst (n := 34) (v := (nI 0)) hC (by decide) dX8_encloses_33 ?_
        refine m_st20 (f := (zrB (ar 20) p c)) (n := 35) hC hD ((49 * p) + c) dX8_encloses_34 (rfl) (by omega) rfl ?_
        refine G.eqs mdl_uu ?_
        refine g_iinc (n := 38) (ll1 := [some (.ref M), some (.int (nI p)), some (.long (outF (ar 5) (w * h) p)), none, some (.long (edgF w h)), none, some (.int (nI (c + 1))), none, none, none]) hC dX8_encloses_35 rfl (nI_inc _) rfl ?_
        refine g_goto (n := 15) hC dX8_encloses_38 ?_
        refine G.eqs (show _ = mdl K M sc (va_up ar 20 (zrB (ar 20) p (c + 1))) σ0 from (by rw [zrB_st])) ?_
        exact ih15 (c + 1) (by omega) _ (by first | rfl | (simp [*]; done)) (by omega)
  refine G.eqs (show _ = mdl K M sc (va_up ar 20 (zrB (ar 20) p 0)) σ0 from (congrArg (fun q => mdl K M sc q σ0) (funext fun k => by rw [zrB_0]; by_cases e : k = 20 <;> simp [va_up, e]))) ?_
  exact lp15 _ 0 (by omega) _ (by first | rfl | (simp [*]; done)) (Nat.lt_succ_self _)

set_option maxRecDepth 20000 in
set_option maxHeartbeats 1000000 in
theorem M_wave (K : GK) {M : Nat} {sc : Nat → Int32} {ar : Nat → Nat → Int32} {σ0 : GS} {L : List Nat} {z : Nat} (hD : mdom M L) {w h : Nat} (hB : mB sc w h) {k : Nat} : gT K yX8_wave cX8_wave 7 (some .int) 5 [.ref M, .int (nI k)] z L (mdl K M sc ar σ0) (some (.int (nI (wnm w h (ar 5))))) (mdl K M sc (va_up (va_up ar 20 (wen w h (ar 5) (ar 20))) 5 (wst w h k (ar 5))) σ0) := by
  obtain ⟨hw, hh, hw1, hw2, hh1, hh2⟩ := id hB
  have hn : w * h ≤ 49 := Nat.mul_le_mul hw2 hh2
  have hn1 : 16 ≤ w * h := Nat.mul_le_mul hw1 hh1
  refine g_intro [some (.ref M), some (.int (nI k)), none, none, none, none, none] (fun Γ hC => ?_) (by simp [g_en, lv_args, Value.category])
  refine g_aload_n (n := 1) hC rfl dX8_wave_0 ?_
  refine g_iconst (n := 2) (v := (nI 0)) hC (by decide) dX8_wave_1 ?_
  refine g_cVv (n := 5) hC gv_X8_128 (hD 0 (by decide)) mdl_0 (M_encloses K hD hB (p := 0) (by omega)) dX8_wave_2 ?_
  refine G.eqs (show _ = mdl K M sc (va_up ar 20 (encB (ar 20) (encV w h (outF (ar 5) (w * h) 0)) 0)) σ0 from rfl) ?_
  refine g_aload_n (n := 6) hC rfl dX8_wave_5 ?_
  refine g_iconst (n := 7) (v := (nI 1)) hC (by decide) dX8_wave_6 ?_
  refine g_cVv (n := 10) hC gv_X8_128 (hD 0 (by decide)) mdl_0 (M_encloses K hD hB (p := 1) (by omega)) dX8_wave_7 ?_
  refine G.eqs mdl_uu ?_
  refine G.eqs (show _ = mdl K M sc (va_up ar 20 (encB (encB (ar 20) (encV w h (outF (ar 5) (w * h) 0)) 0) (encV w h (outF ((va_up ar 20 (encB (ar 20) (encV w h (outF (ar 5) (w * h) 0)) 0)) 5) (w * h) 1)) 1)) σ0 from rfl) ?_
  refine g_iconst (n := 11) (v := (nI 0)) hC (by decide) dX8_wave_10 ?_
  refine g_istore_n (n := 12) (ll1 := [some (.ref M), some (.int (nI k)), some (.int (nI 0)), none, none, none, none]) hC dX8_wave_11 rfl ?_
  refine g_iconst (n := 13) (v := (nI 0)) hC (by decide) dX8_wave_12 ?_
  refine g_istore_n (n := 14) (ll1 := [some (.ref M), some (.int (nI k)), some (.int (nI 0)), some (.int (nI 0)), none, none, none]) hC dX8_wave_13 rfl ?_
  have lp14 : ∀ (n9 : Nat) (c : Nat) (hc : c ≤ w * h) (y2 : Int32) (ey2 : y2 = (nI (wvN (wA w h (ar 5)) (wB w h (ar 5)) c))) (y3 : Int32) (ey3 : y3 = (nI c)) (hm9 : w * h - c < n9), G K Γ (z, 0, 0, L) (mdl K M sc (va_up (va_up ar 20 (wen w h (ar 5) (ar 20))) 5 (wvF (wA w h (ar 5)) (wB w h (ar 5)) (nI k) (ar 5) c)) σ0) 14 [some (.ref M), some (.int (nI k)), some (.int y2), some (.int y3), none, none, none] [] := by
    intro n9
    induction n9 with
    | zero =>
      intro c hc y2 ey2 y3 ey3 hm9
      exact absurd hm9 (Nat.not_lt_zero _)
    | succ n9 ih14 =>
      intro c hc y2 ey2 y3 ey3 hm9
      subst ey2
      subst ey3
      have hac : wA w h (ar 5) c ≤ 49 := wA_le
      have hbc : wB w h (ar 5) c ≤ 49 := wB_le
      have hnc : wvN (wA w h (ar 5)) (wB w h (ar 5)) c ≤ c := wvN_le
      refine g_iload_n (n := 15) hC rfl dX8_wave_14 ?_
      refine g_aload_n (n := 16) hC rfl dX8_wave_15 ?_
      refine g_cV (n := 19) hC gv_X8_76 (hD 0 (by decide)) mdl_0 (M_cells K hD hB) dX8_wave_16 ?_
      refine g_icmp_geN (n := 22) (tgt := 116) hC (by omega) (by omega) dX8_wave_19 (fun h19 => ?_) (fun h19 => ?_)
      ·
        refine g_iload_n (n := 117) hC rfl dX8_wave_116 ?_
        exact g_iret hC dX8_wave_117 (⟨rI (by rw [show c = w * h by omega]; rfl), rfl, rfl, (by rw [show c = w * h by omega]; rfl)⟩)
      ·
        refine g_aload_n (n := 23) hC rfl dX8_wave_22 ?_
        refine m_get (v := .ref (M + 13)) (n := 26) hC hD gf_X8_53 dX8_wave_23 rfl ?_
        refine g_iload_n (n := 27) hC rfl dX8_wave_26 ?_
        refine m_ld20 (x := (nI (wA w h (ar 5) c))) (n := 28) hC hD c dX8_wave_27 (rfl) (by omega) (wen_a (by omega)) ?_
        refine g_istore (n := 30) (ll1 := [some (.ref M), some (.int (nI k)), some (.int (nI (wvN (wA w h (ar 5)) (wB w h (ar 5)) c))), some (.int (nI c)), some (.int (nI (wA w h (ar 5) c))), none, none]) hC dX8_wave_28 rfl ?_
        refine g_aload_n (n := 31) hC rfl dX8_wave_30 ?_
        refine m_get (v := .ref (M + 13)) (n := 34) hC hD gf_X8_53 dX8_wave_31 rfl ?_
        refine g_bipush (n := 36) (v := (nI 49)) hC (by decide) dX8_wave_34 ?_
        refine g_iload_n (n := 37) hC rfl dX8_wave_36 ?_
        refine g_iaddN (n := 38) hC dX8_wave_37 ?_
        refine m_ld20 (x := (nI (wB w h (ar 5) c))) (n := 39) hC hD (49 + c) dX8_wave_38 (rfl) (by omega) (wen_b (by omega)) ?_
        refine g_istore (n := 41) (ll1 := [some (.ref M), some (.int (nI k)), some (.int (nI (wvN (wA w h (ar 5)) (wB w h (ar 5)) c))), some (.int (nI c)), some (.int (nI (wA w h (ar 5) c))), some (.int (nI (wB w h (ar 5) c))), none]) hC dX8_wave_39 rfl ?_
        refine g_iload (n := 43) hC rfl dX8_wave_41 ?_
        refine g_iload (n := 45) hC rfl dX8_wave_43 ?_
        refine g_icmp_neN (n := 48) (tgt := 51) hC (by omega) (by omega) dX8_wave_45 (fun h45 => ?_) (fun h45 => ?_)
        ·
          have lp63 : ∀ (p : Nat) (hp : p ≤ 1) (hpv : p = if wB w h (ar 5) c < wA w h (ar 5) c then 0 else 1) (ys0 : Int32) (eys0 : ys0 = (nI p)), G K Γ (z, 0, 0, L) (mdl K M sc (va_up (va_up ar 20 (wen w h (ar 5) (ar 20))) 5 (wvF (wA w h (ar 5)) (wB w h (ar 5)) (nI k) (ar 5) c)) σ0) 63 [some (.ref M), some (.int (nI k)), some (.int (nI (wvN (wA w h (ar 5)) (wB w h (ar 5)) c))), some (.int (nI c)), none, none, none] [.int ys0] := by
            intro p hp hpv ys0 eys0
            subst eys0
            refine g_istore (n := 65) (ll1 := [some (.ref M), some (.int (nI k)), some (.int (nI (wvN (wA w h (ar 5)) (wB w h (ar 5)) c))), some (.int (nI c)), none, none, some (.int (nI p))]) hC dX8_wave_63 rfl ?_
            refine g_aload_n (n := 66) hC rfl dX8_wave_65 ?_
            refine m_get (v := .ref (M + 2)) (n := 69) hC hD gf_X8_20 dX8_wave_66 rfl ?_
            refine g_sipush (n := 72) (v := (nI 147)) hC (by decide) dX8_wave_69 ?_
            refine g_iload (n := 74) hC rfl dX8_wave_72 ?_
            refine g_iaddN (n := 75) hC dX8_wave_74 ?_
            refine g_dup2 (n := 76) hC rfl rfl dX8_wave_75 ?_
            refine m_ld5 (x := ((wvF (wA w h (ar 5)) (wB w h (ar 5)) (nI k) (ar 5) c) (147 + p))) (n := 77) hC hD (147 + p) dX8_wave_76 (rfl) (by omega) (rfl) ?_
            refine g_aload_n (n := 78) hC rfl dX8_wave_77 ?_
            refine m_get (v := .ref (M + 2)) (n := 81) hC hD gf_X8_20 dX8_wave_78 rfl ?_
            refine g_iload_n (n := 82) hC rfl dX8_wave_81 ?_
            refine m_ld5 (x := ((wvF (wA w h (ar 5)) (wB w h (ar 5)) (nI k) (ar 5) c) c)) (n := 83) hC hD c dX8_wave_82 (rfl) (by omega) (rfl) ?_
            refine g_iconst (n := 84) (v := (nI 2)) hC (by decide) dX8_wave_83 ?_
            refine g_iload (n := 86) hC rfl dX8_wave_84 ?_
            refine g_isubN (n := 87) hC (by omega) dX8_wave_86 ?_
            refine g_icmp_ne (n := 90) (tgt := 94) hC dX8_wave_87 (fun h87 => ?_) (fun h87 => ?_)
            ·
              refine g_iconst (n := 95) (v := (nI 0)) hC (by decide) dX8_wave_94 ?_
              refine g_iadd (n := 96) hC dX8_wave_95 ?_
              refine m_st5 (f := (wvF (wA w h (ar 5)) (wB w h (ar 5)) (nI k) (ar 5) c)) (n := 97) hC hD (147 + p) dX8_wave_96 (rfl) (by omega) rfl ?_
              refine G.eqs mdl_uu ?_
              refine g_aload_n (n := 98) hC rfl dX8_wave_97 ?_
              refine g_iload_n (n := 99) hC rfl dX8_wave_98 ?_
              refine g_iconst (n := 100) (v := (nI 3)) hC (by decide) dX8_wave_99 ?_
              refine g_iload (n := 102) hC rfl dX8_wave_100 ?_
              refine g_iaddN (n := 103) hC dX8_wave_102 ?_
              refine g_iload_n (n := 104) hC rfl dX8_wave_103 ?_
              refine g_cVv (n := 107) hC gv_X8_131 (hD 0 (by decide)) mdl_0 (M_becomes K hD hB (c := c) (by omega)) dX8_wave_104 ?_
              refine G.eqs mdl_uu ?_
              refine G.eqs (show _ = mdl K M sc (va_up (va_up ar 20 (wen w h (ar 5) (ar 20))) 5 (becF (va_up (wvF (wA w h (ar 5)) (wB w h (ar 5)) (nI k) (ar 5) c) (147 + p) (((wvF (wA w h (ar 5)) (wB w h (ar 5)) (nI k) (ar 5) c) (147 + p)) + (nI 0))) c (nI (3 + p)) (nI k))) σ0 from rfl) ?_
              refine g_iinc (n := 110) (ll1 := [some (.ref M), some (.int (nI k)), some (.int (nI ((wvN (wA w h (ar 5)) (wB w h (ar 5)) c) + 1))), some (.int (nI c)), none, none, some (.int (nI p))]) hC dX8_wave_107 rfl (nI_inc _) rfl ?_
              refine g_iinc (n := 113) (ll1 := [some (.ref M), some (.int (nI k)), some (.int (nI ((wvN (wA w h (ar 5)) (wB w h (ar 5)) c) + 1))), some (.int (nI (c + 1))), none, none, some (.int (nI p))]) hC dX8_wave_110 rfl (nI_inc _) rfl ?_
              refine g_goto (n := 14) hC dX8_wave_113 ?_
              refine G.eqs (show _ = mdl K M sc (va_up (va_up ar 20 (wen w h (ar 5) (ar 20))) 5 (wvF (wA w h (ar 5)) (wB w h (ar 5)) (nI k) (ar 5) (c + 1))) σ0 from (by first | rw [← wvF_eq h45] | (rw [← wvF_ne h45 hpv, wvC]; first | rw [if_pos h87] | rw [if_neg h87]))) ?_
              exact G.le (ih14 (c + 1) (by omega) _ (by first | rfl | (rw [wvN_eq h45]; done) | (rw [wvN_ne h45]; done)) _ (by first | rfl | (rw [wvN_eq h45]; done) | (rw [wvN_ne h45]; done)) (by omega)) (And.intro rfl (And.intro rfl (And.intro rfl (And.intro rfl (trivial)))))
            ·
              refine g_iconst (n := 91) (v := (nI 1)) hC (by decide) dX8_wave_90 ?_
              refine g_goto (n := 95) hC dX8_wave_91 ?_
              refine g_iadd (n := 96) hC dX8_wave_95 ?_
              refine m_st5 (f := (wvF (wA w h (ar 5)) (wB w h (ar 5)) (nI k) (ar 5) c)) (n := 97) hC hD (147 + p) dX8_wave_96 (rfl) (by omega) rfl ?_
              refine G.eqs mdl_uu ?_
              refine g_aload_n (n := 98) hC rfl dX8_wave_97 ?_
              refine g_iload_n (n := 99) hC rfl dX8_wave_98 ?_
              refine g_iconst (n := 100) (v := (nI 3)) hC (by decide) dX8_wave_99 ?_
              refine g_iload (n := 102) hC rfl dX8_wave_100 ?_
              refine g_iaddN (n := 103) hC dX8_wave_102 ?_
              refine g_iload_n (n := 104) hC rfl dX8_wave_103 ?_
              refine g_cVv (n := 107) hC gv_X8_131 (hD 0 (by decide)) mdl_0 (M_becomes K hD hB (c := c) (by omega)) dX8_wave_104 ?_
              refine G.eqs mdl_uu ?_
              refine G.eqs (show _ = mdl K M sc (va_up (va_up ar 20 (wen w h (ar 5) (ar 20))) 5 (becF (va_up (wvF (wA w h (ar 5)) (wB w h (ar 5)) (nI k) (ar 5) c) (147 + p) (((wvF (wA w h (ar 5)) (wB w h (ar 5)) (nI k) (ar 5) c) (147 + p)) + (nI 1))) c (nI (3 + p)) (nI k))) σ0 from rfl) ?_
              refine g_iinc (n := 110) (ll1 := [some (.ref M), some (.int (nI k)), some (.int (nI ((wvN (wA w h (ar 5)) (wB w h (ar 5)) c) + 1))), some (.int (nI c)), none, none, some (.int (nI p))]) hC dX8_wave_107 rfl (nI_inc _) rfl ?_
              refine g_iinc (n := 113) (ll1 := [some (.ref M), some (.int (nI k)), some (.int (nI ((wvN (wA w h (ar 5)) (wB w h (ar 5)) c) + 1))), some (.int (nI (c + 1))), none, none, some (.int (nI p))]) hC dX8_wave_110 rfl (nI_inc _) rfl ?_
              refine g_goto (n := 14) hC dX8_wave_113 ?_
              refine G.eqs (show _ = mdl K M sc (va_up (va_up ar 20 (wen w h (ar 5) (ar 20))) 5 (wvF (wA w h (ar 5)) (wB w h (ar 5)) (nI k) (ar 5) (c + 1))) σ0 from (by first | rw [← wvF_eq h45] | (rw [← wvF_ne h45 hpv, wvC]; first | rw [if_pos h87] | rw [if_neg h87]))) ?_
              exact G.le (ih14 (c + 1) (by omega) _ (by first | rfl | (rw [wvN_eq h45]; done) | (rw [wvN_ne h45]; done)) _ (by first | rfl | (rw [wvN_eq h45]; done) | (rw [wvN_ne h45]; done)) (by omega)) (And.intro rfl (And.intro rfl (And.intro rfl (And.intro rfl (trivial)))))
          refine g_iload (n := 53) hC rfl dX8_wave_51 ?_
          refine g_iload (n := 55) hC rfl dX8_wave_53 ?_
          refine g_icmp_leN (n := 58) (tgt := 62) hC (by omega) (by omega) dX8_wave_55 (fun h55 => ?_) (fun h55 => ?_)
          ·
            refine g_iconst (n := 63) (v := (nI 1)) hC (by decide) dX8_wave_62 ?_
            exact G.le (lp63 1 (by omega) (by first | exact (if_pos h55).symm | exact (if_neg (Nat.not_lt.mpr h55)).symm) _ (by first | rfl | (simp [*]; done))) (And.intro rfl (And.intro rfl (And.intro rfl (And.intro rfl (trivial)))))
          ·
            refine g_iconst (n := 59) (v := (nI 0)) hC (by decide) dX8_wave_58 ?_
            refine g_goto (n := 63) hC dX8_wave_59 ?_
            exact G.le (lp63 0 (by omega) (by first | exact (if_pos h55).symm | exact (if_neg (Nat.not_lt.mpr h55)).symm) _ (by first | rfl | (simp [*]; done))) (And.intro rfl (And.intro rfl (And.intro rfl (And.intro rfl (trivial)))))
        ·
          refine g_goto (n := 110) hC dX8_wave_48 ?_
          refine g_iinc (n := 113) (ll1 := [some (.ref M), some (.int (nI k)), some (.int (nI (wvN (wA w h (ar 5)) (wB w h (ar 5)) c))), some (.int (nI (c + 1))), some (.int (nI (wA w h (ar 5) c))), some (.int (nI (wB w h (ar 5) c))), none]) hC dX8_wave_110 rfl (nI_inc _) rfl ?_
          refine g_goto (n := 14) hC dX8_wave_113 ?_
          refine G.eqs (show _ = mdl K M sc (va_up (va_up ar 20 (wen w h (ar 5) (ar 20))) 5 (wvF (wA w h (ar 5)) (wB w h (ar 5)) (nI k) (ar 5) (c + 1))) σ0 from (by first | rw [← wvF_eq h45] | (rw [← wvF_ne h45 hpv, wvC]; first | rw [if_pos h87] | rw [if_neg h87]))) ?_
          exact G.le (ih14 (c + 1) (by omega) _ (by first | rfl | (rw [wvN_eq h45]; done) | (rw [wvN_ne h45]; done)) _ (by first | rfl | (rw [wvN_eq h45]; done) | (rw [wvN_ne h45]; done)) (by omega)) (And.intro rfl (And.intro rfl (And.intro rfl (And.intro rfl (trivial)))))
  refine G.eqs (show _ = mdl K M sc (va_up (va_up ar 20 (wen w h (ar 5) (ar 20))) 5 (wvF (wA w h (ar 5)) (wB w h (ar 5)) (nI k) (ar 5) 0)) σ0 from (congrArg (fun q => mdl K M sc q σ0) (funext fun i => by by_cases e : i = 5 <;> simp [va_up, e, wvF] <;> rfl))) ?_
  exact lp14 _ 0 (by omega) _ (by first | rfl | (rw [wvN_eq h45]; done) | (rw [wvN_ne h45]; done)) _ (by first | rfl | (rw [wvN_eq h45]; done) | (rw [wvN_ne h45]; done)) (Nat.lt_succ_self _)
