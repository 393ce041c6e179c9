set_option maxRecDepth 20000 in
set_option maxHeartbeats 1000000 in
theorem M_encloses (K : GK) {M : Nat} {sc : Nat → Int32} {ar : Nat → Nat → Int32} {σ0 : GS} {L : List Nat} {z : Nat} (hD : mdom M L) {w h : Nat} (hB : mB sc w h) {p : Nat} (hp : p ≤ 1) : gT K yX8_encloses cX8_encloses 10 none 4 [.ref M, .int (nI p)] z L (mdl K M sc ar σ0) none (mdl K M sc (va_up ar 20 (encB (ar 20) (encV w h (outF (ar 5) (w * h) p)) p)) σ0) := by
  obtain ⟨hw, hh, hw1, hw2, hh1, hh2⟩ := id hB
  have hn : w * h ≤ 49 := Nat.mul_le_mul hw2 hh2
  have hn1 : 16 ≤ w * h := Nat.mul_le_mul hw1 hh1
  have hX : ∀ i, tb (outF (ar 5) (w * h) p) i = true → i < w * h := fun i hi => outF_lt (by omega) hi
  refine g_intro [some (.ref M), some (.int (nI p)), none, none, none, none, none, none, none, none] (fun Γ hC => ?_) (by simp [g_en, lv_args, Value.category])
  have lp41 : ∀ (n9 : Nat) (y : Int64) (hyc : clo w (outF (ar 5) (w * h) p) y) (y2 : Int64) (ey2 : y2 = ((outF (ar 5) (w * h) p) &&& (y ^^^ (-1)))) (hm9 : w * h - ct (tb y) (w * h) < n9), G K Γ (z, 0, 0, L) (mdl K M sc (va_up ar 20 (encB (ar 20) (encE w h (outF (ar 5) (w * h) p) y) p)) σ0) 41 [some (.ref M), some (.int (nI p)), some (.long y2), none, some (.long (edgF w h)), none, none, none, none, none] [] := by
    intro n9
    induction n9 with
    | zero =>
      intro y hyc y2 ey2 hm9
      exact absurd hm9 (Nat.not_lt_zero _)
    | succ n9 ih41 =>
      intro y hyc y2 ey2 hm9
      subst ey2
      refine g_lload_n (n := 42) hC rfl dX8_encloses_41 ?_
      refine g_lconst (n := 43) (v := 0) hC (by decide) dX8_encloses_42 ?_
      refine g_lcmp_eq (n := 47) (tgt := 142) hC dX8_encloses_43 dX8_encloses_44 (fun h43 => ?_) (fun h43 => ?_)
      ·
        exact g_vret hC dX8_encloses_142 (⟨rfl, rfl, rfl, (by rw [encE_x h43])⟩)
      ·
        obtain ⟨m, hm, hl⟩ := low_ex h43
        obtain ⟨hmX, hmy⟩ := tb_less.mp hm
        have hXy : ∀ i, tb ((outF (ar 5) (w * h) p) &&& (y ^^^ (-1))) i = true → i < w * h := fun i hi => hX i (tb_less.mp hi).1
        have hmn : m < w * h := hX m hmX
        refine g_aload_n (n := 48) hC rfl dX8_encloses_47 ?_
        refine g_lload_n (n := 49) hC rfl dX8_encloses_48 ?_
        refine g_lload_n (n := 50) hC rfl dX8_encloses_49 ?_
        refine g_cS (n := 53) hC gs_X8_117 (M_lowest K hD hm hl) dX8_encloses_50 ?_
        refine g_cV (n := 56) hC gv_X8_121 (hD 0 (by decide)) mdl_0 (M_connected K hD hB hXy hm) dX8_encloses_53 ?_
        refine G.eql (rgn_less (by omega) (by omega) hX hyc.2 hmX hmy) ?_
        refine g_lstore (n := 58) (ll1 := [some (.ref M), some (.int (nI p)), some (.long ((outF (ar 5) (w * h) p) &&& (y ^^^ (-1)))), none, some (.long (edgF w h)), none, some (.long (rgn w h (outF (ar 5) (w * h) p) m)), none, none, none]) hC dX8_encloses_56 rfl ?_
        refine g_lload_n (n := 59) hC rfl dX8_encloses_58 ?_
        refine g_lload (n := 61) hC rfl dX8_encloses_59 ?_
        refine g_ldc2 (n := 64) hC gc_X8_95 dX8_encloses_61 ?_
        refine g_lxor (n := 65) hC dX8_encloses_64 ?_
        refine g_land (n := 66) hC dX8_encloses_65 ?_
        refine g_lstore_n (n := 67) (ll1 := [some (.ref M), some (.int (nI p)), some (.long (((outF (ar 5) (w * h) p) &&& (y ^^^ (-1))) &&& ((rgn w h (outF (ar 5) (w * h) p) m) ^^^ (-1)))), none, some (.long (edgF w h)), none, some (.long (rgn w h (outF (ar 5) (w * h) p) m)), none, none, none]) hC dX8_encloses_66 rfl ?_
        have lp86 : ∀ (ys0 : Int32) (eys0 : ys0 = (nI (enM w h (rgn w h (outF (ar 5) (w * h) p) m)))), G K Γ (z, 0, 0, L) (mdl K M sc (va_up ar 20 (encB (ar 20) (encE w h (outF (ar 5) (w * h) p) y) p)) σ0) 86 [some (.ref M), some (.int (nI p)), some (.long (((outF (ar 5) (w * h) p) &&& (y ^^^ (-1))) &&& (rgn w h (outF (ar 5) (w * h) p) m ^^^ (-1)))), none, some (.long (edgF w h)), none, some (.long (rgn w h (outF (ar 5) (w * h) p) m)), none, none, none] [.int ys0] := by
          intro ys0 eys0
          subst eys0
          refine g_istore (n := 88) (ll1 := [some (.ref M), some (.int (nI p)), some (.long (((outF (ar 5) (w * h) p) &&& (y ^^^ (-1))) &&& (rgn w h (outF (ar 5) (w * h) p) m ^^^ (-1)))), none, some (.long (edgF w h)), none, some (.long (rgn w h (outF (ar 5) (w * h) p) m)), none, some (.int (nI (enM w h (rgn w h (outF (ar 5) (w * h) p) m)))), none]) hC dX8_encloses_86 rfl ?_
          refine g_iconst (n := 89) (v := (nI 0)) hC (by decide) dX8_encloses_88 ?_
          refine g_istore (n := 91) (ll1 := [some (.ref M), some (.int (nI p)), some (.long (((outF (ar 5) (w * h) p) &&& (y ^^^ (-1))) &&& (rgn w h (outF (ar 5) (w * h) p) m ^^^ (-1)))), none, some (.long (edgF w h)), none, some (.long (rgn w h (outF (ar 5) (w * h) p) m)), none, some (.int (nI (enM w h (rgn w h (outF (ar 5) (w * h) p) m)))), some (.int (nI 0))]) hC dX8_encloses_89 rfl ?_
          have lp91 : ∀ (n9 : Nat) (c : Nat) (hc : c ≤ w * h) (y9 : Int32) (ey9 : y9 = (nI c)) (hm9 : w * h - c < n9), G K Γ (z, 0, 0, L) (mdl K M sc (va_up ar 20 (encB (ar 20) (encF w h (outF (ar 5) (w * h) p) y (rgn w h (outF (ar 5) (w * h) p) m) c) p)) σ0) 91 [some (.ref M), some (.int (nI p)), some (.long (((outF (ar 5) (w * h) p) &&& (y ^^^ (-1))) &&& (rgn w h (outF (ar 5) (w * h) p) m ^^^ (-1)))), none, some (.long (edgF w h)), none, some (.long (rgn w h (outF (ar 5) (w * h) p) m)), none, some (.int (nI (enM w h (rgn w h (outF (ar 5) (w * h) p) m)))), some (.int y9)] [] := by
            intro n9
            induction n9 with
            | zero =>
              intro c hc y9 ey9 hm9
              exact absurd hm9 (Nat.not_lt_zero _)
            | succ n9 ih91 =>
              intro c hc y9 ey9 hm9
              subst ey9
              refine g_iload (n := 93) hC rfl dX8_encloses_91 ?_
              refine g_aload_n (n := 94) hC rfl dX8_encloses_93 ?_
              refine g_cV (n := 97) hC gv_X8_76 (hD 0 (by decide)) mdl_0 (M_cells K hD hB) dX8_encloses_94 ?_
              refine g_icmp_geN (n := 100) (tgt := 139) hC (by omega) (by omega) dX8_encloses_97 (fun h97 => ?_) (fun h97 => ?_)
              ·
                refine g_goto (n := 41) hC dX8_encloses_139 ?_
                refine G.eqs (show _ = mdl K M sc (va_up ar 20 (encB (ar 20) (encE w h (outF (ar 5) (w * h) p) (y ||| rgn w h (outF (ar 5) (w * h) p) m)) p)) σ0 from (by rw [show c = w * h by omega, encF_n hX hyc.1 (fun i hi => comp_in hmX ((tb_rgn (by omega) (by omega) hX hmX i).mp hi))])) ?_
                exact G.le (ih41 (y ||| rgn w h (outF (ar 5) (w * h) p) m) (by first | exact clo_0 | exact clo_or (by omega) (by omega) hX hyc hmX) _ (by first | exact and_not0 _ | exact and_not2 _ _ _) (by have h1 := clo_meas (y := y) (by omega) (by omega) hX hmX hmy; have h2 := ct_le (tb (y ||| rgn w h (outF (ar 5) (w * h) p) m)) (w * h); omega)) (And.intro rfl (And.intro rfl (And.intro rfl (And.intro rfl (trivial)))))
              ·
                refine g_aload_n (n := 101) hC rfl dX8_encloses_100 ?_
                refine m_get (v := .ref (M + 13)) (n := 104) hC hD gf_X8_53 dX8_encloses_101 rfl ?_
                refine g_bipush (n := 106) (v := (nI 49)) hC (by decide) dX8_encloses_104 ?_
                refine g_iload_n (n := 107) hC rfl dX8_encloses_106 ?_
                refine g_imulN (n := 108) hC dX8_encloses_107 ?_
                refine g_iload (n := 110) hC rfl dX8_encloses_108 ?_
                refine g_iaddN (n := 111) hC dX8_encloses_110 ?_
                refine g_dup2 (n := 112) hC rfl rfl dX8_encloses_111 ?_
                refine m_ld20 (x := (nI (encE w h (outF (ar 5) (w * h) p) y c))) (n := 113) hC hD ((49 * p) + c) dX8_encloses_112 (rfl) (by omega) ((by show encB _ _ _ _ = _; rw [encB_at (by omega), encF, if_neg (by omega)])) ?_
                refine g_lload (n := 115) hC rfl dX8_encloses_113 ?_
                refine g_iload (n := 117) hC rfl dX8_encloses_115 ?_
                refine g_lshrN (n := 118) hC (by omega) dX8_encloses_117 ?_
                refine g_lconst (n := 119) (v := 1) hC (by decide) dX8_encloses_118 ?_
                refine g_land (n := 120) hC dX8_encloses_119 ?_
                refine g_lconst (n := 121) (v := 1) hC (by decide) dX8_encloses_120 ?_
                refine g_lcmp_ne (n := 125) (tgt := 130) hC dX8_encloses_121 dX8_encloses_122 (fun h121 => ?_) (fun h121 => ?_)
                ·
                  refine g_iconst (n := 131) (v := (nI 0)) hC (by decide) dX8_encloses_130 ?_
                  refine g_iaddN (n := 132) hC dX8_encloses_131 ?_
                  refine m_st20 (f := (encB (ar 20) (encF w h (outF (ar 5) (w * h) p) y (rgn w h (outF (ar 5) (w * h) p) m) c) p)) (n := 133) hC hD ((49 * p) + c) dX8_encloses_132 (rfl) (by omega) rfl ?_
                  refine G.eqs mdl_uu ?_
                  refine g_iinc (n := 136) (ll1 := [some (.ref M), some (.int (nI p)), some (.long (((outF (ar 5) (w * h) p) &&& (y ^^^ (-1))) &&& (rgn w h (outF (ar 5) (w * h) p) m ^^^ (-1)))), none, some (.long (edgF w h)), none, some (.long (rgn w h (outF (ar 5) (w * h) p) m)), none, some (.int (nI (enM w h (rgn w h (outF (ar 5) (w * h) p) m)))), some (.int (nI (c + 1)))]) hC dX8_encloses_133 rfl (nI_inc _) rfl ?_
                  refine g_goto (n := 91) hC dX8_encloses_136 ?_
                  refine G.eqs (show _ = mdl K M sc (va_up ar 20 (encB (ar 20) (encF w h (outF (ar 5) (w * h) p) y (rgn w h (outF (ar 5) (w * h) p) m) (c + 1)) p)) σ0 from (by rw [encB_up (by omega)]; first | rw [encF_t (by omega) (by omega) hX hyc hmX hmy ((sa1_1 (by omega) _).mp h121)] | rw [encF_f (by have := fun q => h121 ((sa1_1 (by omega) _).mpr q); simpa using this)])) ?_
                  exact ih91 (c + 1) (by omega) _ (by first | rfl | (simp [*]; done)) (by omega)
                ·
                  refine g_iload (n := 127) hC rfl dX8_encloses_125 ?_
                  refine g_goto (n := 131) hC dX8_encloses_127 ?_
                  refine g_iaddN (n := 132) hC dX8_encloses_131 ?_
                  refine m_st20 (f := (encB (ar 20) (encF w h (outF (ar 5) (w * h) p) y (rgn w h (outF (ar 5) (w * h) p) m) c) p)) (n := 133) hC hD ((49 * p) + c) dX8_encloses_132 (rfl) (by omega) rfl ?_
                  refine G.eqs mdl_uu ?_
                  refine g_iinc (n := 136) (ll1 := [some (.ref M), some (.int (nI p)), some (.long (((outF (ar 5) (w * h) p) &&& (y ^^^ (-1))) &&& (rgn w h (outF (ar 5) (w * h) p) m ^^^ (-1)))), none, some (.long (edgF w h)), none, some (.long (rgn w h (outF (ar 5) (w * h) p) m)), none, some (.int (nI (enM w h (rgn w h (outF (ar 5) (w * h) p) m)))), some (.int (nI (c + 1)))]) hC dX8_encloses_133 rfl (nI_inc _) rfl ?_
                  refine g_goto (n := 91) hC dX8_encloses_136 ?_
                  refine G.eqs (show _ = mdl K M sc (va_up ar 20 (encB (ar 20) (encF w h (outF (ar 5) (w * h) p) y (rgn w h (outF (ar 5) (w * h) p) m) (c + 1)) p)) σ0 from (by rw [encB_up (by omega)]; first | rw [encF_t (by omega) (by omega) hX hyc hmX hmy ((sa1_1 (by omega) _).mp h121)] | rw [encF_f (by have := fun q => h121 ((sa1_1 (by omega) _).mpr q); simpa using this)])) ?_
                  exact ih91 (c + 1) (by omega) _ (by first | rfl | (simp [*]; done)) (by omega)
          refine G.eqs (show _ = mdl K M sc (va_up ar 20 (encB (ar 20) (encF w h (outF (ar 5) (w * h) p) y (rgn w h (outF (ar 5) (w * h) p) m) 0) p)) σ0 from (by rw [encF_0])) ?_
          exact lp91 _ 0 (by omega) _ (by first | rfl | (simp [*]; done)) (Nat.lt_succ_self _)
        refine g_lload (n := 69) hC rfl dX8_encloses_67 ?_
        refine g_lload (n := 71) hC rfl dX8_encloses_69 ?_
        refine g_land (n := 72) hC dX8_encloses_71 ?_
        refine g_lconst (n := 73) (v := 0) hC (by decide) dX8_encloses_72 ?_
        refine g_lcmp_ne (n := 77) (tgt := 85) hC dX8_encloses_73 dX8_encloses_74 (fun h73 => ?_) (fun h73 => ?_)
        ·
          refine g_iconst (n := 86) (v := (nI 0)) hC (by decide) dX8_encloses_85 ?_
          exact lp86  _ (by first | (rw [enM, if_pos h73]; done) | (rw [enM, if_neg h73]; done))
        ·
          refine g_lload (n := 79) hC rfl dX8_encloses_77 ?_
          refine g_cS (n := 82) hC gs_X8_125 (M_size K hD) dX8_encloses_79 ?_
          refine g_goto (n := 86) hC dX8_encloses_82 ?_
          exact lp86  _ (by first | (rw [enM, if_pos h73]; done) | (rw [enM, if_neg h73]; done))
  refine g_aload_n (n := 1) hC rfl dX8_encloses_0 ?_
  refine g_iload_n (n := 2) hC rfl dX8_encloses_1 ?_
  refine g_cV (n := 5) hC gv_X8_111 (hD 0 (by decide)) mdl_0 (M_outside K hD hB (p := p) (by omega)) dX8_encloses_2 ?_
  refine g_lstore_n (n := 6) (ll1 := [some (.ref M), some (.int (nI p)), some (.long (outF (ar 5) (w * h) p)), none, none, none, none, none, none, none]) hC dX8_encloses_5 rfl ?_
  refine g_aload_n (n := 7) hC rfl dX8_encloses_6 ?_
  refine g_cV (n := 10) hC gv_X8_114 (hD 0 (by decide)) mdl_0 (M_edge K hD hB) dX8_encloses_7 ?_
  refine g_lstore (n := 12) (ll1 := [some (.ref M), some (.int (nI p)), some (.long (outF (ar 5) (w * h) p)), none, some (.long (edgF w h)), none, none, none, none, none]) hC dX8_encloses_10 rfl ?_
  refine g_iconst (n := 13) (v := (nI 0)) hC (by decide) dX8_encloses_12 ?_
  refine g_istore (n := 15) (ll1 := [some (.ref M), some (.int (nI p)), some (.long (outF (ar 5) (w * h) p)), none, some (.long (edgF w h)), none, some (.int (nI 0)), none, none, none]) hC dX8_encloses_13 rfl ?_
  have lp15 : ∀ (n9 : Nat) (c : Nat) (hc : c ≤ 49) (y6 : Int32) (ey6 : y6 = (nI c)) (hm9 : 49 - c < n9), G K Γ (z, 0, 0, L) (mdl K M sc (va_up ar 20 (zrB (ar 20) p c)) σ0) 15 [some (.ref M), some (.int (nI p)), some (.long (outF (ar 5) (w * h) p)), none, some (.long (edgF w h)), none, some (.int y6), none, none, none] [] := by
    intro n9
    induction n9 with
    | zero =>
      intro c hc y6 ey6 hm9
      exact absurd hm9 (Nat.not_lt_zero _)
    | succ n9 ih15 =>
      intro c hc y6 ey6 hm9
      subst ey6
      refine g_iload (n := 17) hC rfl dX8_encloses_15 ?_
      refine g_bipush (n := 19) (v := (nI 49)) hC (by decide) dX8_encloses_17 ?_
      refine g_icmp_geN (n := 22) (tgt := 41) hC (by omega) (by omega) dX8_encloses_19 (fun h19 => ?_) (fun h19 => ?_)
      ·
        refine G.eqs (show _ = mdl K M sc (va_up ar 20 (encB (ar 20) (encE w h (outF (ar 5) (w * h) p) 0) p)) σ0 from (by rw [show c = 49 by omega, zrB_enc])) ?_
        exact G.le (lp41 _ 0 (by first | exact clo_0 | exact clo_or (by omega) (by omega) hX hyc hmX) _ (by first | exact and_not0 _ | exact and_not2 _ _ _) (Nat.lt_succ_self _)) (And.intro rfl (And.intro rfl (And.intro rfl (And.intro rfl (trivial)))))
      ·
        refine g_aload_n (n := 23) hC rfl dX8_encloses_22 ?_
        refine m_get (v := .ref (M + 13)) (n := 26) hC hD gf_X8_53 dX8_encloses_23 rfl ?_
        refine g_bipush (n := 28) (v := (nI 49)) hC (by decide) dX8_encloses_26 ?_
        refine g_iload_n (n := 29) hC rfl dX8_encloses_28 ?_
        refine g_imulN (n := 30) hC dX8_encloses_29 ?_
        refine g_iload (n := 32) hC rfl dX8_encloses_30 ?_
        refine g_iaddN (n := 33) hC dX8_encloses_32 ?_
        refine g_iconst (n := 34) (v := (nI 0)) hC (by decide) dX8_encloses_33 ?_
        refine m_st20 (f := (zrB (ar 20) p c)) (n := 35) hC hD ((49 * p) + c) dX8_encloses_34 (rfl) (by omega) rfl ?_
        refine G.eqs mdl_uu ?_
        refine g_iinc (n := 38) (ll1 := [some (.ref M), some (.int (nI p)), some (.long (outF (ar 5) (w * h) p)), none, some (.long (edgF w h)), none, some (.int (nI (c + 1))), none, none, none]) hC dX8_encloses_35 rfl (nI_inc _) rfl ?_
        refine g_goto (n := 15) hC dX8_encloses_38 ?_
        refine G.eqs (show _ = mdl K M sc (va_up ar 20 (zrB (ar 20) p (c + 1))) σ0 from (by rw [zrB_st])) ?_
        exact ih15 (c + 1) (by omega) _ (by first | rfl | (simp [*]; done)) (by omega)
  refine G.eqs (show _ = mdl K M sc (va_up ar 20 (zrB (ar 20) p 0)) σ0 from (congrArg (fun q => mdl K M sc q σ0) (funext fun k => by rw [zrB_0]; by_cases e : k = 20 <;> simp [va_up, e]))) ?_
  exact lp15 _ 0 (by omega) _ (by first | rfl | (simp [*]; done)) (Nat.lt_succ_self _)

set_option maxRecDepth 20000 in
set_option maxHeartbeats 1000000 in
theorem M_wave (K : GK) {M : Nat} {sc : Nat → Int32} {ar : Nat → Nat → Int32} {σ0 : GS} {L : List Nat} {z : Nat} (hD : mdom M L) {w h : Nat} (hB : mB sc w h) {k : Nat} : gT K yX8_wave cX8_wave 7 (some .int) 5 [.ref M, .int (nI k)] z L (mdl K M sc ar σ0) (some (.int (nI (wnm w h (ar 5))))) (mdl K M sc (va_up (va_up ar 20 (wen w h (ar 5) (ar 20))) 5 (wst w h k (ar 5))) σ0) := by
  obtain ⟨hw, hh, hw1, hw2, hh1, hh2⟩ := id hB
  have hn : w * h ≤ 49 := Nat.mul_le_mul hw2 hh2
  have hn1 : 16 ≤ w * h := Nat.mul_le_mul hw1 hh1
  refine g_intro [some (.ref M), some (.int (nI k)), none, none, none, none, none] (fun Γ hC => ?_) (by simp [g_en, lv_args, Value.category])
  refine g_aload_n (n := 1) hC rfl dX8_wave_0 ?_
  refine g_iconst (n := 2) (v := (nI 0)) hC (by decide) dX8_wave_1 ?_
  refine g_cVv (n := 5) hC gv_X8_128 (hD 0 (by decide)) mdl_0 (M_encloses K hD hB (p := 0) (by omega)) dX8_wave_2 ?_
  refine G.eqs (show _ = mdl K M sc (va_up ar 20 (encB (ar 20) (encV w h (outF (ar 5) (w * h) 0)) 0)) σ0 from rfl) ?_
  refine g_aload_n (n := 6) hC rfl dX8_wave_5 ?_
  refine g_iconst (n := 7) (v := (nI 1)) hC (by decide) dX8_wave_6 ?_
  refine g_cVv (n := 10) hC gv_X8_128 (hD 0 (by decide)) mdl_0 (M_encloses K hD hB (p := 1) (by omega)) dX8_wave_7 ?_
  refine G.eqs mdl_uu ?_
  refine G.eqs (show _ = mdl K M sc (va_up ar 20 (encB (encB (ar 20) (encV w h (outF (ar 5) (w * h) 0)) 0) (encV w h (outF (ar 5) (w * h) 1)) 1)) σ0 from rfl) ?_
  refine g_iconst (n := 11) (v := (nI 0)) hC (by decide) dX8_wave_10 ?_
  refine g_istore_n (n := 12) (ll1 := [some (.ref M), some (.int (nI k)), some (.int (nI 0)), none, none, none, none]) hC dX8_wave_11 rfl ?_
  refine g_iconst (n := 13) (v := (nI 0)) hC (by decide) dX8_wave_12 ?_
  refine g_istore_n (n := 14) (ll1 := [some (.ref M), some (.int (nI k)), some (.int (nI 0)), some (.int (nI 0)), none, none, none]) hC dX8_wave_13 rfl ?_
  have lp14 : ∀ (n9 : Nat) (c : Nat) (hc : c ≤ w * h) (y2 : Int32) (ey2 : y2 = (nI (wvN (wA w h (ar 5)) (wB w h (ar 5)) c))) (y3 : Int32) (ey3 : y3 = (nI c)) (hm9 : w * h - c < n9), G K Γ (z, 0, 0, L) (mdl K M sc (va_up (va_up ar 20 (wen w h (ar 5) (ar 20))) 5 (wvF (wA w h (ar 5)) (wB w h (ar 5)) (nI k) (ar 5) c)) σ0) 14 [some (.ref M), some (.int (nI k)), some (.int y2), some (.int y3), none, none, none] [] := by
    intro n9
    induction n9 with
    | zero =>
      intro c hc y2 ey2 y3 ey3 hm9
      exact absurd hm9 (Nat.not_lt_zero _)
    | succ n9 ih14 =>
      intro c hc y2 ey2 y3 ey3 hm9
      subst ey2
      subst ey3
      have hac : wA w h (ar 5) c ≤ 49 := wA_le
      have hbc : wB w h (ar 5) c ≤ 49 := wB_le
      have hnc : wvN (wA w h (ar 5)) (wB w h (ar 5)) c ≤ c := wvN_le
      refine g_iload_n (n := 15) hC rfl dX8_wave_14 ?_
      refine g_aload_n (n := 16) hC rfl dX8_wave_15 ?_
      refine g_cV (n := 19) hC gv_X8_76 (hD 0 (by decide)) mdl_0 (M_cells K hD hB) dX8_wave_16 ?_
      refine g_icmp_geN (n := 22) (tgt := 116) hC (by omega) (by omega) dX8_wave_19 (fun h19 => ?_) (fun h19 => ?_)
      ·
        refine g_iload_n (n := 117) hC rfl dX8_wave_116 ?_
        exact g_iret hC dX8_wave_117 (⟨rI (by rw [show c = w * h by omega]; rfl), rfl, rfl, (by rw [show c = w * h by omega]; rfl)⟩)
      ·
        refine g_aload_n (n := 23) hC rfl dX8_wave_22 ?_
        refine m_get (v := .ref (M + 13)) (n := 26) hC hD gf_X8_53 dX8_wave_23 rfl ?_
        refine g_iload_n (n := 27) hC rfl dX8_wave_26 ?_
        refine m_ld20 (x := (nI (wA w h (ar 5) c))) (n := 28) hC hD c dX8_wave_27 (rfl) (by omega) (wen_a (by omega)) ?_
        refine g_istore (n := 30) (ll1 := [some (.ref M), some (.int (nI k)), some (.int (nI (wvN (wA w h (ar 5)) (wB w h (ar 5)) c))), some (.int (nI c)), some (.int (nI (wA w h (ar 5) c))), none, none]) hC dX8_wave_28 rfl ?_
        refine g_aload_n (n := 31) hC rfl dX8_wave_30 ?_
        refine m_get (v := .ref (M + 13)) (n := 34) hC hD gf_X8_53 dX8_wave_31 rfl ?_
        refine g_bipush (n := 36) (v := (nI 49)) hC (by decide) dX8_wave_34 ?_
        refine g_iload_n (n := 37) hC rfl dX8_wave_36 ?_
        refine g_iaddN (n := 38) hC dX8_wave_37 ?_
        refine m_ld20 (x := (nI (wB w h (ar 5) c))) (n := 39) hC hD (49 + c) dX8_wave_38 (rfl) (by omega) (wen_b (by omega)) ?_
        refine g_istore (n := 41) (ll1 := [some (.ref M), some (.int (nI k)), some (.int (nI (wvN (wA w h (ar 5)) (wB w h (ar 5)) c))), some (.int (nI c)), some (.int (nI (wA w h (ar 5) c))), some (.int (nI (wB w h (ar 5) c))), none]) hC dX8_wave_39 rfl ?_
        refine g_iload (n := 43) hC rfl dX8_wave_41 ?_
        refine g_iload (n := 45) hC rfl dX8_wave_43 ?_
        refine g_icmp_neN (n := 48) (tgt := 51) hC (by omega) (by omega) dX8_wave_45 (fun h45 => ?_) (fun h45 => ?_)
        ·
          have lp63 : ∀ (p : Nat) (hp : p ≤ 1) (hpv : p = if wB w h (ar 5) c < wA w h (ar 5) c then 0 else 1), G K Γ (z, 0, 0, L) (mdl K M sc (va_up (va_up ar 20 (wen w h (ar 5) (ar 20))) 5 (wvF (wA w h (ar 5)) (wB w h (ar 5)) (nI k) (ar 5) c)) σ0) 63 [some (.ref M), some (.int (nI k)), some (.int (nI (wvN (wA w h (ar 5)) (wB w h (ar 5)) c))), some (.int (nI c)), none, none, none] [.int (nI p)] := by
            intro p hp hpv
            refine g_istore (n := 65) (ll1 := [some (.ref M), some (.int (nI k)), some (.int (nI (wvN (wA w h (ar 5)) (wB w h (ar 5)) c))), some (.int (nI c)), none, none, some (.int (nI p))]) hC dX8_wave_63 rfl ?_
            refine g_aload_n (n := 66) hC rfl dX8_wave_65 ?_
            refine m_get (v := .ref (M + 2)) (n := 69) hC hD gf_X8_20 dX8_wave_66 rfl ?_
            refine g_sipush (n := 72) (v := (nI 147)) hC (by decide) dX8_wave_69 ?_
            refine g_iload (n := 74) hC rfl dX8_wave_72 ?_
            refine g_iaddN (n := 75) hC dX8_wave_74 ?_
            refine g_dup2 (n := 76) hC rfl rfl dX8_wave_75 ?_
            refine m_ld5 (x := ((wvF (wA w h (ar 5)) (wB w h (ar 5)) (nI k) (ar 5) c) (147 + p))) (n := 77) hC hD (147 + p) dX8_wave_76 (rfl) (by omega) (rfl) ?_
            refine g_aload_n (n := 78) hC rfl dX8_wave_77 ?_
            refine m_get (v := .ref (M + 2)) (n := 81) hC hD gf_X8_20 dX8_wave_78 rfl ?_
            refine g_iload_n (n := 82) hC rfl dX8_wave_81 ?_
            refine m_ld5 (x := ((wvF (wA w h (ar 5)) (wB w h (ar 5)) (nI k) (ar 5) c) c)) (n := 83) hC hD c dX8_wave_82 (rfl) (by omega) (rfl) ?_
            refine g_iconst (n := 84) (v := (nI 2)) hC (by decide) dX8_wave_83 ?_
            refine g_iload (n := 86) hC rfl dX8_wave_84 ?_
            refine g_isubN (n := 87) hC (by omega) dX8_wave_86 ?_
            refine g_icmp_ne (n := 90) (tgt := 94) hC dX8_wave_87 (fun h87 => ?_) (fun h87 => ?_)
            ·
              refine g_iconst (n := 95) (v := (nI 0)) hC (by decide) dX8_wave_94 ?_
              refine g_iadd (n := 96) hC dX8_wave_95 ?_
              refine m_st5 (f := (wvF (wA w h (ar 5)) (wB w h (ar 5)) (nI k) (ar 5) c)) (n := 97) hC hD (147 + p) dX8_wave_96 (rfl) (by omega) rfl ?_
              refine G.eqs mdl_uu ?_
              refine g_aload_n (n := 98) hC rfl dX8_wave_97 ?_
              refine g_iload_n (n := 99) hC rfl dX8_wave_98 ?_
              refine g_iconst (n := 100) (v := (nI 3)) hC (by decide) dX8_wave_99 ?_
              refine g_iload (n := 102) hC rfl dX8_wave_100 ?_
              refine g_iaddN (n := 103) hC dX8_wave_102 ?_
              refine g_iload_n (n := 104) hC rfl dX8_wave_103 ?_
              refine g_cVv (n := 107) hC gv_X8_131 (hD 0 (by decide)) mdl_0 (M_becomes K hD hB (c := c) (by omega)) dX8_wave_104 ?_
              refine G.eqs mdl_uu ?_
              refine G.eqs (show _ = mdl K M sc (va_up (va_up ar 20 (wen w h (ar 5) (ar 20))) 5 (becF (va_up (wvF (wA w h (ar 5)) (wB w h (ar 5)) (nI k) (ar 5) c) (147 + p) (((wvF (wA w h (ar 5)) (wB w h (ar 5)) (nI k) (ar 5) c) (147 + p)) + (nI 0))) c (nI (3 + p)) (nI k))) σ0 from rfl) ?_
              refine g_iinc (n := 110) (ll1 := [some (.ref M), some (.int (nI k)), some (.int (nI ((wvN (wA w h (ar 5)) (wB w h (ar 5)) c) + 1))), some (.int (nI c)), none, none, some (.int (nI p))]) hC dX8_wave_107 rfl (nI_inc _) rfl ?_
              refine g_iinc (n := 113) (ll1 := [some (.ref M), some (.int (nI k)), some (.int (nI ((wvN (wA w h (ar 5)) (wB w h (ar 5)) c) + 1))), some (.int (nI (c + 1))), none, none, some (.int (nI p))]) hC dX8_wave_110 rfl (nI_inc _) rfl ?_
              refine g_goto (n := 14) hC dX8_wave_113 ?_
              refine G.eqs (show _ = mdl K M sc (va_up (va_up ar 20 (wen w h (ar 5) (ar 20))) 5 (wvF (wA w h (ar 5)) (wB w h (ar 5)) (nI k) (ar 5) (c + 1))) σ0 from (by first | rw [← wvF_eq h45] | (rw [← wvF_ne h45 hpv, wvC]; first | rw [if_pos h87] | rw [if_neg h87]))) ?_
              exact G.le (ih14 (c + 1) (by omega) _ (by first | rfl | (rw [wvN_eq h45]; done) | (rw [wvN_ne h45]; done)) _ (by first | rfl | (rw [wvN_eq h45]; done) | (rw [wvN_ne h45]; done)) (by omega)) (And.intro rfl (And.intro rfl (And.intro rfl (And.intro rfl (trivial)))))
            ·
              refine g_iconst (n := 91) (v := (nI 1)) hC (by decide) dX8_wave_90 ?_
              refine g_goto (n := 95) hC dX8_wave_91 ?_
              refine g_iadd (n := 96) hC dX8_wave_95 ?_
              refine m_st5 (f := (wvF (wA w h (ar 5)) (wB w h (ar 5)) (nI k) (ar 5) c)) (n := 97) hC hD (147 + p) dX8_wave_96 (rfl) (by omega) rfl ?_
              refine G.eqs mdl_uu ?_
              refine g_aload_n (n := 98) hC rfl dX8_wave_97 ?_
              refine g_iload_n (n := 99) hC rfl dX8_wave_98 ?_
              refine g_iconst (n := 100) (v := (nI 3)) hC (by decide) dX8_wave_99 ?_
              refine g_iload (n := 102) hC rfl dX8_wave_100 ?_
              refine g_iaddN (n := 103) hC dX8_wave_102 ?_
              refine g_iload_n (n := 104) hC rfl dX8_wave_103 ?_
              refine g_cVv (n := 107) hC gv_X8_131 (hD 0 (by decide)) mdl_0 (M_becomes K hD hB (c := c) (by omega)) dX8_wave_104 ?_
              refine G.eqs mdl_uu ?_
              refine G.eqs (show _ = mdl K M sc (va_up (va_up ar 20 (wen w h (ar 5) (ar 20))) 5 (becF (va_up (wvF (wA w h (ar 5)) (wB w h (ar 5)) (nI k) (ar 5) c) (147 + p) (((wvF (wA w h (ar 5)) (wB w h (ar 5)) (nI k) (ar 5) c) (147 + p)) + (nI 1))) c (nI (3 + p)) (nI k))) σ0 from rfl) ?_
              refine g_iinc (n := 110) (ll1 := [some (.ref M), some (.int (nI k)), some (.int (nI ((wvN (wA w h (ar 5)) (wB w h (ar 5)) c) + 1))), some (.int (nI c)), none, none, some (.int (nI p))]) hC dX8_wave_107 rfl (nI_inc _) rfl ?_
              refine g_iinc (n := 113) (ll1 := [some (.ref M), some (.int (nI k)), some (.int (nI ((wvN (wA w h (ar 5)) (wB w h (ar 5)) c) + 1))), some (.int (nI (c + 1))), none, none, some (.int (nI p))]) hC dX8_wave_110 rfl (nI_inc _) rfl ?_
              refine g_goto (n := 14) hC dX8_wave_113 ?_
              refine G.eqs (show _ = mdl K M sc (va_up (va_up ar 20 (wen w h (ar 5) (ar 20))) 5 (wvF (wA w h (ar 5)) (wB w h (ar 5)) (nI k) (ar 5) (c + 1))) σ0 from (by first | rw [← wvF_eq h45] | (rw [← wvF_ne h45 hpv, wvC]; first | rw [if_pos h87] | rw [if_neg h87]))) ?_
              exact G.le (ih14 (c + 1) (by omega) _ (by first | rfl | (rw [wvN_eq h45]; done) | (rw [wvN_ne h45]; done)) _ (by first | rfl | (rw [wvN_eq h45]; done) | (rw [wvN_ne h45]; done)) (by omega)) (And.intro rfl (And.intro rfl (And.intro rfl (And.intro rfl (trivial)))))
          refine g_iload (n := 53) hC rfl dX8_wave_51 ?_
          refine g_iload (n := 55) hC rfl dX8_wave_53 ?_
          refine g_icmp_leN (n := 58) (tgt := 62) hC (by omega) (by omega) dX8_wave_55 (fun h55 => ?_) (fun h55 => ?_)
          ·
            refine g_iconst (n := 63) (v := (nI 1)) hC (by decide) dX8_wave_62 ?_
            exact G.le (lp63 1 (by omega) (by first | exact (if_pos h55).symm | exact (if_neg (Nat.not_lt.mpr h55)).symm)) (And.intro rfl (And.intro rfl (And.intro rfl (And.intro rfl (trivial)))))
          ·
            refine g_iconst (n := 59) (v := (nI 0)) hC (by decide) dX8_wave_58 ?_
            refine g_goto (n := 63) hC dX8_wave_59 ?_
            exact G.le (lp63 0 (by omega) (by first | exact (if_pos h55).symm | exact (if_neg (Nat.not_lt.mpr h55)).symm)) (And.intro rfl (And.intro rfl (And.intro rfl (And.intro rfl (trivial)))))
        ·
          refine g_goto (n := 110) hC dX8_wave_48 ?_
          refine g_iinc (n := 113) (ll1 := [some (.ref M), some (.int (nI k)), some (.int (nI (wvN (wA w h (ar 5)) (wB w h (ar 5)) c))), some (.int (nI (c + 1))), some (.int (nI (wA w h (ar 5) c))), some (.int (nI (wB w h (ar 5) c))), none]) hC dX8_wave_110 rfl (nI_inc _) rfl ?_
          refine g_goto (n := 14) hC dX8_wave_113 ?_
          refine G.eqs (show _ = mdl K M sc (va_up (va_up ar 20 (wen w h (ar 5) (ar 20))) 5 (wvF (wA w h (ar 5)) (wB w h (ar 5)) (nI k) (ar 5) (c + 1))) σ0 from (by first | rw [← wvF_eq h45] | (rw [← wvF_ne h45 hpv, wvC]; first | rw [if_pos h87] | rw [if_neg h87]))) ?_
          exact G.le (ih14 (c + 1) (by omega) _ (by first | rfl | (rw [wvN_eq h45]; done) | (rw [wvN_ne h45]; done)) _ (by first | rfl | (rw [wvN_eq h45]; done) | (rw [wvN_ne h45]; done)) (by omega)) (And.intro rfl (And.intro rfl (And.intro rfl (And.intro rfl (trivial)))))
  refine G.eqs (show _ = mdl K M sc (va_up (va_up ar 20 (wen w h (ar 5) (ar 20))) 5 (wvF (wA w h (ar 5)) (wB w h (ar 5)) (nI k) (ar 5) 0)) σ0 from (congrArg (fun q => mdl K M sc q σ0) (funext fun i => by by_cases e : i = 5 <;> simp [va_up, e, wvF] <;> rfl))) ?_
  exact lp14 _ 0 (by omega) _ (by first | rfl | (rw [wvN_eq h45]; done) | (rw [wvN_ne h45]; done)) _ (by first | rfl | (rw [wvN_eq h45]; done) | (rw [wvN_ne h45]; done)) (Nat.lt_succ_self _)

theorem M_becomesI (K : GK) {M : Nat} {sc : Nat → Int32} {ar : Nat → Nat → Int32} {σ0 : GS} {L : List Nat} {z : Nat} (hD : mdom M L) {w h : Nat} (hB : mB sc w h) {a x y : Int32} (ha : chOK (w * h) a) (hne : ¬ a = -1) : gT K yX8_becomes cX8_becomes 4 none 0 [.ref M, .int a, .int x, .int y] z L (mdl K M sc ar σ0) none (mdl K M sc (va_up ar 5 (becF (ar 5) a.toNatClampNeg x y)) σ0) := by
  obtain ⟨j, hj, rfl⟩ := ha.resolve_left hne
  have hn : w * h ≤ 49 := Nat.mul_le_mul hB.2.2.2.1 hB.2.2.2.2.2
  rw [nI_clamp (show j < 2 ^ 31 by omega)]
  exact M_becomes K hD hB hj

set_option maxRecDepth 20000 in
set_option maxHeartbeats 2000000 in
theorem M_plays (K : GK) {M : Nat} {sc : Nat → Int32} {ar : Nat → Nat → Int32} {σ0 : GS} {L : List Nat} {z : Nat} (hD : mdom M L) {w h : Nat} (hB : mB sc w h) {a b : Int32} (ha : chOK (w * h) a) (hb : chOK (w * h) b) : gM K yX8_plays cX8_plays 5 none 6 0 0 [.ref M, .int a, .int b] z L (mdl K M sc ar σ0) (fun r z1 L1 σ2 => r = none ∧ z1 = z ∧ L1 = L ∧ ∃ (W : Nat) (e cb f2 : Nat → Int32), plR w h (sc 3) (ar 5) (ar 4) a b W f2 ∧ (∀ j, j < W → cb j = nI (wnm w h (wit w h (plM (sc 3) (w * h) (ar 5) (ar 4) a b) j))) ∧ σ2 = mdl K M (scS sc (nI (clN a b)) (nI W) (nI (wsm w h (plM (sc 3) (w * h) (ar 5) (ar 4) a b) W))) (arS ar f2 e cb) σ0) := by
  obtain ⟨hw, hh, hw1, hw2, hh1, hh2⟩ := id hB
  have hn : w * h ≤ 49 := Nat.mul_le_mul hw2 hh2
  have hn1 : 16 ≤ w * h := Nat.mul_le_mul hw1 hh1
  refine g_intro [some (.ref M), some (.int a), some (.int b), none, none] (fun Γ hC => ?_) (by simp [g_en, lv_args, Value.category])
  have lp123 : G K Γ (z, 0, 0, L) (mdl K M (va_up sc 22 (nI (clN a b))) (va_up ar 5 (plC (sc 3) (scF (ar 5) (ar 4) (w * h) 0) (scF (ar 5) (ar 4) (w * h) 1) (ar 5) a b)) σ0) 123 [some (.ref M), some (.int a), some (.int b), none, none] [] := by
    refine g_aload_n (n := 124) hC rfl dX8_plays_123 ?_
    refine m_get (v := .ref (M + 2)) (n := 127) hC hD gf_X8_20 dX8_plays_124 rfl ?_
    refine g_sipush (n := 130) (v := (nI 149)) hC (by decide) dX8_plays_127 ?_
    refine g_dup2 (n := 131) hC rfl rfl dX8_plays_130 ?_
    refine m_ld5 (x := ((plC (sc 3) (scF (ar 5) (ar 4) (w * h) 0) (scF (ar 5) (ar 4) (w * h) 1) (ar 5) a b) 149)) (n := 132) hC hD 149 dX8_plays_131 (rfl) (by omega) (rfl) ?_
    have lp142 : ∀ (ys0 : Int32) (eys0 : ys0 = (if a = -1 then nI 1 else nI 0)), G K Γ (z, 0, 0, L) (mdl K M (va_up sc 22 (nI (clN a b))) (va_up ar 5 (plC (sc 3) (scF (ar 5) (ar 4) (w * h) 0) (scF (ar 5) (ar 4) (w * h) 1) (ar 5) a b)) σ0) 142 [some (.ref M), some (.int a), some (.int b), none, none] [.int ys0, .int ((plC (sc 3) (scF (ar 5) (ar 4) (w * h) 0) (scF (ar 5) (ar 4) (w * h) 1) (ar 5) a b) 149), .int (nI 149), .ref (M + 2)] := by
      intro ys0 eys0
      subst eys0
      refine g_iadd (n := 143) hC dX8_plays_142 ?_
      refine m_st5 (f := (plC (sc 3) (scF (ar 5) (ar 4) (w * h) 0) (scF (ar 5) (ar 4) (w * h) 1) (ar 5) a b)) (n := 144) hC hD 149 dX8_plays_143 (rfl) (by omega) rfl ?_
      refine G.eqs mdl_uu ?_
      refine g_aload_n (n := 145) hC rfl dX8_plays_144 ?_
      refine m_get (v := .ref (M + 2)) (n := 148) hC hD gf_X8_20 dX8_plays_145 rfl ?_
      refine g_sipush (n := 151) (v := (nI 150)) hC (by decide) dX8_plays_148 ?_
      refine g_dup2 (n := 152) hC rfl rfl dX8_plays_151 ?_
      refine m_ld5 (x := ((va_up (plC (sc 3) (scF (ar 5) (ar 4) (w * h) 0) (scF (ar 5) (ar 4) (w * h) 1) (ar 5) a b) 149 (((plC (sc 3) (scF (ar 5) (ar 4) (w * h) 0) (scF (ar 5) (ar 4) (w * h) 1) (ar 5) a b) 149) + (if a = -1 then nI 1 else nI 0))) 150)) (n := 153) hC hD 150 dX8_plays_152 (rfl) (by omega) (rfl) ?_
      have lp163 : ∀ (ys0 : Int32) (eys0 : ys0 = (if b = -1 then nI 1 else nI 0)), G K Γ (z, 0, 0, L) (mdl K M (va_up sc 22 (nI (clN a b))) (va_up ar 5 (va_up (plC (sc 3) (scF (ar 5) (ar 4) (w * h) 0) (scF (ar 5) (ar 4) (w * h) 1) (ar 5) a b) 149 (((plC (sc 3) (scF (ar 5) (ar 4) (w * h) 0) (scF (ar 5) (ar 4) (w * h) 1) (ar 5) a b) 149) + (if a = -1 then nI 1 else nI 0)))) σ0) 163 [some (.ref M), some (.int a), some (.int b), none, none] [.int ys0, .int ((plC (sc 3) (scF (ar 5) (ar 4) (w * h) 0) (scF (ar 5) (ar 4) (w * h) 1) (ar 5) a b) 150), .int (nI 150), .ref (M + 2)] := by
        intro ys0 eys0
        subst eys0
        refine g_iadd (n := 164) hC dX8_plays_163 ?_
        refine m_st5 (f := (va_up (plC (sc 3) (scF (ar 5) (ar 4) (w * h) 0) (scF (ar 5) (ar 4) (w * h) 1) (ar 5) a b) 149 (((plC (sc 3) (scF (ar 5) (ar 4) (w * h) 0) (scF (ar 5) (ar 4) (w * h) 1) (ar 5) a b) 149) + (if a = -1 then nI 1 else nI 0)))) (n := 165) hC hD 150 dX8_plays_164 (rfl) (by omega) rfl ?_
        refine G.eqs mdl_uu ?_
        refine g_aload_n (n := 166) hC rfl dX8_plays_165 ?_
        refine m_get (v := .ref (M + 2)) (n := 169) hC hD gf_X8_20 dX8_plays_166 rfl ?_
        refine g_sipush (n := 172) (v := (nI 151)) hC (by decide) dX8_plays_169 ?_
        refine g_dup2 (n := 173) hC rfl rfl dX8_plays_172 ?_
        refine m_ld5 (x := ((va_up (va_up (plC (sc 3) (scF (ar 5) (ar 4) (w * h) 0) (scF (ar 5) (ar 4) (w * h) 1) (ar 5) a b) 149 (((plC (sc 3) (scF (ar 5) (ar 4) (w * h) 0) (scF (ar 5) (ar 4) (w * h) 1) (ar 5) a b) 149) + (if a = -1 then nI 1 else nI 0))) 150 (((plC (sc 3) (scF (ar 5) (ar 4) (w * h) 0) (scF (ar 5) (ar 4) (w * h) 1) (ar 5) a b) 150) + (if b = -1 then nI 1 else nI 0))) 151)) (n := 174) hC hD 151 dX8_plays_173 (rfl) (by omega) (rfl) ?_
        refine g_aload_n (n := 175) hC rfl dX8_plays_174 ?_
        refine m_get (v := .int (nI (clN a b))) (n := 178) hC hD gf_X8_135 dX8_plays_175 rfl ?_
        refine g_iadd (n := 179) hC dX8_plays_178 ?_
        refine m_st5 (f := (va_up (va_up (plC (sc 3) (scF (ar 5) (ar 4) (w * h) 0) (scF (ar 5) (ar 4) (w * h) 1) (ar 5) a b) 149 (((plC (sc 3) (scF (ar 5) (ar 4) (w * h) 0) (scF (ar 5) (ar 4) (w * h) 1) (ar 5) a b) 149) + (if a = -1 then nI 1 else nI 0))) 150 (((plC (sc 3) (scF (ar 5) (ar 4) (w * h) 0) (scF (ar 5) (ar 4) (w * h) 1) (ar 5) a b) 150) + (if b = -1 then nI 1 else nI 0)))) (n := 180) hC hD 151 dX8_plays_179 (rfl) (by omega) rfl ?_
        refine G.eqs mdl_uu ?_
        refine g_aload_n (n := 181) hC rfl dX8_plays_180 ?_
        refine g_iconst (n := 182) (v := (nI 0)) hC (by decide) dX8_plays_181 ?_
        refine m_put23 (n := 185) hC hD gp_X8_141 dX8_plays_182 ?_
        refine g_aload_n (n := 186) hC rfl dX8_plays_185 ?_
        refine g_iconst (n := 187) (v := (nI 0)) hC (by decide) dX8_plays_186 ?_
        refine m_put24 (n := 190) hC hD gp_X8_144 dX8_plays_187 ?_
        refine g_iconst (n := 191) (v := (nI 1)) hC (by decide) dX8_plays_190 ?_
        have lp192 : ∀ (n9 : Nat) (k : Nat) (mo : Nat) (e : Nat → Int32) (cb : Nat → Int32) (hk : k ≤ 8) (hgo : wgo w h (plM (sc 3) (w * h) (ar 5) (ar 4) a b) k) (hcb : ∀ j, j < k → cb j = nI (wnm w h (wit w h (plM (sc 3) (w * h) (ar 5) (ar 4) a b) j))) (hmo : mo = 1 ∨ (mo = 0 ∧ wnm w h (wit w h (plM (sc 3) (w * h) (ar 5) (ar 4) a b) k) = 0)) (y3 : Int32) (ey3 : y3 = (nI mo)) (hm9 : 2 * (8 - k) + mo < n9), G K Γ (z, 0, 0, L) (mdl K M (scS sc (nI (clN a b)) (nI k) (nI (wsm w h (plM (sc 3) (w * h) (ar 5) (ar 4) a b) k))) (arS ar (wit w h (plM (sc 3) (w * h) (ar 5) (ar 4) a b) k) e cb) σ0) 192 [some (.ref M), some (.int a), some (.int b), some (.int y3), none] [] := by
          intro n9
          induction n9 with
          | zero =>
            intro k mo e cb hk hgo hcb hmo y3 ey3 hm9
            exact absurd hm9 (Nat.not_lt_zero _)
          | succ n9 ih192 =>
            intro k mo e cb hk hgo hcb hmo y3 ey3 hm9
            subst ey3
            have hnm := wnm_le (w := w) (h := h) (f := wit w h (plM (sc 3) (w * h) (ar 5) (ar 4) a b) k)
            refine g_iload_n (n := 193) hC rfl dX8_plays_192 ?_
            refine g_if_eqN (n := 196) (tgt := 268) hC (by omega) dX8_plays_193 (fun h193 => ?_) (fun h193 => ?_)
            ·
              refine g_aload_n (n := 269) hC rfl dX8_plays_268 ?_
              refine m_get (v := .ref (M + 2)) (n := 272) hC hD gf_X8_20 dX8_plays_269 rfl ?_
              refine g_sipush (n := 275) (v := (nI 152)) hC (by decide) dX8_plays_272 ?_
              refine g_dup2 (n := 276) hC rfl rfl dX8_plays_275 ?_
              refine m_ld5 (x := ((wit w h (plM (sc 3) (w * h) (ar 5) (ar 4) a b) k) 152)) (n := 277) hC hD 152 dX8_plays_276 (rfl) (by omega) (rfl) ?_
              refine g_aload_n (n := 278) hC rfl dX8_plays_277 ?_
              refine m_get (v := .int (nI k)) (n := 281) hC hD gf_X8_141 dX8_plays_278 rfl ?_
              refine g_iadd (n := 282) hC dX8_plays_281 ?_
              refine m_st5 (f := (wit w h (plM (sc 3) (w * h) (ar 5) (ar 4) a b) k)) (n := 283) hC hD 152 dX8_plays_282 (rfl) (by omega) rfl ?_
              refine g_aload_n (n := 284) hC rfl dX8_plays_283 ?_
              refine m_get (v := .ref (M + 2)) (n := 287) hC hD gf_X8_20 dX8_plays_284 rfl ?_
              refine g_sipush (n := 290) (v := (nI 154)) hC (by decide) dX8_plays_287 ?_
              refine g_iload_n (n := 291) hC rfl dX8_plays_290 ?_
              refine g_iconst (n := 292) (v := (-1)) hC (by decide) dX8_plays_291 ?_
              refine g_icmp_ne (n := 295) (tgt := 304) hC dX8_plays_292 (fun h292 => ?_) (fun h292 => ?_)
              ·
                refine g_iconst (n := 305) (v := (nI 0)) hC (by decide) dX8_plays_304 ?_
                refine m_st5 (f := (va_up (wit w h (plM (sc 3) (w * h) (ar 5) (ar 4) a b) k) 152 (((wit w h (plM (sc 3) (w * h) (ar 5) (ar 4) a b) k) 152) + (nI k)))) (n := 306) hC hD 154 dX8_plays_305 (rfl) (by omega) rfl ?_
                refine G.eqs mdl_uu ?_
                refine g_aload_n (n := 307) hC rfl dX8_plays_306 ?_
                refine m_get (v := .ref (M + 2)) (n := 310) hC hD gf_X8_20 dX8_plays_307 rfl ?_
                refine g_sipush (n := 313) (v := (nI 153)) hC (by decide) dX8_plays_310 ?_
                refine g_dup2 (n := 314) hC rfl rfl dX8_plays_313 ?_
                refine m_ld5 (x := ((va_up (va_up (wit w h (plM (sc 3) (w * h) (ar 5) (ar 4) a b) k) 152 (((wit w h (plM (sc 3) (w * h) (ar 5) (ar 4) a b) k) 152) + (nI k))) 154 (nI 0)) 153)) (n := 315) hC hD 153 dX8_plays_314 (rfl) (by omega) (rfl) ?_
                refine g_iconst (n := 316) (v := (nI 1)) hC (by decide) dX8_plays_315 ?_
                refine g_iadd (n := 317) hC dX8_plays_316 ?_
                refine m_st5 (f := (va_up (va_up (wit w h (plM (sc 3) (w * h) (ar 5) (ar 4) a b) k) 152 (((wit w h (plM (sc 3) (w * h) (ar 5) (ar 4) a b) k) 152) + (nI k))) 154 (nI 0))) (n := 318) hC hD 153 dX8_plays_317 (rfl) (by omega) rfl ?_
                refine G.eqs mdl_uu ?_
                exact g_vret hC dX8_plays_318 (⟨rfl, rfl, rfl, k, e, cb, plQ (wit w h (plM (sc 3) (w * h) (ar 5) (ar 4) a b) k) a b k, ⟨⟨hk, hgo, Or.inr ((hmo.resolve_left (by omega)).2)⟩, rfl⟩, hcb, by rw [arS_v, plQ, if_neg (fun q => h292 q.1)]; rfl⟩)
              ·
                refine g_iload_n (n := 296) hC rfl dX8_plays_295 ?_
                refine g_iconst (n := 297) (v := (-1)) hC (by decide) dX8_plays_296 ?_
                refine g_icmp_ne (n := 300) (tgt := 304) hC dX8_plays_297 (fun h297 => ?_) (fun h297 => ?_)
                ·
                  refine g_iconst (n := 305) (v := (nI 0)) hC (by decide) dX8_plays_304 ?_
                  refine m_st5 (f := (va_up (wit w h (plM (sc 3) (w * h) (ar 5) (ar 4) a b) k) 152 (((wit w h (plM (sc 3) (w * h) (ar 5) (ar 4) a b) k) 152) + (nI k)))) (n := 306) hC hD 154 dX8_plays_305 (rfl) (by omega) rfl ?_
                  refine G.eqs mdl_uu ?_
                  refine g_aload_n (n := 307) hC rfl dX8_plays_306 ?_
                  refine m_get (v := .ref (M + 2)) (n := 310) hC hD gf_X8_20 dX8_plays_307 rfl ?_
                  refine g_sipush (n := 313) (v := (nI 153)) hC (by decide) dX8_plays_310 ?_
                  refine g_dup2 (n := 314) hC rfl rfl dX8_plays_313 ?_
                  refine m_ld5 (x := ((va_up (va_up (wit w h (plM (sc 3) (w * h) (ar 5) (ar 4) a b) k) 152 (((wit w h (plM (sc 3) (w * h) (ar 5) (ar 4) a b) k) 152) + (nI k))) 154 (nI 0)) 153)) (n := 315) hC hD 153 dX8_plays_314 (rfl) (by omega) (rfl) ?_
                  refine g_iconst (n := 316) (v := (nI 1)) hC (by decide) dX8_plays_315 ?_
                  refine g_iadd (n := 317) hC dX8_plays_316 ?_
                  refine m_st5 (f := (va_up (va_up (wit w h (plM (sc 3) (w * h) (ar 5) (ar 4) a b) k) 152 (((wit w h (plM (sc 3) (w * h) (ar 5) (ar 4) a b) k) 152) + (nI k))) 154 (nI 0))) (n := 318) hC hD 153 dX8_plays_317 (rfl) (by omega) rfl ?_
                  refine G.eqs mdl_uu ?_
                  exact g_vret hC dX8_plays_318 (⟨rfl, rfl, rfl, k, e, cb, plQ (wit w h (plM (sc 3) (w * h) (ar 5) (ar 4) a b) k) a b k, ⟨⟨hk, hgo, Or.inr ((hmo.resolve_left (by omega)).2)⟩, rfl⟩, hcb, by rw [arS_v, plQ, if_neg (fun q => h297 q.2)]; rfl⟩)
                ·
                  refine g_iconst (n := 301) (v := (nI 1)) hC (by decide) dX8_plays_300 ?_
                  refine g_goto (n := 305) hC dX8_plays_301 ?_
                  refine m_st5 (f := (va_up (wit w h (plM (sc 3) (w * h) (ar 5) (ar 4) a b) k) 152 (((wit w h (plM (sc 3) (w * h) (ar 5) (ar 4) a b) k) 152) + (nI k)))) (n := 306) hC hD 154 dX8_plays_305 (rfl) (by omega) rfl ?_
                  refine G.eqs mdl_uu ?_
                  refine g_aload_n (n := 307) hC rfl dX8_plays_306 ?_
                  refine m_get (v := .ref (M + 2)) (n := 310) hC hD gf_X8_20 dX8_plays_307 rfl ?_
                  refine g_sipush (n := 313) (v := (nI 153)) hC (by decide) dX8_plays_310 ?_
                  refine g_dup2 (n := 314) hC rfl rfl dX8_plays_313 ?_
                  refine m_ld5 (x := ((va_up (va_up (wit w h (plM (sc 3) (w * h) (ar 5) (ar 4) a b) k) 152 (((wit w h (plM (sc 3) (w * h) (ar 5) (ar 4) a b) k) 152) + (nI k))) 154 (nI 1)) 153)) (n := 315) hC hD 153 dX8_plays_314 (rfl) (by omega) (rfl) ?_
                  refine g_iconst (n := 316) (v := (nI 1)) hC (by decide) dX8_plays_315 ?_
                  refine g_iadd (n := 317) hC dX8_plays_316 ?_
                  refine m_st5 (f := (va_up (va_up (wit w h (plM (sc 3) (w * h) (ar 5) (ar 4) a b) k) 152 (((wit w h (plM (sc 3) (w * h) (ar 5) (ar 4) a b) k) 152) + (nI k))) 154 (nI 1))) (n := 318) hC hD 153 dX8_plays_317 (rfl) (by omega) rfl ?_
                  refine G.eqs mdl_uu ?_
                  exact g_vret hC dX8_plays_318 (⟨rfl, rfl, rfl, k, e, cb, plQ (wit w h (plM (sc 3) (w * h) (ar 5) (ar 4) a b) k) a b k, ⟨⟨hk, hgo, Or.inr ((hmo.resolve_left (by omega)).2)⟩, rfl⟩, hcb, by rw [arS_v, plQ, if_pos (And.intro h292 h297)]; rfl⟩)
            ·
              refine g_aload_n (n := 197) hC rfl dX8_plays_196 ?_
              refine m_get (v := .int (nI k)) (n := 200) hC hD gf_X8_141 dX8_plays_197 rfl ?_
              refine g_bipush (n := 202) (v := (nI 8)) hC (by decide) dX8_plays_200 ?_
              refine g_icmp_geN (n := 205) (tgt := 268) hC (by omega) (by omega) dX8_plays_202 (fun h202 => ?_) (fun h202 => ?_)
              ·
                refine g_aload_n (n := 269) hC rfl dX8_plays_268 ?_
                refine m_get (v := .ref (M + 2)) (n := 272) hC hD gf_X8_20 dX8_plays_269 rfl ?_
                refine g_sipush (n := 275) (v := (nI 152)) hC (by decide) dX8_plays_272 ?_
                refine g_dup2 (n := 276) hC rfl rfl dX8_plays_275 ?_
                refine m_ld5 (x := ((wit w h (plM (sc 3) (w * h) (ar 5) (ar 4) a b) k) 152)) (n := 277) hC hD 152 dX8_plays_276 (rfl) (by omega) (rfl) ?_
                refine g_aload_n (n := 278) hC rfl dX8_plays_277 ?_
                refine m_get (v := .int (nI k)) (n := 281) hC hD gf_X8_141 dX8_plays_278 rfl ?_
                refine g_iadd (n := 282) hC dX8_plays_281 ?_
                refine m_st5 (f := (wit w h (plM (sc 3) (w * h) (ar 5) (ar 4) a b) k)) (n := 283) hC hD 152 dX8_plays_282 (rfl) (by omega) rfl ?_
                refine g_aload_n (n := 284) hC rfl dX8_plays_283 ?_
                refine m_get (v := .ref (M + 2)) (n := 287) hC hD gf_X8_20 dX8_plays_284 rfl ?_
                refine g_sipush (n := 290) (v := (nI 154)) hC (by decide) dX8_plays_287 ?_
                refine g_iload_n (n := 291) hC rfl dX8_plays_290 ?_
                refine g_iconst (n := 292) (v := (-1)) hC (by decide) dX8_plays_291 ?_
                refine g_icmp_ne (n := 295) (tgt := 304) hC dX8_plays_292 (fun h292 => ?_) (fun h292 => ?_)
                ·
                  refine g_iconst (n := 305) (v := (nI 0)) hC (by decide) dX8_plays_304 ?_
                  refine m_st5 (f := (va_up (wit w h (plM (sc 3) (w * h) (ar 5) (ar 4) a b) k) 152 (((wit w h (plM (sc 3) (w * h) (ar 5) (ar 4) a b) k) 152) + (nI k)))) (n := 306) hC hD 154 dX8_plays_305 (rfl) (by omega) rfl ?_
                  refine G.eqs mdl_uu ?_
                  refine g_aload_n (n := 307) hC rfl dX8_plays_306 ?_
                  refine m_get (v := .ref (M + 2)) (n := 310) hC hD gf_X8_20 dX8_plays_307 rfl ?_
                  refine g_sipush (n := 313) (v := (nI 153)) hC (by decide) dX8_plays_310 ?_
                  refine g_dup2 (n := 314) hC rfl rfl dX8_plays_313 ?_
                  refine m_ld5 (x := ((va_up (va_up (wit w h (plM (sc 3) (w * h) (ar 5) (ar 4) a b) k) 152 (((wit w h (plM (sc 3) (w * h) (ar 5) (ar 4) a b) k) 152) + (nI k))) 154 (nI 0)) 153)) (n := 315) hC hD 153 dX8_plays_314 (rfl) (by omega) (rfl) ?_
                  refine g_iconst (n := 316) (v := (nI 1)) hC (by decide) dX8_plays_315 ?_
                  refine g_iadd (n := 317) hC dX8_plays_316 ?_
                  refine m_st5 (f := (va_up (va_up (wit w h (plM (sc 3) (w * h) (ar 5) (ar 4) a b) k) 152 (((wit w h (plM (sc 3) (w * h) (ar 5) (ar 4) a b) k) 152) + (nI k))) 154 (nI 0))) (n := 318) hC hD 153 dX8_plays_317 (rfl) (by omega) rfl ?_
                  refine G.eqs mdl_uu ?_
                  exact g_vret hC dX8_plays_318 (⟨rfl, rfl, rfl, k, e, cb, plQ (wit w h (plM (sc 3) (w * h) (ar 5) (ar 4) a b) k) a b k, ⟨⟨hk, hgo, Or.inl (by omega)⟩, rfl⟩, hcb, by rw [arS_v, plQ, if_neg (fun q => h292 q.1)]; rfl⟩)
                ·
                  refine g_iload_n (n := 296) hC rfl dX8_plays_295 ?_
                  refine g_iconst (n := 297) (v := (-1)) hC (by decide) dX8_plays_296 ?_
                  refine g_icmp_ne (n := 300) (tgt := 304) hC dX8_plays_297 (fun h297 => ?_) (fun h297 => ?_)
                  ·
                    refine g_iconst (n := 305) (v := (nI 0)) hC (by decide) dX8_plays_304 ?_
                    refine m_st5 (f := (va_up (wit w h (plM (sc 3) (w * h) (ar 5) (ar 4) a b) k) 152 (((wit w h (plM (sc 3) (w * h) (ar 5) (ar 4) a b) k) 152) + (nI k)))) (n := 306) hC hD 154 dX8_plays_305 (rfl) (by omega) rfl ?_
                    refine G.eqs mdl_uu ?_
                    refine g_aload_n (n := 307) hC rfl dX8_plays_306 ?_
                    refine m_get (v := .ref (M + 2)) (n := 310) hC hD gf_X8_20 dX8_plays_307 rfl ?_
                    refine g_sipush (n := 313) (v := (nI 153)) hC (by decide) dX8_plays_310 ?_
                    refine g_dup2 (n := 314) hC rfl rfl dX8_plays_313 ?_
                    refine m_ld5 (x := ((va_up (va_up (wit w h (plM (sc 3) (w * h) (ar 5) (ar 4) a b) k) 152 (((wit w h (plM (sc 3) (w * h) (ar 5) (ar 4) a b) k) 152) + (nI k))) 154 (nI 0)) 153)) (n := 315) hC hD 153 dX8_plays_314 (rfl) (by omega) (rfl) ?_
                    refine g_iconst (n := 316) (v := (nI 1)) hC (by decide) dX8_plays_315 ?_
                    refine g_iadd (n := 317) hC dX8_plays_316 ?_
                    refine m_st5 (f := (va_up (va_up (wit w h (plM (sc 3) (w * h) (ar 5) (ar 4) a b) k) 152 (((wit w h (plM (sc 3) (w * h) (ar 5) (ar 4) a b) k) 152) + (nI k))) 154 (nI 0))) (n := 318) hC hD 153 dX8_plays_317 (rfl) (by omega) rfl ?_
                    refine G.eqs mdl_uu ?_
                    exact g_vret hC dX8_plays_318 (⟨rfl, rfl, rfl, k, e, cb, plQ (wit w h (plM (sc 3) (w * h) (ar 5) (ar 4) a b) k) a b k, ⟨⟨hk, hgo, Or.inl (by omega)⟩, rfl⟩, hcb, by rw [arS_v, plQ, if_neg (fun q => h297 q.2)]; rfl⟩)
                  ·
                    refine g_iconst (n := 301) (v := (nI 1)) hC (by decide) dX8_plays_300 ?_
                    refine g_goto (n := 305) hC dX8_plays_301 ?_
                    refine m_st5 (f := (va_up (wit w h (plM (sc 3) (w * h) (ar 5) (ar 4) a b) k) 152 (((wit w h (plM (sc 3) (w * h) (ar 5) (ar 4) a b) k) 152) + (nI k)))) (n := 306) hC hD 154 dX8_plays_305 (rfl) (by omega) rfl ?_
                    refine G.eqs mdl_uu ?_
                    refine g_aload_n (n := 307) hC rfl dX8_plays_306 ?_
                    refine m_get (v := .ref (M + 2)) (n := 310) hC hD gf_X8_20 dX8_plays_307 rfl ?_
                    refine g_sipush (n := 313) (v := (nI 153)) hC (by decide) dX8_plays_310 ?_
                    refine g_dup2 (n := 314) hC rfl rfl dX8_plays_313 ?_
                    refine m_ld5 (x := ((va_up (va_up (wit w h (plM (sc 3) (w * h) (ar 5) (ar 4) a b) k) 152 (((wit w h (plM (sc 3) (w * h) (ar 5) (ar 4) a b) k) 152) + (nI k))) 154 (nI 1)) 153)) (n := 315) hC hD 153 dX8_plays_314 (rfl) (by omega) (rfl) ?_
                    refine g_iconst (n := 316) (v := (nI 1)) hC (by decide) dX8_plays_315 ?_
                    refine g_iadd (n := 317) hC dX8_plays_316 ?_
                    refine m_st5 (f := (va_up (va_up (wit w h (plM (sc 3) (w * h) (ar 5) (ar 4) a b) k) 152 (((wit w h (plM (sc 3) (w * h) (ar 5) (ar 4) a b) k) 152) + (nI k))) 154 (nI 1))) (n := 318) hC hD 153 dX8_plays_317 (rfl) (by omega) rfl ?_
                    refine G.eqs mdl_uu ?_
                    exact g_vret hC dX8_plays_318 (⟨rfl, rfl, rfl, k, e, cb, plQ (wit w h (plM (sc 3) (w * h) (ar 5) (ar 4) a b) k) a b k, ⟨⟨hk, hgo, Or.inl (by omega)⟩, rfl⟩, hcb, by rw [arS_v, plQ, if_pos (And.intro h292 h297)]; rfl⟩)
              ·
                refine g_aload_n (n := 206) hC rfl dX8_plays_205 ?_
                refine g_aload_n (n := 207) hC rfl dX8_plays_206 ?_
                refine m_get (v := .int (nI k)) (n := 210) hC hD gf_X8_141 dX8_plays_207 rfl ?_
                refine g_cV (n := 213) hC gv_X8_147 (hD 0 (by decide)) mdl_0 (M_wave K hD (show mB (scS sc (nI (clN a b)) (nI k) (nI (wsm w h (plM (sc 3) (w * h) (ar 5) (ar 4) a b) k))) w h from hB)) dX8_plays_210 ?_
                refine G.eqs (show _ = mdl K M (scS sc (nI (clN a b)) (nI k) (nI (wsm w h (plM (sc 3) (w * h) (ar 5) (ar 4) a b) k))) (va_up (va_up (arS ar (wit w h (plM (sc 3) (w * h) (ar 5) (ar 4) a b) k) e cb) 20 (wen w h (wit w h (plM (sc 3) (w * h) (ar 5) (ar 4) a b) k) e)) 5 (wst w h k (wit w h (plM (sc 3) (w * h) (ar 5) (ar 4) a b) k))) σ0 from rfl) ?_
                refine G.eqs (show _ = mdl K M (scS sc (nI (clN a b)) (nI k) (nI (wsm w h (plM (sc 3) (w * h) (ar 5) (ar 4) a b) k))) (arS ar (wst w h k (wit w h (plM (sc 3) (w * h) (ar 5) (ar 4) a b) k)) (wen w h (wit w h (plM (sc 3) (w * h) (ar 5) (ar 4) a b) k) e) cb) σ0 from by rw [arS_w]) ?_
                refine g_istore (n := 215) (ll1 := [some (.ref M), some (.int a), some (.int b), some (.int (nI mo)), some (.int (nI (wnm w h (wit w h (plM (sc 3) (w * h) (ar 5) (ar 4) a b) k))))]) hC dX8_plays_213 rfl ?_
                refine g_iload (n := 217) hC rfl dX8_plays_215 ?_
                refine g_if_leN (n := 220) (tgt := 224) hC (by omega) dX8_plays_217 (fun h217 => ?_) (fun h217 => ?_)
                ·
                  refine g_iconst (n := 225) (v := (nI 0)) hC (by decide) dX8_plays_224 ?_
                  refine g_istore_n (n := 226) (ll1 := [some (.ref M), some (.int a), some (.int b), some (.int (nI 0)), some (.int (nI (wnm w h (wit w h (plM (sc 3) (w * h) (ar 5) (ar 4) a b) k))))]) hC dX8_plays_225 rfl ?_
                  refine g_iload_n (n := 227) hC rfl dX8_plays_226 ?_
                  refine g_if_ne (n := 230) (tgt := 233) hC dX8_plays_227 (fun h9 => absurd h9 (by decide)) (fun _ => ?_)
                  refine g_goto (n := 192) hC dX8_plays_230 ?_
                  refine G.eqs (show _ = mdl K M (scS sc (nI (clN a b)) (nI k) (nI (wsm w h (plM (sc 3) (w * h) (ar 5) (ar 4) a b) k))) (arS ar (wit w h (plM (sc 3) (w * h) (ar 5) (ar 4) a b) k) (wen w h (wit w h (plM (sc 3) (w * h) (ar 5) (ar 4) a b) k) e) cb) σ0 from (by rw [wst_id h217])) ?_
                  exact G.le (ih192 k 0 (wen w h (wit w h (plM (sc 3) (w * h) (ar 5) (ar 4) a b) k) e) cb (by omega) (by first | exact (fun j hj => absurd hj (Nat.not_lt_zero _)) | exact hgo | exact wgo_s hgo (by omega)) (by first | exact (fun j hj => absurd hj (Nat.not_lt_zero _)) | exact hcb | (intro j hj; by_cases e9 : j = k; (rw [e9, va_up_self]); (rw [va_up_ne _ _ e9]; exact hcb j (by omega)))) (by first | exact Or.inl rfl | exact Or.inr ⟨rfl, h217⟩) _ (by rfl) (by omega)) (And.intro rfl (And.intro rfl (And.intro rfl (And.intro rfl (trivial)))))
                ·
                  refine g_iconst (n := 221) (v := (nI 1)) hC (by decide) dX8_plays_220 ?_
                  refine g_goto (n := 225) hC dX8_plays_221 ?_
                  refine g_istore_n (n := 226) (ll1 := [some (.ref M), some (.int a), some (.int b), some (.int (nI 1)), some (.int (nI (wnm w h (wit w h (plM (sc 3) (w * h) (ar 5) (ar 4) a b) k))))]) hC dX8_plays_225 rfl ?_
                  refine g_iload_n (n := 227) hC rfl dX8_plays_226 ?_
                  refine g_if_ne (n := 230) (tgt := 233) hC dX8_plays_227 (fun _ => ?_) (fun h9 => absurd h9 (by decide))
                  refine g_aload_n (n := 234) hC rfl dX8_plays_233 ?_
                  refine m_get (v := .ref (M + 14)) (n := 237) hC hD gf_X8_56 dX8_plays_234 rfl ?_
                  refine g_aload_n (n := 238) hC rfl dX8_plays_237 ?_
                  refine m_get (v := .int (nI k)) (n := 241) hC hD gf_X8_141 dX8_plays_238 rfl ?_
                  refine g_iload (n := 243) hC rfl dX8_plays_241 ?_
                  refine m_st21 (f := cb) (n := 244) hC hD k dX8_plays_243 (rfl) (by omega) rfl ?_
                  refine g_aload_n (n := 245) hC rfl dX8_plays_244 ?_
                  refine g_dup (n := 246) hC rfl dX8_plays_245 ?_
                  refine m_get (v := .int (nI (wsm w h (plM (sc 3) (w * h) (ar 5) (ar 4) a b) k))) (n := 249) hC hD gf_X8_144 dX8_plays_246 rfl ?_
                  refine g_iload (n := 251) hC rfl dX8_plays_249 ?_
                  refine g_iaddN (n := 252) hC dX8_plays_251 ?_
                  refine m_put24 (n := 255) hC hD gp_X8_144 dX8_plays_252 ?_
                  refine g_aload_n (n := 256) hC rfl dX8_plays_255 ?_
                  refine g_dup (n := 257) hC rfl dX8_plays_256 ?_
                  refine m_get (v := .int (nI k)) (n := 260) hC hD gf_X8_141 dX8_plays_257 rfl ?_
                  refine g_iconst (n := 261) (v := (nI 1)) hC (by decide) dX8_plays_260 ?_
                  refine g_iaddN (n := 262) hC dX8_plays_261 ?_
                  refine m_put23 (n := 265) hC hD gp_X8_141 dX8_plays_262 ?_
                  refine g_goto (n := 192) hC dX8_plays_265 ?_
                  refine G.eqs (show _ = mdl K M (scS sc (nI (clN a b)) (nI (k + 1)) (nI (wsm w h (plM (sc 3) (w * h) (ar 5) (ar 4) a b) (k + 1)))) (arS ar (wit w h (plM (sc 3) (w * h) (ar 5) (ar 4) a b) (k + 1)) (wen w h (wit w h (plM (sc 3) (w * h) (ar 5) (ar 4) a b) k) e) (va_up cb k (nI (wnm w h (wit w h (plM (sc 3) (w * h) (ar 5) (ar 4) a b) k))))) σ0 from (by rw [arS_c, scS_cw]; rfl)) ?_
                  exact G.le (ih192 (k + 1) 1 (wen w h (wit w h (plM (sc 3) (w * h) (ar 5) (ar 4) a b) k) e) (va_up cb k (nI (wnm w h (wit w h (plM (sc 3) (w * h) (ar 5) (ar 4) a b) k)))) (by omega) (by first | exact (fun j hj => absurd hj (Nat.not_lt_zero _)) | exact hgo | exact wgo_s hgo (by omega)) (by first | exact (fun j hj => absurd hj (Nat.not_lt_zero _)) | exact hcb | (intro j hj; by_cases e9 : j = k; (rw [e9, va_up_self]); (rw [va_up_ne _ _ e9]; exact hcb j (by omega)))) (by first | exact Or.inl rfl | exact Or.inr ⟨rfl, h217⟩) _ (by rfl) (by omega)) (And.intro rfl (And.intro rfl (And.intro rfl (And.intro rfl (trivial)))))
        refine g_istore_n (n := 192) (ll1 := [some (.ref M), some (.int a), some (.int b), some (.int (nI 1)), none]) hC dX8_plays_191 rfl ?_
        refine G.eqs (show _ = mdl K M (scS sc (nI (clN a b)) (nI 0) (nI (wsm w h (plM (sc 3) (w * h) (ar 5) (ar 4) a b) 0))) (arS ar (wit w h (plM (sc 3) (w * h) (ar 5) (ar 4) a b) 0) (ar 20) (ar 21)) σ0 from (by rw [arS_0]; rfl)) ?_
        exact lp192 _ 0 1 (ar 20) (ar 21) (by omega) (by first | exact (fun j hj => absurd hj (Nat.not_lt_zero _)) | exact hgo | exact wgo_s hgo (by omega)) (by first | exact (fun j hj => absurd hj (Nat.not_lt_zero _)) | exact hcb | (intro j hj; by_cases e9 : j = k; (rw [e9, va_up_self]); (rw [va_up_ne _ _ e9]; exact hcb j (by omega)))) (by first | exact Or.inl rfl | exact Or.inr ⟨rfl, h217⟩) _ (by rfl) (Nat.lt_succ_self _)
      refine g_iload_n (n := 154) hC rfl dX8_plays_153 ?_
      refine g_iconst (n := 155) (v := (-1)) hC (by decide) dX8_plays_154 ?_
      refine g_icmp_ne (n := 158) (tgt := 162) hC dX8_plays_155 (fun h155 => ?_) (fun h155 => ?_)
      ·
        refine g_iconst (n := 163) (v := (nI 0)) hC (by decide) dX8_plays_162 ?_
        exact lp163  _ (by first | (rw [if_pos h155]; done) | (rw [if_neg h155]; done))
      ·
        refine g_iconst (n := 159) (v := (nI 1)) hC (by decide) dX8_plays_158 ?_
        refine g_goto (n := 163) hC dX8_plays_159 ?_
        exact lp163  _ (by first | (rw [if_pos h155]; done) | (rw [if_neg h155]; done))
    refine g_iload_n (n := 133) hC rfl dX8_plays_132 ?_
    refine g_iconst (n := 134) (v := (-1)) hC (by decide) dX8_plays_133 ?_
    refine g_icmp_ne (n := 137) (tgt := 141) hC dX8_plays_134 (fun h134 => ?_) (fun h134 => ?_)
    ·
      refine g_iconst (n := 142) (v := (nI 0)) hC (by decide) dX8_plays_141 ?_
      exact lp142  _ (by first | (rw [if_pos h134]; done) | (rw [if_neg h134]; done))
    ·
      refine g_iconst (n := 138) (v := (nI 1)) hC (by decide) dX8_plays_137 ?_
      refine g_goto (n := 142) hC dX8_plays_138 ?_
      exact lp142  _ (by first | (rw [if_pos h134]; done) | (rw [if_neg h134]; done))
  refine g_aload_n (n := 1) hC rfl dX8_plays_0 ?_
  refine g_iload_n (n := 2) hC rfl dX8_plays_1 ?_
  refine g_iload_n (n := 3) hC rfl dX8_plays_2 ?_
  refine g_icmp_ne (n := 6) (tgt := 15) hC dX8_plays_3 (fun h3 => ?_) (fun h3 => ?_)
  ·
    refine g_iconst (n := 16) (v := (nI 0)) hC (by decide) dX8_plays_15 ?_
    refine m_put22 (n := 19) hC hD gp_X8_135 dX8_plays_16 ?_
    refine g_aload_n (n := 20) hC rfl dX8_plays_19 ?_
    refine m_get (v := .int (nI 0)) (n := 23) hC hD gf_X8_135 dX8_plays_20 rfl ?_
    refine g_iconst (n := 24) (v := (nI 1)) hC (by decide) dX8_plays_23 ?_
    refine g_icmp_neN (n := 27) (tgt := 99) hC (by decide) (by decide) dX8_plays_24 (fun _ => ?_) (fun h9 => absurd h9 (by decide))
    refine g_iload_n (n := 100) hC rfl dX8_plays_99 ?_
    refine g_iconst (n := 101) (v := (-1)) hC (by decide) dX8_plays_100 ?_
    refine g_icmp_eq (n := 104) (tgt := 111) hC dX8_plays_101 (fun h101 => ?_) (fun h101 => ?_)
    ·
      refine g_iload_n (n := 112) hC rfl dX8_plays_111 ?_
      refine g_iconst (n := 113) (v := (-1)) hC (by decide) dX8_plays_112 ?_
      refine g_icmp_eq (n := 116) (tgt := 123) hC dX8_plays_113 (fun h113 => ?_) (fun h113 => ?_)
      ·
        refine G.eqs (show _ = mdl K M (va_up sc 22 (nI (clN a b))) (va_up ar 5 (plC (sc 3) (scF (ar 5) (ar 4) (w * h) 0) (scF (ar 5) (ar 4) (w * h) 1) (ar 5) a b)) σ0 from (by first | (simp [plC, plP, clN, va_up_same, nI20, h3, h101, h113]; done) | exact absurd h101 h113 | exact absurd h113 h101)) ?_
        exact lp123 
      ·
        refine g_aload_n (n := 117) hC rfl dX8_plays_116 ?_
        refine g_iload_n (n := 118) hC rfl dX8_plays_117 ?_
        refine g_iconst (n := 119) (v := (nI 2)) hC (by decide) dX8_plays_118 ?_
        refine g_iconst (n := 120) (v := (-1)) hC (by decide) dX8_plays_119 ?_
        refine g_cVv (n := 123) hC gv_X8_131 (hD 0 (by decide)) mdl_0 (M_becomesI K hD (show mB (va_up sc 22 (nI 0)) w h from hB) hb h113) dX8_plays_120 ?_
        refine G.eqs (show _ = mdl K M (va_up sc 22 (nI 0)) (va_up ar 5 (becF (ar 5) (b).toNatClampNeg (nI 2) (-1))) σ0 from rfl) ?_
        refine G.eqs (show _ = mdl K M (va_up sc 22 (nI (clN a b))) (va_up ar 5 (plC (sc 3) (scF (ar 5) (ar 4) (w * h) 0) (scF (ar 5) (ar 4) (w * h) 1) (ar 5) a b)) σ0 from (by first | (simp [plC, plP, clN, va_up_same, nI20, h3, h101, h113]; done) | exact absurd h101 h113 | exact absurd h113 h101)) ?_
        exact lp123 
    ·
      refine g_aload_n (n := 105) hC rfl dX8_plays_104 ?_
      refine g_iload_n (n := 106) hC rfl dX8_plays_105 ?_
      refine g_iconst (n := 107) (v := (nI 1)) hC (by decide) dX8_plays_106 ?_
      refine g_iconst (n := 108) (v := (-1)) hC (by decide) dX8_plays_107 ?_
      refine g_cVv (n := 111) hC gv_X8_131 (hD 0 (by decide)) mdl_0 (M_becomesI K hD (show mB (va_up sc 22 (nI 0)) w h from hB) ha h101) dX8_plays_108 ?_
      refine G.eqs (show _ = mdl K M (va_up sc 22 (nI 0)) (va_up ar 5 (becF (ar 5) (a).toNatClampNeg (nI 1) (-1))) σ0 from rfl) ?_
      refine g_iload_n (n := 112) hC rfl dX8_plays_111 ?_
      refine g_iconst (n := 113) (v := (-1)) hC (by decide) dX8_plays_112 ?_
      refine g_icmp_eq (n := 116) (tgt := 123) hC dX8_plays_113 (fun h113 => ?_) (fun h113 => ?_)
      ·
        refine G.eqs (show _ = mdl K M (va_up sc 22 (nI (clN a b))) (va_up ar 5 (plC (sc 3) (scF (ar 5) (ar 4) (w * h) 0) (scF (ar 5) (ar 4) (w * h) 1) (ar 5) a b)) σ0 from (by first | (simp [plC, plP, clN, va_up_same, nI20, h3, h101, h113]; done) | exact absurd h101 h113 | exact absurd h113 h101)) ?_
        exact lp123 
      ·
        refine g_aload_n (n := 117) hC rfl dX8_plays_116 ?_
        refine g_iload_n (n := 118) hC rfl dX8_plays_117 ?_
        refine g_iconst (n := 119) (v := (nI 2)) hC (by decide) dX8_plays_118 ?_
        refine g_iconst (n := 120) (v := (-1)) hC (by decide) dX8_plays_119 ?_
        refine g_cVv (n := 123) hC gv_X8_131 (hD 0 (by decide)) mdl_0 (M_becomesI K hD (show mB (va_up sc 22 (nI 0)) w h from hB) hb h113) dX8_plays_120 ?_
        refine G.eqs mdl_uu ?_
        refine G.eqs (show _ = mdl K M (va_up sc 22 (nI 0)) (va_up ar 5 (becF (becF (ar 5) (a).toNatClampNeg (nI 1) (-1)) (b).toNatClampNeg (nI 2) (-1))) σ0 from rfl) ?_
        refine G.eqs (show _ = mdl K M (va_up sc 22 (nI (clN a b))) (va_up ar 5 (plC (sc 3) (scF (ar 5) (ar 4) (w * h) 0) (scF (ar 5) (ar 4) (w * h) 1) (ar 5) a b)) σ0 from (by first | (simp [plC, plP, clN, va_up_same, nI20, h3, h101, h113]; done) | exact absurd h101 h113 | exact absurd h113 h101)) ?_
        exact lp123 
  ·
    refine g_iload_n (n := 7) hC rfl dX8_plays_6 ?_
    refine g_iconst (n := 8) (v := (-1)) hC (by decide) dX8_plays_7 ?_
    refine g_icmp_eq (n := 11) (tgt := 15) hC dX8_plays_8 (fun h8 => ?_) (fun h8 => ?_)
    ·
      refine g_iconst (n := 16) (v := (nI 0)) hC (by decide) dX8_plays_15 ?_
      refine m_put22 (n := 19) hC hD gp_X8_135 dX8_plays_16 ?_
      refine g_aload_n (n := 20) hC rfl dX8_plays_19 ?_
      refine m_get (v := .int (nI 0)) (n := 23) hC hD gf_X8_135 dX8_plays_20 rfl ?_
      refine g_iconst (n := 24) (v := (nI 1)) hC (by decide) dX8_plays_23 ?_
      refine g_icmp_neN (n := 27) (tgt := 99) hC (by decide) (by decide) dX8_plays_24 (fun _ => ?_) (fun h9 => absurd h9 (by decide))
      refine g_iload_n (n := 100) hC rfl dX8_plays_99 ?_
      refine g_iconst (n := 101) (v := (-1)) hC (by decide) dX8_plays_100 ?_
      refine g_icmp_eq (n := 104) (tgt := 111) hC dX8_plays_101 (fun h101 => ?_) (fun h101 => ?_)
      ·
        refine g_iload_n (n := 112) hC rfl dX8_plays_111 ?_
        refine g_iconst (n := 113) (v := (-1)) hC (by decide) dX8_plays_112 ?_
        refine g_icmp_eq (n := 116) (tgt := 123) hC dX8_plays_113 (fun h113 => ?_) (fun h113 => ?_)
        ·
          refine G.eqs (show _ = mdl K M (va_up sc 22 (nI (clN a b))) (va_up ar 5 (plC (sc 3) (scF (ar 5) (ar 4) (w * h) 0) (scF (ar 5) (ar 4) (w * h) 1) (ar 5) a b)) σ0 from (by subst h3; first | (simp [plC, plP, clN, va_up_same, nI20, h8, h101, h113]; done) | exact absurd h8 h101 | exact absurd h8 h113 | exact absurd h101 h8 | exact absurd h101 h113 | exact absurd h113 h8 | exact absurd h113 h101)) ?_
          exact lp123 
        ·
          refine g_aload_n (n := 117) hC rfl dX8_plays_116 ?_
          refine g_iload_n (n := 118) hC rfl dX8_plays_117 ?_
          refine g_iconst (n := 119) (v := (nI 2)) hC (by decide) dX8_plays_118 ?_
          refine g_iconst (n := 120) (v := (-1)) hC (by decide) dX8_plays_119 ?_
          refine g_cVv (n := 123) hC gv_X8_131 (hD 0 (by decide)) mdl_0 (M_becomesI K hD (show mB (va_up sc 22 (nI 0)) w h from hB) hb h113) dX8_plays_120 ?_
          refine G.eqs (show _ = mdl K M (va_up sc 22 (nI 0)) (va_up ar 5 (becF (ar 5) (b).toNatClampNeg (nI 2) (-1))) σ0 from rfl) ?_
          refine G.eqs (show _ = mdl K M (va_up sc 22 (nI (clN a b))) (va_up ar 5 (plC (sc 3) (scF (ar 5) (ar 4) (w * h) 0) (scF (ar 5) (ar 4) (w * h) 1) (ar 5) a b)) σ0 from (by subst h3; first | (simp [plC, plP, clN, va_up_same, nI20, h8, h101, h113]; done) | exact absurd h8 h101 | exact absurd h8 h113 | exact absurd h101 h8 | exact absurd h101 h113 | exact absurd h113 h8 | exact absurd h113 h101)) ?_
          exact lp123 
      ·
        refine g_aload_n (n := 105) hC rfl dX8_plays_104 ?_
        refine g_iload_n (n := 106) hC rfl dX8_plays_105 ?_
        refine g_iconst (n := 107) (v := (nI 1)) hC (by decide) dX8_plays_106 ?_
        refine g_iconst (n := 108) (v := (-1)) hC (by decide) dX8_plays_107 ?_
        refine g_cVv (n := 111) hC gv_X8_131 (hD 0 (by decide)) mdl_0 (M_becomesI K hD (show mB (va_up sc 22 (nI 0)) w h from hB) ha h101) dX8_plays_108 ?_
        refine G.eqs (show _ = mdl K M (va_up sc 22 (nI 0)) (va_up ar 5 (becF (ar 5) (a).toNatClampNeg (nI 1) (-1))) σ0 from rfl) ?_
        refine g_iload_n (n := 112) hC rfl dX8_plays_111 ?_
        refine g_iconst (n := 113) (v := (-1)) hC (by decide) dX8_plays_112 ?_
        refine g_icmp_eq (n := 116) (tgt := 123) hC dX8_plays_113 (fun h113 => ?_) (fun h113 => ?_)
        ·
          refine G.eqs (show _ = mdl K M (va_up sc 22 (nI (clN a b))) (va_up ar 5 (plC (sc 3) (scF (ar 5) (ar 4) (w * h) 0) (scF (ar 5) (ar 4) (w * h) 1) (ar 5) a b)) σ0 from (by subst h3; first | (simp [plC, plP, clN, va_up_same, nI20, h8, h101, h113]; done) | exact absurd h8 h101 | exact absurd h8 h113 | exact absurd h101 h8 | exact absurd h101 h113 | exact absurd h113 h8 | exact absurd h113 h101)) ?_
          exact lp123 
        ·
          refine g_aload_n (n := 117) hC rfl dX8_plays_116 ?_
          refine g_iload_n (n := 118) hC rfl dX8_plays_117 ?_
          refine g_iconst (n := 119) (v := (nI 2)) hC (by decide) dX8_plays_118 ?_
          refine g_iconst (n := 120) (v := (-1)) hC (by decide) dX8_plays_119 ?_
          refine g_cVv (n := 123) hC gv_X8_131 (hD 0 (by decide)) mdl_0 (M_becomesI K hD (show mB (va_up sc 22 (nI 0)) w h from hB) hb h113) dX8_plays_120 ?_
          refine G.eqs mdl_uu ?_
          refine G.eqs (show _ = mdl K M (va_up sc 22 (nI 0)) (va_up ar 5 (becF (becF (ar 5) (a).toNatClampNeg (nI 1) (-1)) (b).toNatClampNeg (nI 2) (-1))) σ0 from rfl) ?_
          refine G.eqs (show _ = mdl K M (va_up sc 22 (nI (clN a b))) (va_up ar 5 (plC (sc 3) (scF (ar 5) (ar 4) (w * h) 0) (scF (ar 5) (ar 4) (w * h) 1) (ar 5) a b)) σ0 from (by subst h3; first | (simp [plC, plP, clN, va_up_same, nI20, h8, h101, h113]; done) | exact absurd h8 h101 | exact absurd h8 h113 | exact absurd h101 h8 | exact absurd h101 h113 | exact absurd h113 h8 | exact absurd h113 h101)) ?_
          exact lp123 
    ·
      refine g_iconst (n := 12) (v := (nI 1)) hC (by decide) dX8_plays_11 ?_
      refine g_goto (n := 16) hC dX8_plays_12 ?_
      refine m_put22 (n := 19) hC hD gp_X8_135 dX8_plays_16 ?_
      refine g_aload_n (n := 20) hC rfl dX8_plays_19 ?_
      refine m_get (v := .int (nI 1)) (n := 23) hC hD gf_X8_135 dX8_plays_20 rfl ?_
      refine g_iconst (n := 24) (v := (nI 1)) hC (by decide) dX8_plays_23 ?_
      refine g_icmp_neN (n := 27) (tgt := 99) hC (by decide) (by decide) dX8_plays_24 (fun h9 => absurd h9 (by decide)) (fun _ => ?_)
      refine g_aload_n (n := 28) hC rfl dX8_plays_27 ?_
      refine g_iconst (n := 29) (v := (nI 0)) hC (by decide) dX8_plays_28 ?_
      refine g_cV (n := 32) hC gv_X8_138 (hD 0 (by decide)) mdl_0 (M_score K hD (show mB (va_up sc 22 (nI 1)) w h from hB) (p := 0) (by omega)) dX8_plays_29 ?_
      refine g_istore_n (n := 33) (ll1 := [some (.ref M), some (.int a), some (.int b), some (.int (scF (ar 5) (ar 4) (w * h) 0)), none]) hC dX8_plays_32 rfl ?_
      refine g_aload_n (n := 34) hC rfl dX8_plays_33 ?_
      refine g_iconst (n := 35) (v := (nI 1)) hC (by decide) dX8_plays_34 ?_
      refine g_cV (n := 38) hC gv_X8_138 (hD 0 (by decide)) mdl_0 (M_score K hD (show mB (va_up sc 22 (nI 1)) w h from hB) (p := 1) (by omega)) dX8_plays_35 ?_
      refine g_istore (n := 40) (ll1 := [some (.ref M), some (.int a), some (.int b), some (.int (scF (ar 5) (ar 4) (w * h) 0)), some (.int (scF (ar 5) (ar 4) (w * h) 1))]) hC dX8_plays_38 rfl ?_
      refine g_aload_n (n := 41) hC rfl dX8_plays_40 ?_
      refine m_get (v := .int (sc 3)) (n := 44) hC hD gf_X8_88 dX8_plays_41 rfl ?_
      refine g_if_eq (n := 47) (tgt := 61) hC dX8_plays_44 (fun h44 => ?_) (fun h44 => ?_)
      ·
        refine g_aload_n (n := 62) hC rfl dX8_plays_61 ?_
        refine g_iload_n (n := 63) hC rfl dX8_plays_62 ?_
        refine g_iconst (n := 64) (v := (nI 5)) hC (by decide) dX8_plays_63 ?_
        refine g_iconst (n := 65) (v := (-1)) hC (by decide) dX8_plays_64 ?_
        refine g_cVv (n := 68) hC gv_X8_131 (hD 0 (by decide)) mdl_0 (M_becomesI K hD (show mB (va_up sc 22 (nI 1)) w h from hB) ha h8) dX8_plays_65 ?_
        refine G.eqs (show _ = mdl K M (va_up sc 22 (nI 1)) (va_up ar 5 (becF (ar 5) (a).toNatClampNeg (nI 5) (-1))) σ0 from rfl) ?_
        refine g_goto (n := 96) hC dX8_plays_68 ?_
        refine g_goto (n := 123) hC dX8_plays_96 ?_
        refine G.eqs (show _ = mdl K M (va_up sc 22 (nI (clN a b))) (va_up ar 5 (plC (sc 3) (scF (ar 5) (ar 4) (w * h) 0) (scF (ar 5) (ar 4) (w * h) 1) (ar 5) a b)) σ0 from (by subst h3; first | (simp [plC, plP, clN, va_up_same, nI20, h8, h44]; done))) ?_
        exact G.le (lp123 ) (And.intro rfl (And.intro rfl (And.intro rfl (trivial))))
      ·
        refine g_aload_n (n := 48) hC rfl dX8_plays_47 ?_
        refine m_get (v := .int (sc 3)) (n := 51) hC hD gf_X8_88 dX8_plays_48 rfl ?_
        refine g_iconst (n := 52) (v := (nI 2)) hC (by decide) dX8_plays_51 ?_
        refine g_icmp_ne (n := 55) (tgt := 71) hC dX8_plays_52 (fun h52 => ?_) (fun h52 => ?_)
        ·
          refine g_aload_n (n := 72) hC rfl dX8_plays_71 ?_
          refine m_get (v := .int (sc 3)) (n := 75) hC hD gf_X8_88 dX8_plays_72 rfl ?_
          refine g_iconst (n := 76) (v := (nI 2)) hC (by decide) dX8_plays_75 ?_
          refine g_icmp_ne (n := 79) (tgt := 96) hC dX8_plays_76 (fun h76 => ?_) (fun h76 => ?_)
          ·
            refine g_goto (n := 123) hC dX8_plays_96 ?_
            refine G.eqs (show _ = mdl K M (va_up sc 22 (nI (clN a b))) (va_up ar 5 (plC (sc 3) (scF (ar 5) (ar 4) (w * h) 0) (scF (ar 5) (ar 4) (w * h) 1) (ar 5) a b)) σ0 from (by subst h3; first | (simp [plC, plP, clN, va_up_same, nI20, h8, h44, h52, h76]; done) | exact absurd h52 h76 | exact absurd h76 h52)) ?_
            exact G.le (lp123 ) (And.intro rfl (And.intro rfl (And.intro rfl (trivial))))
          ·
            refine g_aload_n (n := 80) hC rfl dX8_plays_79 ?_
            refine g_iload_n (n := 81) hC rfl dX8_plays_80 ?_
            refine g_iload_n (n := 82) hC rfl dX8_plays_81 ?_
            refine g_iload (n := 84) hC rfl dX8_plays_82 ?_
            refine g_icmp_ge (n := 87) (tgt := 91) hC dX8_plays_84 (fun h84 => ?_) (fun h84 => ?_)
            ·
              refine g_iconst (n := 92) (v := (nI 2)) hC (by decide) dX8_plays_91 ?_
              refine g_iconst (n := 93) (v := (-1)) hC (by decide) dX8_plays_92 ?_
              refine g_cVv (n := 96) hC gv_X8_131 (hD 0 (by decide)) mdl_0 (M_becomesI K hD (show mB (va_up sc 22 (nI 1)) w h from hB) ha h8) dX8_plays_93 ?_
              refine G.eqs (show _ = mdl K M (va_up sc 22 (nI 1)) (va_up ar 5 (becF (ar 5) (a).toNatClampNeg (nI 2) (-1))) σ0 from rfl) ?_
              refine g_goto (n := 123) hC dX8_plays_96 ?_
              refine G.eqs (show _ = mdl K M (va_up sc 22 (nI (clN a b))) (va_up ar 5 (plC (sc 3) (scF (ar 5) (ar 4) (w * h) 0) (scF (ar 5) (ar 4) (w * h) 1) (ar 5) a b)) σ0 from (by subst h3; first | (simp [plC, plP, clN, va_up_same, nI20, h8, h44, h52, h76, Int32.not_lt.mpr h84]; done) | exact absurd h52 h76 | exact absurd h76 h52)) ?_
              exact G.le (lp123 ) (And.intro rfl (And.intro rfl (And.intro rfl (trivial))))
            ·
              refine g_iconst (n := 88) (v := (nI 1)) hC (by decide) dX8_plays_87 ?_
              refine g_goto (n := 92) hC dX8_plays_88 ?_
              refine g_iconst (n := 93) (v := (-1)) hC (by decide) dX8_plays_92 ?_
              refine g_cVv (n := 96) hC gv_X8_131 (hD 0 (by decide)) mdl_0 (M_becomesI K hD (show mB (va_up sc 22 (nI 1)) w h from hB) ha h8) dX8_plays_93 ?_
              refine G.eqs (show _ = mdl K M (va_up sc 22 (nI 1)) (va_up ar 5 (becF (ar 5) (a).toNatClampNeg (nI 1) (-1))) σ0 from rfl) ?_
              refine g_goto (n := 123) hC dX8_plays_96 ?_
              refine G.eqs (show _ = mdl K M (va_up sc 22 (nI (clN a b))) (va_up ar 5 (plC (sc 3) (scF (ar 5) (ar 4) (w * h) 0) (scF (ar 5) (ar 4) (w * h) 1) (ar 5) a b)) σ0 from (by subst h3; first | (simp [plC, plP, clN, va_up_same, nI20, h8, h44, h52, h76, Int32.not_le.mp h84]; done) | exact absurd h52 h76 | exact absurd h76 h52)) ?_
              exact G.le (lp123 ) (And.intro rfl (And.intro rfl (And.intro rfl (trivial))))
        ·
          refine g_iload_n (n := 56) hC rfl dX8_plays_55 ?_
          refine g_iload (n := 58) hC rfl dX8_plays_56 ?_
          refine g_icmp_ne (n := 61) (tgt := 71) hC dX8_plays_58 (fun h58 => ?_) (fun h58 => ?_)
          ·
            refine g_aload_n (n := 72) hC rfl dX8_plays_71 ?_
            refine m_get (v := .int (sc 3)) (n := 75) hC hD gf_X8_88 dX8_plays_72 rfl ?_
            refine g_iconst (n := 76) (v := (nI 2)) hC (by decide) dX8_plays_75 ?_
            refine g_icmp_ne (n := 79) (tgt := 96) hC dX8_plays_76 (fun h76 => ?_) (fun h76 => ?_)
            ·
              refine g_goto (n := 123) hC dX8_plays_96 ?_
              refine G.eqs (show _ = mdl K M (va_up sc 22 (nI (clN a b))) (va_up ar 5 (plC (sc 3) (scF (ar 5) (ar 4) (w * h) 0) (scF (ar 5) (ar 4) (w * h) 1) (ar 5) a b)) σ0 from (by subst h3; first | (simp [plC, plP, clN, va_up_same, nI20, h8, h44, h52, h58, h76]; done) | exact absurd h52 h76 | exact absurd h76 h52)) ?_
              exact G.le (lp123 ) (And.intro rfl (And.intro rfl (And.intro rfl (trivial))))
            ·
              refine g_aload_n (n := 80) hC rfl dX8_plays_79 ?_
              refine g_iload_n (n := 81) hC rfl dX8_plays_80 ?_
              refine g_iload_n (n := 82) hC rfl dX8_plays_81 ?_
              refine g_iload (n := 84) hC rfl dX8_plays_82 ?_
              refine g_icmp_ge (n := 87) (tgt := 91) hC dX8_plays_84 (fun h84 => ?_) (fun h84 => ?_)
              ·
                refine g_iconst (n := 92) (v := (nI 2)) hC (by decide) dX8_plays_91 ?_
                refine g_iconst (n := 93) (v := (-1)) hC (by decide) dX8_plays_92 ?_
                refine g_cVv (n := 96) hC gv_X8_131 (hD 0 (by decide)) mdl_0 (M_becomesI K hD (show mB (va_up sc 22 (nI 1)) w h from hB) ha h8) dX8_plays_93 ?_
                refine G.eqs (show _ = mdl K M (va_up sc 22 (nI 1)) (va_up ar 5 (becF (ar 5) (a).toNatClampNeg (nI 2) (-1))) σ0 from rfl) ?_
                refine g_goto (n := 123) hC dX8_plays_96 ?_
                refine G.eqs (show _ = mdl K M (va_up sc 22 (nI (clN a b))) (va_up ar 5 (plC (sc 3) (scF (ar 5) (ar 4) (w * h) 0) (scF (ar 5) (ar 4) (w * h) 1) (ar 5) a b)) σ0 from (by subst h3; first | (simp [plC, plP, clN, va_up_same, nI20, h8, h44, h52, h58, h76, Int32.not_lt.mpr h84]; done) | exact absurd h52 h76 | exact absurd h76 h52)) ?_
                exact G.le (lp123 ) (And.intro rfl (And.intro rfl (And.intro rfl (trivial))))
              ·
                refine g_iconst (n := 88) (v := (nI 1)) hC (by decide) dX8_plays_87 ?_
                refine g_goto (n := 92) hC dX8_plays_88 ?_
                refine g_iconst (n := 93) (v := (-1)) hC (by decide) dX8_plays_92 ?_
                refine g_cVv (n := 96) hC gv_X8_131 (hD 0 (by decide)) mdl_0 (M_becomesI K hD (show mB (va_up sc 22 (nI 1)) w h from hB) ha h8) dX8_plays_93 ?_
                refine G.eqs (show _ = mdl K M (va_up sc 22 (nI 1)) (va_up ar 5 (becF (ar 5) (a).toNatClampNeg (nI 1) (-1))) σ0 from rfl) ?_
                refine g_goto (n := 123) hC dX8_plays_96 ?_
                refine G.eqs (show _ = mdl K M (va_up sc 22 (nI (clN a b))) (va_up ar 5 (plC (sc 3) (scF (ar 5) (ar 4) (w * h) 0) (scF (ar 5) (ar 4) (w * h) 1) (ar 5) a b)) σ0 from (by subst h3; first | (simp [plC, plP, clN, va_up_same, nI20, h8, h44, h52, h58, h76, Int32.not_le.mp h84]; done) | exact absurd h52 h76 | exact absurd h76 h52)) ?_
                exact G.le (lp123 ) (And.intro rfl (And.intro rfl (And.intro rfl (trivial))))
          ·
            refine g_aload_n (n := 62) hC rfl dX8_plays_61 ?_
            refine g_iload_n (n := 63) hC rfl dX8_plays_62 ?_
            refine g_iconst (n := 64) (v := (nI 5)) hC (by decide) dX8_plays_63 ?_
            refine g_iconst (n := 65) (v := (-1)) hC (by decide) dX8_plays_64 ?_
            refine g_cVv (n := 68) hC gv_X8_131 (hD 0 (by decide)) mdl_0 (M_becomesI K hD (show mB (va_up sc 22 (nI 1)) w h from hB) ha h8) dX8_plays_65 ?_
            refine G.eqs (show _ = mdl K M (va_up sc 22 (nI 1)) (va_up ar 5 (becF (ar 5) (a).toNatClampNeg (nI 5) (-1))) σ0 from rfl) ?_
            refine g_goto (n := 96) hC dX8_plays_68 ?_
            refine g_goto (n := 123) hC dX8_plays_96 ?_
            refine G.eqs (show _ = mdl K M (va_up sc 22 (nI (clN a b))) (va_up ar 5 (plC (sc 3) (scF (ar 5) (ar 4) (w * h) 0) (scF (ar 5) (ar 4) (w * h) 1) (ar 5) a b)) σ0 from (by subst h3; first | (simp [plC, plP, clN, va_up_same, nI20, h8, h44, h52, h58]; done))) ?_
            exact G.le (lp123 ) (And.intro rfl (And.intro rfl (And.intro rfl (trivial))))
