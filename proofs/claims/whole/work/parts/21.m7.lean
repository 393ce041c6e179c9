/-- what a refusal's report leaves -/
def rpP (K : GK) (M : Nat) (sc : Nat → Int32) (ar : Nat → Nat → Int32) (σ0 : GS) (who c : Nat) (σ2 : GS) : Prop := (ar 5 (98 + c) = -1 ∧ σ2 = mdl K M (va_up sc 27 (nI 3)) (va_up (va_up ar 25 (rp3C (ar 25) (ar 5) who c)) 26 (rp3D (ar 26) (ar 5) c)) σ0) ∨ (∃ sn wn, sn < 60 ∧ wn < 8 ∧ ar 5 (49 + c) = nI sn ∧ ar 5 (98 + c) = nI wn ∧ σ2 = mdl K M (va_up sc 27 (nI 4)) (va_up (va_up ar 25 (va_up (rp3C (ar 25) (ar 5) who c) 3 (nI 20 + ar 5 (98 + c)))) 26 (va_up (rp3D (ar 26) (ar 5) c) 3 (ar 10 (8 * sn + wn)))) σ0)
/-- what a round that is played leaves in the arrays -/
def goA (w h : Nat) (ar : Nat → Nat → Int32) (pl : Nat) (a b : Int32) (W U : Nat) (e cb f2 : Nat → Int32) : Nat → Nat → Int32 := va_up (va_up (arS (va_up ar 8 (putF (ar 5) (155 * pl) (ar 8) 155)) f2 e cb) 9 (infR (ar 9) (7 * pl) a b (nI (clN a b)) (nI W) (nI U) (scF f2 (ar 4) (w * h) 0) (scF f2 (ar 4) (w * h) 1))) 10 (putF cb (8 * pl) (ar 10) W)
theorem goA_0 {w h : Nat} {ar : Nat → Nat → Int32} {pl : Nat} {a b : Int32} {W U : Nat} {e cb f2 : Nat → Int32} : goA w h ar pl a b W U e cb f2 = va_up (va_up (arS (va_up ar 8 (putF (ar 5) (155 * pl) (ar 8) 155)) f2 e cb) 9 (infR (ar 9) (7 * pl) a b (nI (clN a b)) (nI W) (nI U) (scF f2 (ar 4) (w * h) 0) (scF f2 (ar 4) (w * h) 1))) 10 (putF cb (8 * pl) (ar 10) W) := rfl

set_option maxRecDepth 20000 in
set_option maxHeartbeats 2000000 in
theorem M_goes (K : GK) {M : Nat} {sc : Nat → Int32} {ar : Nat → Nat → Int32} {σ0 : GS} {L : List Nat} {z : Nat} (hD : mdom M L) {w h : Nat} (hB : mB sc w h) {pl : Nat} (hpl : ar 5 153 = nI pl) (hpl60 : pl < 60) (hwv : ∀ c, c < w * h → wvOK (ar 5) c) {a b : Int32} (ha : chOK (w * h) a) (hb : chOK (w * h) b) : gM K yX8_goes cX8_goes 6 (some .boolean) 7 0 0 [.ref M, .int a, .int b] z L (mdl K M sc ar σ0) (fun r z1 L1 σ2 => z1 = z ∧ L1 = L ∧ ((¬ mayF (ar 5) a ∧ r = some (.int (nI 0)) ∧ ∃ a0, a0 < w * h ∧ a = nI a0 ∧ rpP K M sc ar σ0 0 a0 σ2) ∨ (mayF (ar 5) a ∧ ¬ mayF (ar 5) b ∧ r = some (.int (nI 0)) ∧ ∃ b0, b0 < w * h ∧ b = nI b0 ∧ rpP K M sc ar σ0 1 b0 σ2) ∨ ((mayF (ar 5) a ∧ mayF (ar 5) b) ∧ r = some (.int (nI 1)) ∧ ∃ (W : Nat) (e cb f2 : Nat → Int32), plR w h (sc 3) (ar 5) (ar 4) a b W f2 ∧ (∀ j, j < W → cb j = nI (wnm w h (wit w h (plM (sc 3) (w * h) (ar 5) (ar 4) a b) j))) ∧ σ2 = mdl K M (scS sc (nI (clN a b)) (nI W) (nI (wsm w h (plM (sc 3) (w * h) (ar 5) (ar 4) a b) W))) (goA w h ar pl a b W (wsm w h (plM (sc 3) (w * h) (ar 5) (ar 4) a b) W) e cb f2) σ0))) := by
  obtain ⟨hw, hh, hw1, hw2, hh1, hh2⟩ := id hB
  have hn : w * h ≤ 49 := Nat.mul_le_mul hw2 hh2
  have hn1 : 16 ≤ w * h := Nat.mul_le_mul hw1 hh1
  refine g_intro [some (.ref M), some (.int a), some (.int b), none, none, none] (fun Γ hC => ?_) (by simp [g_en, lv_args, Value.category])
  refine g_aload_n (n := 1) hC rfl dX8_goes_0 ?_
  refine g_iload_n (n := 2) hC rfl dX8_goes_1 ?_
  refine g_cV (n := 5) hC gv_X8_157 (hD 0 (by decide)) mdl_0 (M_mayChoose K hD hB (x := a) (ha)) dX8_goes_2 ?_
  refine g_ifb_eq (n := 8) (tgt := 16) hC dX8_goes_5 (fun h5 => ?_) (fun h5 => ?_)
  ·
    refine g_aload_n (n := 17) hC rfl dX8_goes_16 ?_
    refine g_iload_n (n := 18) hC rfl dX8_goes_17 ?_
    refine g_cV (n := 21) hC gv_X8_157 (hD 0 (by decide)) mdl_0 (M_mayChoose K hD hB (x := a) (ha)) dX8_goes_18 ?_
    refine g_ifb_ne (n := 24) (tgt := 33) hC dX8_goes_21 (fun h21 => ?_) (fun h21 => ?_)
    ·
      exact absurd h21 h5
    ·
      obtain ⟨a0, ha1, ha2⟩ := ha.resolve_left (fun q => h21 (Or.inl q))
      subst ha2
      refine g_aload_n (n := 25) hC rfl dX8_goes_24 ?_
      refine g_iconst (n := 26) (v := (nI 0)) hC (by decide) dX8_goes_25 ?_
      refine g_iload_n (n := 27) hC rfl dX8_goes_26 ?_
      refine g_callV hC gv_X8_160 (M_reports K hD hB (who := 0) (c := a0) (by omega) ha1 (hwv a0 ha1)) (hD 0 (by decide)) mdl_0 (by rfl) (by decide) (by decide) (by rfl) (by rfl) (Nat.le_of_ble_eq_true rfl) (by exact ⟨Nat.le_refl _, Nat.le_refl _⟩) dX8_goes_27 (fun rv9 z9 L9 σ9 hp9 => ?_)
      obtain ⟨rfl, hz9, hL9, hrp⟩ := hp9
      rw [hz9, hL9]
      show G K Γ (z, 0, 0, L) (σ9) 30 [some (.ref M), some (.int (nI a0)), some (.int b), none, none, none] []
      refine g_goto (n := 39) hC dX8_goes_30 ?_
      refine g_iconst (n := 40) (v := (nI 0)) hC (by decide) dX8_goes_39 ?_
      exact g_zret hC (by rfl) dX8_goes_40 (⟨rfl, rfl, Or.inl ⟨h5, rfl, a0, ha1, rfl, hrp⟩⟩)
  ·
    refine g_aload_n (n := 9) hC rfl dX8_goes_8 ?_
    refine g_iload_n (n := 10) hC rfl dX8_goes_9 ?_
    refine g_cV (n := 13) hC gv_X8_157 (hD 0 (by decide)) mdl_0 (M_mayChoose K hD hB (x := b) (hb)) dX8_goes_10 ?_
    refine g_ifb_ne (n := 16) (tgt := 41) hC dX8_goes_13 (fun h13 => ?_) (fun h13 => ?_)
    ·
      refine g_aload_n (n := 42) hC rfl dX8_goes_41 ?_
      refine m_get (v := .ref (M + 2)) (n := 45) hC hD gf_X8_20 dX8_goes_42 rfl ?_
      refine g_sipush (n := 48) (v := (nI 153)) hC (by decide) dX8_goes_45 ?_
      refine m_ld5 (x := (nI pl)) (n := 49) hC hD 153 dX8_goes_48 (rfl) (by omega) (hpl) ?_
      refine g_istore_n (n := 50) (ll1 := [some (.ref M), some (.int a), some (.int b), some (.int (nI pl)), none, none]) hC dX8_goes_49 rfl ?_
      refine g_iconst (n := 51) (v := (nI 0)) hC (by decide) dX8_goes_50 ?_
      refine g_istore (n := 53) (ll1 := [some (.ref M), some (.int a), some (.int b), some (.int (nI pl)), some (.int (nI 0)), none]) hC dX8_goes_51 rfl ?_
      have lp53 : ∀ (n9 : Nat) (c : Nat) (hc : c ≤ 155) (y4 : Int32) (ey4 : y4 = (nI c)) (hm9 : 155 - c < n9), G K Γ (z, 0, 0, L) (mdl K M sc (va_up ar 8 (putF (ar 5) (155 * pl) (ar 8) c)) σ0) 53 [some (.ref M), some (.int a), some (.int b), some (.int (nI pl)), some (.int y4), none] [] := by
        intro n9
        induction n9 with
        | zero =>
          intro c hc y4 ey4 hm9
          exact absurd hm9 (Nat.not_lt_zero _)
        | succ n9 ih53 =>
          intro c hc y4 ey4 hm9
          subst ey4
          refine g_iload (n := 55) hC rfl dX8_goes_53 ?_
          refine g_sipush (n := 58) (v := (nI 155)) hC (by decide) dX8_goes_55 ?_
          refine g_icmp_geN (n := 61) (tgt := 87) hC (by omega) (by omega) dX8_goes_58 (fun h58 => ?_) (fun h58 => ?_)
          ·
            obtain rfl : c = 155 := by omega
            refine g_aload_n (n := 88) hC rfl dX8_goes_87 ?_
            refine g_iload_n (n := 89) hC rfl dX8_goes_88 ?_
            refine g_iload_n (n := 90) hC rfl dX8_goes_89 ?_
            refine g_callV hC gv_X8_164 (M_plays K hD hB ha hb) (hD 0 (by decide)) mdl_0 (by rfl) (by decide) (by decide) (by rfl) (by rfl) (Nat.le_of_ble_eq_true rfl) (by exact ⟨Nat.le_refl _, Nat.le_refl _⟩) dX8_goes_90 (fun rv9 z9 L9 σ9 hp9 => ?_)
            obtain ⟨rfl, hz9, hL9, W, e, cb, f2, hR, hcb, hs9⟩ := hp9
            rw [hz9, hL9, hs9]
            have hW : W ≤ 8 := hR.1.1
            refine G.eqs (show _ = mdl K M (scS sc (nI (clN a b)) (nI W) (nI (wsm w h (plM (sc 3) (w * h) (ar 5) (ar 4) a b) W))) (arS (va_up ar 8 (putF (ar 5) (155 * pl) (ar 8) 155)) f2 e cb) σ0 from rfl) ?_
            show G K Γ (z, 0, 0, L) (mdl K M (scS sc (nI (clN a b)) (nI W) (nI (wsm w h (plM (sc 3) (w * h) (ar 5) (ar 4) a b) W))) (arS (va_up ar 8 (putF (ar 5) (155 * pl) (ar 8) 155)) f2 e cb) σ0) 93 [some (.ref M), some (.int a), some (.int b), some (.int (nI pl)), some (.int (nI 155)), none] []
            refine g_bipush (n := 95) (v := (nI 7)) hC (by decide) dX8_goes_93 ?_
            refine g_iload_n (n := 96) hC rfl dX8_goes_95 ?_
            refine g_imulN (n := 97) hC dX8_goes_96 ?_
            refine g_istore (n := 99) (ll1 := [some (.ref M), some (.int a), some (.int b), some (.int (nI pl)), some (.int (nI (7 * pl))), none]) hC dX8_goes_97 rfl ?_
            refine g_aload_n (n := 100) hC rfl dX8_goes_99 ?_
            refine m_get (v := .ref (M + 6)) (n := 103) hC hD gf_X8_32 dX8_goes_100 rfl ?_
            refine g_iload (n := 105) hC rfl dX8_goes_103 ?_
            refine g_iload_n (n := 106) hC rfl dX8_goes_105 ?_
            refine m_st9 (f := (ar 9)) (n := 107) hC hD (7 * pl) dX8_goes_106 (rfl) (by omega) rfl ?_
            refine g_aload_n (n := 108) hC rfl dX8_goes_107 ?_
            refine m_get (v := .ref (M + 6)) (n := 111) hC hD gf_X8_32 dX8_goes_108 rfl ?_
            refine g_iload (n := 113) hC rfl dX8_goes_111 ?_
            refine g_iconst (n := 114) (v := (nI 1)) hC (by decide) dX8_goes_113 ?_
            refine g_iaddN (n := 115) hC dX8_goes_114 ?_
            refine g_iload_n (n := 116) hC rfl dX8_goes_115 ?_
            refine m_st9 (f := (va_up (ar 9) (7 * pl) a)) (n := 117) hC hD ((7 * pl) + 1) dX8_goes_116 (rfl) (by omega) rfl ?_
            refine G.eqs mdl_uu ?_
            refine g_aload_n (n := 118) hC rfl dX8_goes_117 ?_
            refine m_get (v := .ref (M + 6)) (n := 121) hC hD gf_X8_32 dX8_goes_118 rfl ?_
            refine g_iload (n := 123) hC rfl dX8_goes_121 ?_
            refine g_iconst (n := 124) (v := (nI 2)) hC (by decide) dX8_goes_123 ?_
            refine g_iaddN (n := 125) hC dX8_goes_124 ?_
            refine g_aload_n (n := 126) hC rfl dX8_goes_125 ?_
            refine m_get (v := .int (nI (clN a b))) (n := 129) hC hD gf_X8_135 dX8_goes_126 rfl ?_
            refine m_st9 (f := (va_up (va_up (ar 9) (7 * pl) a) ((7 * pl) + 1) b)) (n := 130) hC hD ((7 * pl) + 2) dX8_goes_129 (rfl) (by omega) rfl ?_
            refine G.eqs mdl_uu ?_
            refine g_aload_n (n := 131) hC rfl dX8_goes_130 ?_
            refine m_get (v := .ref (M + 6)) (n := 134) hC hD gf_X8_32 dX8_goes_131 rfl ?_
            refine g_iload (n := 136) hC rfl dX8_goes_134 ?_
            refine g_iconst (n := 137) (v := (nI 3)) hC (by decide) dX8_goes_136 ?_
            refine g_iaddN (n := 138) hC dX8_goes_137 ?_
            refine g_aload_n (n := 139) hC rfl dX8_goes_138 ?_
            refine m_get (v := .int (nI W)) (n := 142) hC hD gf_X8_141 dX8_goes_139 rfl ?_
            refine m_st9 (f := (va_up (va_up (va_up (ar 9) (7 * pl) a) ((7 * pl) + 1) b) ((7 * pl) + 2) (nI (clN a b)))) (n := 143) hC hD ((7 * pl) + 3) dX8_goes_142 (rfl) (by omega) rfl ?_
            refine G.eqs mdl_uu ?_
            refine g_aload_n (n := 144) hC rfl dX8_goes_143 ?_
            refine m_get (v := .ref (M + 6)) (n := 147) hC hD gf_X8_32 dX8_goes_144 rfl ?_
            refine g_iload (n := 149) hC rfl dX8_goes_147 ?_
            refine g_iconst (n := 150) (v := (nI 4)) hC (by decide) dX8_goes_149 ?_
            refine g_iaddN (n := 151) hC dX8_goes_150 ?_
            refine g_aload_n (n := 152) hC rfl dX8_goes_151 ?_
            refine m_get (v := .int (nI (wsm w h (plM (sc 3) (w * h) (ar 5) (ar 4) a b) W))) (n := 155) hC hD gf_X8_144 dX8_goes_152 rfl ?_
            refine m_st9 (f := (va_up (va_up (va_up (va_up (ar 9) (7 * pl) a) ((7 * pl) + 1) b) ((7 * pl) + 2) (nI (clN a b))) ((7 * pl) + 3) (nI W))) (n := 156) hC hD ((7 * pl) + 4) dX8_goes_155 (rfl) (by omega) rfl ?_
            refine G.eqs mdl_uu ?_
            refine g_aload_n (n := 157) hC rfl dX8_goes_156 ?_
            refine m_get (v := .ref (M + 6)) (n := 160) hC hD gf_X8_32 dX8_goes_157 rfl ?_
            refine g_iload (n := 162) hC rfl dX8_goes_160 ?_
            refine g_iconst (n := 163) (v := (nI 5)) hC (by decide) dX8_goes_162 ?_
            refine g_iaddN (n := 164) hC dX8_goes_163 ?_
            refine g_aload_n (n := 165) hC rfl dX8_goes_164 ?_
            refine g_iconst (n := 166) (v := (nI 0)) hC (by decide) dX8_goes_165 ?_
            refine g_cV (n := 169) hC gv_X8_138 (hD 0 (by decide)) mdl_0 (M_score K hD (show mB (scS sc (nI (clN a b)) (nI W) (nI (wsm w h (plM (sc 3) (w * h) (ar 5) (ar 4) a b) W))) w h from hB) (p := 0) (by omega)) dX8_goes_166 ?_
            refine m_st9 (f := (va_up (va_up (va_up (va_up (va_up (ar 9) (7 * pl) a) ((7 * pl) + 1) b) ((7 * pl) + 2) (nI (clN a b))) ((7 * pl) + 3) (nI W)) ((7 * pl) + 4) (nI (wsm w h (plM (sc 3) (w * h) (ar 5) (ar 4) a b) W)))) (n := 170) hC hD ((7 * pl) + 5) dX8_goes_169 (rfl) (by omega) rfl ?_
            refine G.eqs mdl_uu ?_
            refine g_aload_n (n := 171) hC rfl dX8_goes_170 ?_
            refine m_get (v := .ref (M + 6)) (n := 174) hC hD gf_X8_32 dX8_goes_171 rfl ?_
            refine g_iload (n := 176) hC rfl dX8_goes_174 ?_
            refine g_bipush (n := 178) (v := (nI 6)) hC (by decide) dX8_goes_176 ?_
            refine g_iaddN (n := 179) hC dX8_goes_178 ?_
            refine g_aload_n (n := 180) hC rfl dX8_goes_179 ?_
            refine g_iconst (n := 181) (v := (nI 1)) hC (by decide) dX8_goes_180 ?_
            refine g_cV (n := 184) hC gv_X8_138 (hD 0 (by decide)) mdl_0 (M_score K hD (show mB (scS sc (nI (clN a b)) (nI W) (nI (wsm w h (plM (sc 3) (w * h) (ar 5) (ar 4) a b) W))) w h from hB) (p := 1) (by omega)) dX8_goes_181 ?_
            refine m_st9 (f := (va_up (va_up (va_up (va_up (va_up (va_up (ar 9) (7 * pl) a) ((7 * pl) + 1) b) ((7 * pl) + 2) (nI (clN a b))) ((7 * pl) + 3) (nI W)) ((7 * pl) + 4) (nI (wsm w h (plM (sc 3) (w * h) (ar 5) (ar 4) a b) W))) ((7 * pl) + 5) (scF f2 (ar 4) (w * h) 0))) (n := 185) hC hD ((7 * pl) + 6) dX8_goes_184 (rfl) (by omega) rfl ?_
            refine G.eqs mdl_uu ?_
            refine g_iconst (n := 186) (v := (nI 0)) hC (by decide) dX8_goes_185 ?_
            refine g_istore (n := 188) (ll1 := [some (.ref M), some (.int a), some (.int b), some (.int (nI pl)), some (.int (nI (7 * pl))), some (.int (nI 0))]) hC dX8_goes_186 rfl ?_
            have lp188 : ∀ (n9 : Nat) (j : Nat) (hj : j ≤ W) (y5 : Int32) (ey5 : y5 = (nI j)) (hm9 : W - j < n9), G K Γ (z, 0, 0, L) (mdl K M (scS sc (nI (clN a b)) (nI W) (nI (wsm w h (plM (sc 3) (w * h) (ar 5) (ar 4) a b) W))) (va_up (va_up (arS (va_up ar 8 (putF (ar 5) (155 * pl) (ar 8) 155)) f2 e cb) 9 (infR (ar 9) (7 * pl) a b (nI (clN a b)) (nI W) (nI (wsm w h (plM (sc 3) (w * h) (ar 5) (ar 4) a b) W)) (scF f2 (ar 4) (w * h) 0) (scF f2 (ar 4) (w * h) 1))) 10 (putF cb (8 * pl) (ar 10) j)) σ0) 188 [some (.ref M), some (.int a), some (.int b), some (.int (nI pl)), none, some (.int y5)] [] := by
              intro n9
              induction n9 with
              | zero =>
                intro j hj y5 ey5 hm9
                exact absurd hm9 (Nat.not_lt_zero _)
              | succ n9 ih188 =>
                intro j hj y5 ey5 hm9
                subst ey5
                refine g_iload (n := 190) hC rfl dX8_goes_188 ?_
                refine g_aload_n (n := 191) hC rfl dX8_goes_190 ?_
                refine m_get (v := .int (nI W)) (n := 194) hC hD gf_X8_141 dX8_goes_191 rfl ?_
                refine g_icmp_geN (n := 197) (tgt := 222) hC (by omega) (by omega) dX8_goes_194 (fun h194 => ?_) (fun h194 => ?_)
                ·
                  refine g_iconst (n := 223) (v := (nI 1)) hC (by decide) dX8_goes_222 ?_
                  exact g_zret hC (by rfl) dX8_goes_223 (⟨rfl, rfl, Or.inr (Or.inr ⟨⟨h5, h13⟩, rfl, W, e, cb, f2, hR, hcb, by rw [show j = W by omega]; rfl⟩)⟩)
                ·
                  refine g_aload_n (n := 198) hC rfl dX8_goes_197 ?_
                  refine m_get (v := .ref (M + 7)) (n := 201) hC hD gf_X8_35 dX8_goes_198 rfl ?_
                  refine g_bipush (n := 203) (v := (nI 8)) hC (by decide) dX8_goes_201 ?_
                  refine g_iload_n (n := 204) hC rfl dX8_goes_203 ?_
                  refine g_imulN (n := 205) hC dX8_goes_204 ?_
                  refine g_iload (n := 207) hC rfl dX8_goes_205 ?_
                  refine g_iaddN (n := 208) hC dX8_goes_207 ?_
                  refine g_aload_n (n := 209) hC rfl dX8_goes_208 ?_
                  refine m_get (v := .ref (M + 14)) (n := 212) hC hD gf_X8_56 dX8_goes_209 rfl ?_
                  refine g_iload (n := 214) hC rfl dX8_goes_212 ?_
                  refine m_ld21 (x := (cb j)) (n := 215) hC hD j dX8_goes_214 (rfl) (by omega) (rfl) ?_
                  refine m_st10 (f := (putF cb (8 * pl) (ar 10) j)) (n := 216) hC hD ((8 * pl) + j) dX8_goes_215 (rfl) (by omega) rfl ?_
                  refine G.eqs mdl_uu ?_
                  refine g_iinc (n := 219) (ll1 := [some (.ref M), some (.int a), some (.int b), some (.int (nI pl)), none, some (.int (nI (j + 1)))]) hC dX8_goes_216 rfl (nI_inc _) rfl ?_
                  refine g_goto (n := 188) hC dX8_goes_219 ?_
                  refine G.eqs (show _ = mdl K M (scS sc (nI (clN a b)) (nI W) (nI (wsm w h (plM (sc 3) (w * h) (ar 5) (ar 4) a b) W))) (va_up (va_up (arS (va_up ar 8 (putF (ar 5) (155 * pl) (ar 8) 155)) f2 e cb) 9 (infR (ar 9) (7 * pl) a b (nI (clN a b)) (nI W) (nI (wsm w h (plM (sc 3) (w * h) (ar 5) (ar 4) a b) W)) (scF f2 (ar 4) (w * h) 0) (scF f2 (ar 4) (w * h) 1))) 10 (putF cb (8 * pl) (ar 10) (j + 1))) σ0 from (by rw [putF_s])) ?_
                  exact ih188 (j + 1) (by omega) _ (by first | rfl | (simp [*]; done)) (by omega)
            refine G.eqs (show _ = mdl K M (scS sc (nI (clN a b)) (nI W) (nI (wsm w h (plM (sc 3) (w * h) (ar 5) (ar 4) a b) W))) (va_up (va_up (arS (va_up ar 8 (putF (ar 5) (155 * pl) (ar 8) 155)) f2 e cb) 9 (infR (ar 9) (7 * pl) a b (nI (clN a b)) (nI W) (nI (wsm w h (plM (sc 3) (w * h) (ar 5) (ar 4) a b) W)) (scF f2 (ar 4) (w * h) 0) (scF f2 (ar 4) (w * h) 1))) 10 (putF cb (8 * pl) (ar 10) 0)) σ0 from (by rw [putF_0]; exact congrArg (fun q => mdl K M (scS sc (nI (clN a b)) (nI W) (nI (wsm w h (plM (sc 3) (w * h) (ar 5) (ar 4) a b) W))) q σ0) (va_up_same (va_up (arS (va_up ar 8 (putF (ar 5) (155 * pl) (ar 8) 155)) f2 e cb) 9 (infR (ar 9) (7 * pl) a b (nI (clN a b)) (nI W) (nI (wsm w h (plM (sc 3) (w * h) (ar 5) (ar 4) a b) W)) (scF f2 (ar 4) (w * h) 0) (scF f2 (ar 4) (w * h) 1))) 10).symm)) ?_
            exact G.le (lp188 _ 0 (by omega) _ (by first | rfl | (simp [*]; done)) (Nat.lt_succ_self _)) (And.intro rfl (And.intro rfl (And.intro rfl (And.intro rfl (And.intro rfl (trivial))))))
          ·
            refine g_aload_n (n := 62) hC rfl dX8_goes_61 ?_
            refine m_get (v := .ref (M + 5)) (n := 65) hC hD gf_X8_29 dX8_goes_62 rfl ?_
            refine g_sipush (n := 68) (v := (nI 155)) hC (by decide) dX8_goes_65 ?_
            refine g_iload_n (n := 69) hC rfl dX8_goes_68 ?_
            refine g_imulN (n := 70) hC dX8_goes_69 ?_
            refine g_iload (n := 72) hC rfl dX8_goes_70 ?_
            refine g_iaddN (n := 73) hC dX8_goes_72 ?_
            refine g_aload_n (n := 74) hC rfl dX8_goes_73 ?_
            refine m_get (v := .ref (M + 2)) (n := 77) hC hD gf_X8_20 dX8_goes_74 rfl ?_
            refine g_iload (n := 79) hC rfl dX8_goes_77 ?_
            refine m_ld5 (x := ((ar 5) c)) (n := 80) hC hD c dX8_goes_79 (rfl) (by omega) (rfl) ?_
            refine m_st8 (f := (putF (ar 5) (155 * pl) (ar 8) c)) (n := 81) hC hD ((155 * pl) + c) dX8_goes_80 (rfl) (by omega) rfl ?_
            refine G.eqs mdl_uu ?_
            refine g_iinc (n := 84) (ll1 := [some (.ref M), some (.int a), some (.int b), some (.int (nI pl)), some (.int (nI (c + 1))), none]) hC dX8_goes_81 rfl (nI_inc _) rfl ?_
            refine g_goto (n := 53) hC dX8_goes_84 ?_
            refine G.eqs (show _ = mdl K M sc (va_up ar 8 (putF (ar 5) (155 * pl) (ar 8) (c + 1))) σ0 from (by rw [putF_s])) ?_
            exact ih53 (c + 1) (by omega) _ (by first | rfl | (simp [*]; done)) (by omega)
      refine G.eqs (show _ = mdl K M sc (va_up ar 8 (putF (ar 5) (155 * pl) (ar 8) 0)) σ0 from (by rw [putF_0, va_up_same])) ?_
      exact lp53 _ 0 (by omega) _ (by first | rfl | (simp [*]; done)) (Nat.lt_succ_self _)
    ·
      refine g_aload_n (n := 17) hC rfl dX8_goes_16 ?_
      refine g_iload_n (n := 18) hC rfl dX8_goes_17 ?_
      refine g_cV (n := 21) hC gv_X8_157 (hD 0 (by decide)) mdl_0 (M_mayChoose K hD hB (x := a) (ha)) dX8_goes_18 ?_
      refine g_ifb_ne (n := 24) (tgt := 33) hC dX8_goes_21 (fun h21 => ?_) (fun h21 => ?_)
      ·
        obtain ⟨b0, hb1, hb2⟩ := hb.resolve_left (fun q => h13 (Or.inl q))
        subst hb2
        refine g_aload_n (n := 34) hC rfl dX8_goes_33 ?_
        refine g_iconst (n := 35) (v := (nI 1)) hC (by decide) dX8_goes_34 ?_
        refine g_iload_n (n := 36) hC rfl dX8_goes_35 ?_
        refine g_callV hC gv_X8_160 (M_reports K hD hB (who := 1) (c := b0) (by omega) hb1 (hwv b0 hb1)) (hD 0 (by decide)) mdl_0 (by rfl) (by decide) (by decide) (by rfl) (by rfl) (Nat.le_of_ble_eq_true rfl) (by exact ⟨Nat.le_refl _, Nat.le_refl _⟩) dX8_goes_36 (fun rv9 z9 L9 σ9 hp9 => ?_)
        obtain ⟨rfl, hz9, hL9, hrp⟩ := hp9
        rw [hz9, hL9]
        show G K Γ (z, 0, 0, L) (σ9) 39 [some (.ref M), some (.int a), some (.int (nI b0)), none, none, none] []
        refine g_iconst (n := 40) (v := (nI 0)) hC (by decide) dX8_goes_39 ?_
        exact g_zret hC (by rfl) dX8_goes_40 (⟨rfl, rfl, Or.inr (Or.inl ⟨h5, h13, rfl, b0, hb1, rfl, hrp⟩)⟩)
      ·
        exact absurd h5 h21

set_option maxRecDepth 20000 in
set_option maxHeartbeats 1000000 in
theorem M_play (K : GK) {M : Nat} {sc : Nat → Int32} {ar : Nat → Nat → Int32} {σ0 : GS} {L : List Nat} {z : Nat} (hD : mdom M L) {w h : Nat} (hB : mB sc w h) {a b : Int32} {pl : Nat} (hpl : ar 5 153 = nI pl) (hpl60 : pl ≤ 60) (hwv : ∀ c, c < w * h → wvOK (ar 5) c) : gM K yX8_play cX8_play 3 (some .int) 8 0 0 [.ref M, .int a, .int b] z L (mdl K M sc ar σ0) (fun r z1 L1 σ2 => z1 = z ∧ L1 = L ∧ ((¬ (chOK (w * h) a ∧ chOK (w * h) b) ∧ r = some (.int (nI 0)) ∧ σ2 = mdl K M (va_up sc 0 (nI 1)) ar σ0) ∨ ((chOK (w * h) a ∧ chOK (w * h) b) ∧ ovF (ar 5) (w * h) ∧ r = some (.int (nI 0)) ∧ σ2 = mdl K M (va_up sc 0 (nI 2)) ar σ0) ∨ ((chOK (w * h) a ∧ chOK (w * h) b) ∧ ¬ ovF (ar 5) (w * h) ∧ ¬ mayF (ar 5) a ∧ r = some (.int (nI 0)) ∧ ∃ a0, a0 < w * h ∧ a = nI a0 ∧ rpP K M (va_up sc 0 (nI 3)) ar σ0 0 a0 σ2) ∨ ((chOK (w * h) a ∧ chOK (w * h) b) ∧ ¬ ovF (ar 5) (w * h) ∧ (mayF (ar 5) a ∧ ¬ mayF (ar 5) b) ∧ r = some (.int (nI 0)) ∧ ∃ b0, b0 < w * h ∧ b = nI b0 ∧ rpP K M (va_up sc 0 (nI 3)) ar σ0 1 b0 σ2) ∨ ((chOK (w * h) a ∧ chOK (w * h) b) ∧ ¬ ovF (ar 5) (w * h) ∧ (mayF (ar 5) a ∧ mayF (ar 5) b) ∧ ∃ (W : Nat) (e cb f2 : Nat → Int32), plR w h (sc 3) (ar 5) (ar 4) a b W f2 ∧ (∀ j, j < W → cb j = nI (wnm w h (wit w h (plM (sc 3) (w * h) (ar 5) (ar 4) a b) j))) ∧ r = some (.int (nI (wsm w h (plM (sc 3) (w * h) (ar 5) (ar 4) a b) W))) ∧ σ2 = mdl K M (scS (va_up sc 0 (nI 0)) (nI (clN a b)) (nI W) (nI (wsm w h (plM (sc 3) (w * h) (ar 5) (ar 4) a b) W))) (goA w h ar pl a b W (wsm w h (plM (sc 3) (w * h) (ar 5) (ar 4) a b) W) e cb f2) σ0))) := by
  obtain ⟨hw, hh, hw1, hw2, hh1, hh2⟩ := id hB
  have hn : w * h ≤ 49 := Nat.mul_le_mul hw2 hh2
  have hn1 : 16 ≤ w * h := Nat.mul_le_mul hw1 hh1
  refine g_intro [some (.ref M), some (.int a), some (.int b)] (fun Γ hC => ?_) (by simp [g_en, lv_args, Value.category])
  refine g_aload_n (n := 1) hC rfl dX8_play_0 ?_
  refine g_aload_n (n := 2) hC rfl dX8_play_1 ?_
  refine g_iload_n (n := 3) hC rfl dX8_play_2 ?_
  refine g_cV (n := 6) hC gv_X8_167 (hD 0 (by decide)) mdl_0 (M_isChoiceN K hD hB) dX8_play_3 ?_
  refine g_ifb_eq (n := 9) (tgt := 17) hC dX8_play_6 (fun h6 => ?_) (fun h6 => ?_)
  ·
    have h3 := h6
    refine g_iconst (n := 18) (v := (nI 1)) hC (by decide) dX8_play_17 ?_
    refine g_goto (n := 33) hC dX8_play_18 ?_
    refine m_put0 (n := 36) hC hD gp_X8_73 dX8_play_33 ?_
    refine g_aload_n (n := 37) hC rfl dX8_play_36 ?_
    refine m_get (v := .int (nI 1)) (n := 40) hC hD gf_X8_73 dX8_play_37 rfl ?_
    refine g_if_le (n := 43) (tgt := 45) hC dX8_play_40 (fun h9 => absurd h9 (by decide)) (fun _ => ?_)
    refine g_iconst (n := 44) (v := (nI 0)) hC (by decide) dX8_play_43 ?_
    exact g_iret hC dX8_play_44 (⟨rfl, rfl, (Or.inl ⟨fun q => h3 q.1, rfl, rfl⟩)⟩)
  ·
    have h3 := h6
    refine g_aload_n (n := 10) hC rfl dX8_play_9 ?_
    refine g_iload_n (n := 11) hC rfl dX8_play_10 ?_
    refine g_cV (n := 14) hC gv_X8_167 (hD 0 (by decide)) mdl_0 (M_isChoiceN K hD hB) dX8_play_11 ?_
    refine g_ifb_ne (n := 17) (tgt := 21) hC dX8_play_14 (fun h14 => ?_) (fun h14 => ?_)
    ·
      have h11 := h14
      refine g_aload_n (n := 22) hC rfl dX8_play_21 ?_
      refine g_cV (n := 25) hC gv_X8_170 (hD 0 (by decide)) mdl_0 (M_over K hD hB) dX8_play_22 ?_
      refine g_ifb_eq (n := 28) (tgt := 32) hC dX8_play_25 (fun h25 => ?_) (fun h25 => ?_)
      ·
        have h22 := h25
        refine g_iconst (n := 33) (v := (nI 0)) hC (by decide) dX8_play_32 ?_
        refine m_put0 (n := 36) hC hD gp_X8_73 dX8_play_33 ?_
        refine g_aload_n (n := 37) hC rfl dX8_play_36 ?_
        refine m_get (v := .int (nI 0)) (n := 40) hC hD gf_X8_73 dX8_play_37 rfl ?_
        refine g_if_le (n := 43) (tgt := 45) hC dX8_play_40 (fun _ => ?_) (fun h9 => absurd h9 (by decide))
        refine g_aload_n (n := 46) hC rfl dX8_play_45 ?_
        refine g_iload_n (n := 47) hC rfl dX8_play_46 ?_
        refine g_iload_n (n := 48) hC rfl dX8_play_47 ?_
        have hp6 : pl < 60 := by
          rcases Nat.lt_or_ge pl 60 with q | q
          · exact q
          · exact absurd (Or.inr (Or.inl (by rw [hpl, show pl = 60 by omega]))) h22
        refine g_callV hC gv_X8_174 (M_goes K hD (show mB (va_up sc 0 (nI 0)) w h from hB) hpl hp6 hwv h3 h11) (hD 0 (by decide)) mdl_0 (by rfl) (by decide) (by decide) (by rfl) (by rfl) (Nat.le_of_ble_eq_true rfl) (by exact ⟨Nat.le_refl _, Nat.le_refl _⟩) dX8_play_48 (fun rv9 z9 L9 σ9 hp9 => ?_)
        obtain ⟨hz9, hL9, hp9⟩ := hp9
        rw [hz9, hL9]
        rcases hp9 with ⟨q1, rfl, a0, q2, q3, hrp⟩ | ⟨q1, q4, rfl, b0, q2, q3, hrp⟩ | ⟨q1, rfl, W, e, cb, f2, hR, hcb, hs9⟩
        · rcases hrp with ⟨g1, hs9⟩ | ⟨sn, wn, g2, g3, g4, g5, hs9⟩
          · rw [hs9]
            show G K Γ (z, 0, 0, L) (mdl K M (va_up (va_up sc 0 (nI 0)) 27 (nI 3)) (va_up (va_up ar 25 (rp3C (ar 25) (ar 5) 0 a0)) 26 (rp3D (ar 26) (ar 5) a0)) σ0) 51 [some (.ref M), some (.int a), some (.int b)] [.int (nI 0)]
            refine g_if_eq (n := 54) (tgt := 61) hC dX8_play_51 (fun _ => ?_) (fun h9 => absurd h9 (by decide))
            refine g_aload_n (n := 62) hC rfl dX8_play_61 ?_
            refine g_iconst (n := 63) (v := (nI 3)) hC (by decide) dX8_play_62 ?_
            refine g_cV (n := 66) hC gv_X8_178 (hD 0 (by decide)) mdl_0 (M_no K hD) dX8_play_63 ?_
            refine G.eqs (show _ = mdl K M (va_up (va_up (va_up sc 0 (nI 0)) 27 (nI 3)) 0 (nI 3)) (va_up (va_up ar 25 (rp3C (ar 25) (ar 5) 0 a0)) 26 (rp3D (ar 26) (ar 5) a0)) σ0 from rfl) ?_
            exact g_iret hC dX8_play_66 (⟨rfl, rfl, (Or.inr (Or.inr (Or.inl ⟨⟨h3, h11⟩, h22, q1, rfl, a0, q2, q3, Or.inl ⟨g1, (congrArg (fun q => mdl K M q _ σ0) (funext fun i => by by_cases e1 : i = 0 <;> by_cases e2 : i = 27 <;> simp [va_up, e1, e2] <;> omega))⟩⟩)))⟩)
          · rw [hs9]
            show G K Γ (z, 0, 0, L) (mdl K M (va_up (va_up sc 0 (nI 0)) 27 (nI 4)) (va_up (va_up ar 25 (va_up (rp3C (ar 25) (ar 5) 0 a0) 3 (nI 20 + ar 5 (98 + a0)))) 26 (va_up (rp3D (ar 26) (ar 5) a0) 3 (ar 10 (8 * sn + wn)))) σ0) 51 [some (.ref M), some (.int a), some (.int b)] [.int (nI 0)]
            refine g_if_eq (n := 54) (tgt := 61) hC dX8_play_51 (fun _ => ?_) (fun h9 => absurd h9 (by decide))
            refine g_aload_n (n := 62) hC rfl dX8_play_61 ?_
            refine g_iconst (n := 63) (v := (nI 3)) hC (by decide) dX8_play_62 ?_
            refine g_cV (n := 66) hC gv_X8_178 (hD 0 (by decide)) mdl_0 (M_no K hD) dX8_play_63 ?_
            refine G.eqs (show _ = mdl K M (va_up (va_up (va_up sc 0 (nI 0)) 27 (nI 4)) 0 (nI 3)) (va_up (va_up ar 25 (va_up (rp3C (ar 25) (ar 5) 0 a0) 3 (nI 20 + ar 5 (98 + a0)))) 26 (va_up (rp3D (ar 26) (ar 5) a0) 3 (ar 10 (8 * sn + wn)))) σ0 from rfl) ?_
            exact g_iret hC dX8_play_66 (⟨rfl, rfl, (Or.inr (Or.inr (Or.inl ⟨⟨h3, h11⟩, h22, q1, rfl, a0, q2, q3, Or.inr ⟨sn, wn, g2, g3, g4, g5, (congrArg (fun q => mdl K M q _ σ0) (funext fun i => by by_cases e1 : i = 0 <;> by_cases e2 : i = 27 <;> simp [va_up, e1, e2] <;> omega))⟩⟩)))⟩)
        · rcases hrp with ⟨g1, hs9⟩ | ⟨sn, wn, g2, g3, g4, g5, hs9⟩
          · rw [hs9]
            show G K Γ (z, 0, 0, L) (mdl K M (va_up (va_up sc 0 (nI 0)) 27 (nI 3)) (va_up (va_up ar 25 (rp3C (ar 25) (ar 5) 1 b0)) 26 (rp3D (ar 26) (ar 5) b0)) σ0) 51 [some (.ref M), some (.int a), some (.int b)] [.int (nI 0)]
            refine g_if_eq (n := 54) (tgt := 61) hC dX8_play_51 (fun _ => ?_) (fun h9 => absurd h9 (by decide))
            refine g_aload_n (n := 62) hC rfl dX8_play_61 ?_
            refine g_iconst (n := 63) (v := (nI 3)) hC (by decide) dX8_play_62 ?_
            refine g_cV (n := 66) hC gv_X8_178 (hD 0 (by decide)) mdl_0 (M_no K hD) dX8_play_63 ?_
            refine G.eqs (show _ = mdl K M (va_up (va_up (va_up sc 0 (nI 0)) 27 (nI 3)) 0 (nI 3)) (va_up (va_up ar 25 (rp3C (ar 25) (ar 5) 1 b0)) 26 (rp3D (ar 26) (ar 5) b0)) σ0 from rfl) ?_
            exact g_iret hC dX8_play_66 (⟨rfl, rfl, (Or.inr (Or.inr (Or.inr (Or.inl ⟨⟨h3, h11⟩, h22, ⟨q1, q4⟩, rfl, b0, q2, q3, Or.inl ⟨g1, (congrArg (fun q => mdl K M q _ σ0) (funext fun i => by by_cases e1 : i = 0 <;> by_cases e2 : i = 27 <;> simp [va_up, e1, e2] <;> omega))⟩⟩))))⟩)
          · rw [hs9]
            show G K Γ (z, 0, 0, L) (mdl K M (va_up (va_up sc 0 (nI 0)) 27 (nI 4)) (va_up (va_up ar 25 (va_up (rp3C (ar 25) (ar 5) 1 b0) 3 (nI 20 + ar 5 (98 + b0)))) 26 (va_up (rp3D (ar 26) (ar 5) b0) 3 (ar 10 (8 * sn + wn)))) σ0) 51 [some (.ref M), some (.int a), some (.int b)] [.int (nI 0)]
            refine g_if_eq (n := 54) (tgt := 61) hC dX8_play_51 (fun _ => ?_) (fun h9 => absurd h9 (by decide))
            refine g_aload_n (n := 62) hC rfl dX8_play_61 ?_
            refine g_iconst (n := 63) (v := (nI 3)) hC (by decide) dX8_play_62 ?_
            refine g_cV (n := 66) hC gv_X8_178 (hD 0 (by decide)) mdl_0 (M_no K hD) dX8_play_63 ?_
            refine G.eqs (show _ = mdl K M (va_up (va_up (va_up sc 0 (nI 0)) 27 (nI 4)) 0 (nI 3)) (va_up (va_up ar 25 (va_up (rp3C (ar 25) (ar 5) 1 b0) 3 (nI 20 + ar 5 (98 + b0)))) 26 (va_up (rp3D (ar 26) (ar 5) b0) 3 (ar 10 (8 * sn + wn)))) σ0 from rfl) ?_
            exact g_iret hC dX8_play_66 (⟨rfl, rfl, (Or.inr (Or.inr (Or.inr (Or.inl ⟨⟨h3, h11⟩, h22, ⟨q1, q4⟩, rfl, b0, q2, q3, Or.inr ⟨sn, wn, g2, g3, g4, g5, (congrArg (fun q => mdl K M q _ σ0) (funext fun i => by by_cases e1 : i = 0 <;> by_cases e2 : i = 27 <;> simp [va_up, e1, e2] <;> omega))⟩⟩))))⟩)
        · rw [hs9]
          show G K Γ (z, 0, 0, L) (mdl K M (scS (va_up sc 0 (nI 0)) (nI (clN a b)) (nI W) (nI (wsm w h (plM (sc 3) (w * h) (ar 5) (ar 4) a b) W))) (goA w h ar pl a b W (wsm w h (plM (sc 3) (w * h) (ar 5) (ar 4) a b) W) e cb f2) σ0) 51 [some (.ref M), some (.int a), some (.int b)] [.int (nI 1)]
          refine g_if_eq (n := 54) (tgt := 61) hC dX8_play_51 (fun h9 => absurd h9 (by decide)) (fun _ => ?_)
          refine g_aload_n (n := 55) hC rfl dX8_play_54 ?_
          refine m_get (v := .int (nI (wsm w h (plM (sc 3) (w * h) (ar 5) (ar 4) a b) W))) (n := 58) hC hD gf_X8_144 dX8_play_55 rfl ?_
          refine g_goto (n := 66) hC dX8_play_58 ?_
          exact g_iret hC dX8_play_66 (⟨rfl, rfl, (Or.inr (Or.inr (Or.inr (Or.inr ⟨⟨h3, h11⟩, h22, q1, W, e, cb, f2, hR, hcb, rfl, rfl⟩))))⟩)
      ·
        have h22 := h25
        refine g_iconst (n := 29) (v := (nI 2)) hC (by decide) dX8_play_28 ?_
        refine g_goto (n := 33) hC dX8_play_29 ?_
        refine m_put0 (n := 36) hC hD gp_X8_73 dX8_play_33 ?_
        refine g_aload_n (n := 37) hC rfl dX8_play_36 ?_
        refine m_get (v := .int (nI 2)) (n := 40) hC hD gf_X8_73 dX8_play_37 rfl ?_
        refine g_if_le (n := 43) (tgt := 45) hC dX8_play_40 (fun h9 => absurd h9 (by decide)) (fun _ => ?_)
        refine g_iconst (n := 44) (v := (nI 0)) hC (by decide) dX8_play_43 ?_
        exact g_iret hC dX8_play_44 (⟨rfl, rfl, (Or.inr (Or.inl ⟨⟨h3, h11⟩, h22, rfl, rfl⟩))⟩)
    ·
      have h11 := h14
      refine g_iconst (n := 18) (v := (nI 1)) hC (by decide) dX8_play_17 ?_
      refine g_goto (n := 33) hC dX8_play_18 ?_
      refine m_put0 (n := 36) hC hD gp_X8_73 dX8_play_33 ?_
      refine g_aload_n (n := 37) hC rfl dX8_play_36 ?_
      refine m_get (v := .int (nI 1)) (n := 40) hC hD gf_X8_73 dX8_play_37 rfl ?_
      refine g_if_le (n := 43) (tgt := 45) hC dX8_play_40 (fun h9 => absurd h9 (by decide)) (fun _ => ?_)
      refine g_iconst (n := 44) (v := (nI 0)) hC (by decide) dX8_play_43 ?_
      exact g_iret hC dX8_play_44 (⟨rfl, rfl, (Or.inl ⟨fun q => h11 q.2, rfl, rfl⟩)⟩)
